theorem iqX0 : ∀ w ∈ u_ws RX0 TX0 7, w ∈ q_tb := fun w h => List.mem_filter.mpr ⟨inX0 w h, (by decide +kernel : ∀ w ∈ wsX00, goodWord w = true) w h⟩
theorem iqX1 : ∀ w ∈ u_ws RX1 TX1 6, w ∈ q_tb := fun w h => List.mem_filter.mpr ⟨inX1 w h, (by decide +kernel : ∀ w ∈ wsX10, goodWord w = true) w h⟩
theorem iqX2 : ∀ w ∈ u_ws RX2 TX2 2, w ∈ q_tb := fun w h => List.mem_filter.mpr ⟨inX2 w h, (by decide +kernel : ∀ w ∈ wsX20, goodWord w = true) w h⟩
theorem iqX3 : ∀ w ∈ u_ws RX3 TX3 13, w ∈ q_tb := fun w h => List.mem_filter.mpr ⟨inX3 w h, (by decide +kernel : ∀ w ∈ wsX30, goodWord w = true) w h⟩
theorem iqX4 : ∀ w ∈ u_ws RX4 TX4 3, w ∈ q_tb := fun w h => List.mem_filter.mpr ⟨inX4 w h, (by decide +kernel : ∀ w ∈ wsX40, goodWord w = true) w h⟩
theorem iqX5 : ∀ w ∈ u_ws RX5 TX5 7, w ∈ q_tb := fun w h => List.mem_filter.mpr ⟨inX5 w h, (by decide +kernel : ∀ w ∈ wsX50, goodWord w = true) w h⟩
theorem iqX6 : ∀ w ∈ u_ws RX6 TX6 31, w ∈ q_tb := fun w h => List.mem_filter.mpr ⟨inX6 w h, (by decide +kernel : ∀ w ∈ wsX60, goodWord w = true) w h⟩
abbrev uX0_init : q_M := (cX0_init, RX0, 1, { frames := 1, cells := 0, slots := 0, locals := 12 }, none, "<init>")
abbrev uX0_keepSums : q_M := (cX0_keepSums, RX0, 7, { frames := 0, cells := 0, slots := 0, locals := 0 }, none, "keepSums")
abbrev uX0_keepOutput : q_M := (cX0_keepOutput, RX0, 5, { frames := 0, cells := 0, slots := 0, locals := 0 }, none, "keepOutput")
abbrev uX0_isWithinBound : q_M := (cX0_isWithinBound, RX0, 9, { frames := 1, cells := 0, slots := 0, locals := 21 }, some .boolean, "isWithinBound")
abbrev uX1_init : q_M := (cX1_init, RX1, 1, { frames := 1, cells := 1, slots := 32, locals := 12 }, none, "<init>")
abbrev uX1_begin : q_M := (cX1_begin, RX1, 4, { frames := 0, cells := 0, slots := 0, locals := 0 }, none, "begin")
abbrev uX1_setFactor : q_M := (cX1_setFactor, RX1, 3, { frames := 1, cells := 0, slots := 0, locals := 20 }, none, "setFactor")
abbrev uX1_factor : q_M := (cX1_factor, RX1, 2, { frames := 0, cells := 0, slots := 0, locals := 0 }, some .int, "factor")
abbrev uX2_init : q_M := (cX2_init, RX2, 1, { frames := 1, cells := 1, slots := 32, locals := 12 }, none, "<init>")
abbrev uX2_push : q_M := (cX2_push, RX2, 2, { frames := 0, cells := 0, slots := 0, locals := 0 }, none, "push")
abbrev uX2_back : q_M := (cX2_back, RX2, 2, { frames := 0, cells := 0, slots := 0, locals := 0 }, some .int, "back")
abbrev uX2_clear : q_M := (cX2_clear, RX2, 2, { frames := 0, cells := 0, slots := 0, locals := 0 }, none, "clear")
abbrev uX3_init : q_M := (cX3_init, RX3, 3, { frames := 2, cells := 6, slots := 111, locals := 32 }, none, "<init>")
abbrev uX3_hasTap : q_M := (cX3_hasTap, RX3, 2, { frames := 0, cells := 0, slots := 0, locals := 0 }, some .boolean, "hasTap")
abbrev uX3_tapAt : q_M := (cX3_tapAt, RX3, 2, { frames := 1, cells := 0, slots := 0, locals := 21 }, some .int, "tapAt")
abbrev uX3_setTap : q_M := (cX3_setTap, RX3, 3, { frames := 1, cells := 0, slots := 0, locals := 21 }, none, "setTap")
abbrev uX3_addTap : q_M := (cX3_addTap, RX3, 2, { frames := 0, cells := 0, slots := 0, locals := 0 }, some .boolean, "addTap")
abbrev uX3_filling : q_M := (cX3_filling, RX3, 1, { frames := 0, cells := 0, slots := 0, locals := 0 }, some .int, "filling")
abbrev uX3_symmetry : q_M := (cX3_symmetry, RX3, 6, { frames := 2, cells := 0, slots := 0, locals := 42 }, some .int, "symmetry")
abbrev uX3_isSafe : q_M := (cX3_isSafe, RX3, 13, { frames := 2, cells := 0, slots := 0, locals := 53 }, some .boolean, "isSafe")
abbrev uX3_setPlan : q_M := (cX3_setPlan, RX3, 5, { frames := 2, cells := 0, slots := 0, locals := 53 }, none, "setPlan")
abbrev uX3_dropPlan : q_M := (cX3_dropPlan, RX3, 1, { frames := 0, cells := 0, slots := 0, locals := 0 }, none, "dropPlan")
abbrev uX3_forget : q_M := (cX3_forget, RX3, 1, { frames := 1, cells := 0, slots := 0, locals := 21 }, none, "forget")
abbrev uX3_pass : q_M := (cX3_pass, RX3, 9, { frames := 3, cells := 0, slots := 0, locals := 81 }, some .int, "pass")
abbrev uX3_comesOut : q_M := (cX3_comesOut, RX3, 1, { frames := 0, cells := 0, slots := 0, locals := 0 }, some .boolean, "comesOut")
abbrev uX3_take : q_M := (cX3_take, RX3, 11, { frames := 2, cells := 0, slots := 0, locals := 51 }, some .int, "take")
abbrev uX3_mixRows : q_M := (cX3_mixRows, RX3, 4, { frames := 2, cells := 0, slots := 0, locals := 42 }, some .long, "mixRows")
abbrev uX3_nearest : q_M := (cX3_nearest, RX3, 9, { frames := 1, cells := 0, slots := 0, locals := 25 }, some .long, "nearest")
abbrev uX3_roundedSum : q_M := (cX3_roundedSum, RX3, 11, { frames := 1, cells := 0, slots := 0, locals := 21 }, some .long, "roundedSum")
abbrev uX3_heldNumber : q_M := (cX3_heldNumber, RX3, 3, { frames := 1, cells := 0, slots := 0, locals := 23 }, some .int, "heldNumber")
abbrev uX3_isOdd : q_M := (cX3_isOdd, RX3, 2, { frames := 0, cells := 0, slots := 0, locals := 0 }, some .boolean, "isOdd")
abbrev uX4_init : q_M := (cX4_init, RX4, 1, { frames := 1, cells := 1, slots := 600, locals := 12 }, none, "<init>")
abbrev uX4_add : q_M := (cX4_add, RX4, 2, { frames := 0, cells := 0, slots := 0, locals := 0 }, none, "add")
abbrev uX4_has : q_M := (cX4_has, RX4, 2, { frames := 0, cells := 0, slots := 0, locals := 0 }, some .boolean, "has")
abbrev uX4_at : q_M := (cX4_at, RX4, 2, { frames := 1, cells := 0, slots := 0, locals := 21 }, some .int, "at")
abbrev uX4_mixSamples : q_M := (cX4_mixSamples, RX4, 4, { frames := 2, cells := 0, slots := 0, locals := 42 }, some .long, "mixSamples")
abbrev uX5_init : q_M := (cX5_init, RX5, 1, { frames := 2, cells := 6, slots := 651, locals := 32 }, none, "<init>")
abbrev uX5_stage : q_M := (cX5_stage, RX5, 3, { frames := 3, cells := 7, slots := 124, locals := 54 }, some .int, "stage")
abbrev uX5_tap : q_M := (cX5_tap, RX5, 4, { frames := 2, cells := 0, slots := 0, locals := 46 }, some .int, "tap")
abbrev uX5_change : q_M := (cX5_change, RX5, 6, { frames := 2, cells := 0, slots := 0, locals := 46 }, some .int, "change")
abbrev uX5_way : q_M := (cX5_way, RX5, 6, { frames := 1, cells := 0, slots := 0, locals := 22 }, some .int, "way")
abbrev uX5_plan : q_M := (cX5_plan, RX5, 6, { frames := 3, cells := 0, slots := 0, locals := 85 }, some .int, "plan")
abbrev uX5_planAt : q_M := (cX5_planAt, RX5, 6, { frames := 3, cells := 0, slots := 0, locals := 85 }, some .int, "planAt")
abbrev uX5_coefficient : q_M := (cX5_coefficient, RX5, 4, { frames := 1, cells := 0, slots := 0, locals := 21 }, some .int, "coefficient")
abbrev uX5_about : q_M := (cX5_about, RX5, 5, { frames := 3, cells := 0, slots := 0, locals := 67 }, some .int, "about")
abbrev uX5_norm : q_M := (cX5_norm, RX5, 3, { frames := 1, cells := 0, slots := 0, locals := 21 }, some .long, "norm")
abbrev uX5_join : q_M := (cX5_join, RX5, 3, { frames := 2, cells := 0, slots := 0, locals := 44 }, some .int, "join")
abbrev uX5_part : q_M := (cX5_part, RX5, 2, { frames := 0, cells := 0, slots := 0, locals := 0 }, some .int, "part")
abbrev uX5_put : q_M := (cX5_put, RX5, 2, { frames := 5, cells := 0, slots := 0, locals := 136 }, some .int, "put")
abbrev uX5_ramp : q_M := (cX5_ramp, RX5, 7, { frames := 5, cells := 0, slots := 0, locals := 136 }, some .int, "ramp")
abbrev uX5_out : q_M := (cX5_out, RX5, 2, { frames := 2, cells := 0, slots := 0, locals := 42 }, some .int, "out")
abbrev uX5_empty : q_M := (cX5_empty, RX5, 2, { frames := 0, cells := 0, slots := 0, locals := 0 }, some .int, "empty")
abbrev uX5_reset : q_M := (cX5_reset, RX5, 3, { frames := 2, cells := 0, slots := 0, locals := 41 }, some .int, "reset")
abbrev uX5_through : q_M := (cX5_through, RX5, 4, { frames := 3, cells := 0, slots := 0, locals := 81 }, some .int, "through")
abbrev uX5_told : q_M := (cX5_told, RX5, 5, { frames := 1, cells := 0, slots := 0, locals := 21 }, some .long, "told")
abbrev uX5_near : q_M := (cX5_near, RX5, 3, { frames := 2, cells := 0, slots := 0, locals := 49 }, some .int, "near")
abbrev uX5_counted : q_M := (cX5_counted, RX5, 5, { frames := 1, cells := 0, slots := 0, locals := 21 }, some .long, "counted")
abbrev uX5_count : q_M := (cX5_count, RX5, 2, { frames := 0, cells := 0, slots := 0, locals := 0 }, some .int, "count")
abbrev uX5_digest : q_M := (cX5_digest, RX5, 5, { frames := 4, cells := 0, slots := 0, locals := 91 }, some .long, "digest")
abbrev uX5_within : q_M := (cX5_within, RX5, 3, { frames := 0, cells := 0, slots := 0, locals := 0 }, some .boolean, "within")
abbrev uX5_isBy : q_M := (cX5_isBy, RX5, 1, { frames := 1, cells := 0, slots := 0, locals := 22 }, some .boolean, "isBy")
abbrev uX5_isSample : q_M := (cX5_isSample, RX5, 1, { frames := 1, cells := 0, slots := 0, locals := 22 }, some .boolean, "isSample")
abbrev uX5_isPlan : q_M := (cX5_isPlan, RX5, 2, { frames := 1, cells := 0, slots := 0, locals := 22 }, some .boolean, "isPlan")
abbrev uX5_find : q_M := (cX5_find, RX5, 2, { frames := 0, cells := 0, slots := 0, locals := 0 }, some (.object "FirChain$Stage"), "find")
abbrev uX5_placeOf : q_M := (cX5_placeOf, RX5, 3, { frames := 0, cells := 0, slots := 0, locals := 0 }, some .int, "placeOf")
abbrev uX5_unplan : q_M := (cX5_unplan, RX5, 5, { frames := 1, cells := 0, slots := 0, locals := 22 }, none, "unplan")
abbrev uX5_filledByChain : q_M := (cX5_filledByChain, RX5, 4, { frames := 1, cells := 0, slots := 0, locals := 21 }, some .int, "filledByChain")
abbrev uX5_send : q_M := (cX5_send, RX5, 8, { frames := 4, cells := 0, slots := 0, locals := 109 }, some .int, "send")
abbrev uX6_init : q_M := (cX6_init, RX6, 1, { frames := 1, cells := 27, slots := 1664, locals := 12 }, none, "<init>")
abbrev uX6_in : q_M := (cX6_in, RX6, 6, { frames := 0, cells := 0, slots := 0, locals := 0 }, some .boolean, "in")
abbrev uX6_isStage : q_M := (cX6_isStage, RX6, 2, { frames := 1, cells := 0, slots := 0, locals := 25 }, some .boolean, "isStage")
abbrev uX6_size : q_M := (cX6_size, RX6, 2, { frames := 0, cells := 0, slots := 0, locals := 0 }, some .long, "size")
abbrev uX6_stage : q_M := (cX6_stage, RX6, 3, { frames := 1, cells := 0, slots := 0, locals := 25 }, some .int, "stage")
abbrev uX6_placeOf : q_M := (cX6_placeOf, RX6, 3, { frames := 0, cells := 0, slots := 0, locals := 0 }, some .int, "placeOf")
abbrev uX6_unplan : q_M := (cX6_unplan, RX6, 4, { frames := 1, cells := 0, slots := 0, locals := 22 }, none, "unplan")
abbrev uX6_isTap : q_M := (cX6_isTap, RX6, 1, { frames := 1, cells := 0, slots := 0, locals := 25 }, some .boolean, "isTap")
abbrev uX6_tap : q_M := (cX6_tap, RX6, 3, { frames := 2, cells := 0, slots := 0, locals := 46 }, some .int, "tap")
abbrev uX6_change : q_M := (cX6_change, RX6, 5, { frames := 2, cells := 0, slots := 0, locals := 46 }, some .int, "change")
abbrev uX6_way : q_M := (cX6_way, RX6, 5, { frames := 2, cells := 0, slots := 0, locals := 46 }, some .int, "way")
abbrev uX6_down : q_M := (cX6_down, RX6, 6, { frames := 0, cells := 0, slots := 0, locals := 0 }, some .long, "down")
abbrev uX6_nearest : q_M := (cX6_nearest, RX6, 8, { frames := 1, cells := 0, slots := 0, locals := 25 }, some .long, "nearest")
abbrev uX6_factorAt : q_M := (cX6_factorAt, RX6, 4, { frames := 2, cells := 0, slots := 0, locals := 52 }, some .long, "factorAt")
abbrev uX6_isSafe : q_M := (cX6_isSafe, RX6, 12, { frames := 3, cells := 0, slots := 0, locals := 75 }, some .boolean, "isSafe")
abbrev uX6_forgets : q_M := (cX6_forgets, RX6, 3, { frames := 0, cells := 0, slots := 0, locals := 0 }, none, "forgets")
abbrev uX6_plans : q_M := (cX6_plans, RX6, 6, { frames := 3, cells := 0, slots := 0, locals := 75 }, some .int, "plans")
abbrev uX6_isPlan : q_M := (cX6_isPlan, RX6, 4, { frames := 2, cells := 0, slots := 0, locals := 46 }, some .boolean, "isPlan")
abbrev uX6_plan : q_M := (cX6_plan, RX6, 5, { frames := 4, cells := 0, slots := 0, locals := 106 }, some .int, "plan")
abbrev uX6_planAt : q_M := (cX6_planAt, RX6, 5, { frames := 4, cells := 0, slots := 0, locals := 106 }, some .int, "planAt")
abbrev uX6_coefficient : q_M := (cX6_coefficient, RX6, 3, { frames := 2, cells := 0, slots := 0, locals := 46 }, some .int, "coefficient")
abbrev uX6_mirrored : q_M := (cX6_mirrored, RX6, 6, { frames := 0, cells := 0, slots := 0, locals := 0 }, some .int, "mirrored")
abbrev uX6_aboutOf : q_M := (cX6_aboutOf, RX6, 3, { frames := 1, cells := 0, slots := 0, locals := 25 }, some .int, "aboutOf")
abbrev uX6_about : q_M := (cX6_about, RX6, 3, { frames := 2, cells := 0, slots := 0, locals := 47 }, some .int, "about")
abbrev uX6_normOf : q_M := (cX6_normOf, RX6, 5, { frames := 1, cells := 0, slots := 0, locals := 21 }, some .long, "normOf")
abbrev uX6_norm : q_M := (cX6_norm, RX6, 2, { frames := 2, cells := 0, slots := 0, locals := 46 }, some .long, "norm")
abbrev uX6_round : q_M := (cX6_round, RX6, 6, { frames := 2, cells := 0, slots := 0, locals := 52 }, some .long, "round")
abbrev uX6_comes : q_M := (cX6_comes, RX6, 12, { frames := 3, cells := 0, slots := 0, locals := 77 }, some .int, "comes")
abbrev uX6_goes : q_M := (cX6_goes, RX6, 9, { frames := 4, cells := 0, slots := 0, locals := 108 }, some .int, "goes")
abbrev uX6_puts : q_M := (cX6_puts, RX6, 5, { frames := 5, cells := 0, slots := 0, locals := 136 }, some .int, "puts")
abbrev uX6_filled : q_M := (cX6_filled, RX6, 2, { frames := 0, cells := 0, slots := 0, locals := 0 }, some .int, "filled")
abbrev uX6_join : q_M := (cX6_join, RX6, 4, { frames := 2, cells := 0, slots := 0, locals := 46 }, some .int, "join")
abbrev uX6_part : q_M := (cX6_part, RX6, 2, { frames := 0, cells := 0, slots := 0, locals := 0 }, some .int, "part")
abbrev uX6_isSample : q_M := (cX6_isSample, RX6, 1, { frames := 1, cells := 0, slots := 0, locals := 25 }, some .boolean, "isSample")
abbrev uX6_put : q_M := (cX6_put, RX6, 2, { frames := 6, cells := 0, slots := 0, locals := 160 }, some .int, "put")
abbrev uX6_ramp : q_M := (cX6_ramp, RX6, 7, { frames := 6, cells := 0, slots := 0, locals := 160 }, some .int, "ramp")
abbrev uX6_out : q_M := (cX6_out, RX6, 2, { frames := 1, cells := 0, slots := 0, locals := 25 }, some .int, "out")
abbrev uX6_empty : q_M := (cX6_empty, RX6, 2, { frames := 0, cells := 0, slots := 0, locals := 0 }, some .int, "empty")
abbrev uX6_reset : q_M := (cX6_reset, RX6, 2, { frames := 1, cells := 0, slots := 0, locals := 22 }, some .int, "reset")
abbrev uX6_through : q_M := (cX6_through, RX6, 3, { frames := 4, cells := 0, slots := 0, locals := 108 }, some .int, "through")
abbrev uX6_hasTold : q_M := (cX6_hasTold, RX6, 2, { frames := 2, cells := 0, slots := 0, locals := 46 }, some .boolean, "hasTold")
abbrev uX6_told : q_M := (cX6_told, RX6, 3, { frames := 3, cells := 0, slots := 0, locals := 67 }, some .long, "told")
abbrev uX6_near : q_M := (cX6_near, RX6, 8, { frames := 3, cells := 0, slots := 0, locals := 67 }, some .int, "near")
abbrev uX6_counted : q_M := (cX6_counted, RX6, 3, { frames := 2, cells := 0, slots := 0, locals := 46 }, some .long, "counted")
abbrev uX6_count : q_M := (cX6_count, RX6, 2, { frames := 0, cells := 0, slots := 0, locals := 0 }, some .int, "count")
abbrev uX6_digest : q_M := (cX6_digest, RX6, 5, { frames := 3, cells := 0, slots := 0, locals := 68 }, some .long, "digest")
abbrev uJ9_floorDiv_f86c9 : q_M := (cJ9_floorDiv_f86c9, RJ9, 6, { frames := 0, cells := 0, slots := 0, locals := 0 }, some .long, "floorDiv")
abbrev uJ9_abs_0f7a4 : q_M := (cJ9_abs_0f7a4, RJ9, 1, { frames := 0, cells := 0, slots := 0, locals := 0 }, some .int, "abs")
abbrev uJ9_abs_067f4 : q_M := (cJ9_abs_067f4, RJ9, 2, { frames := 0, cells := 0, slots := 0, locals := 0 }, some .long, "abs")
abbrev uJ9_max_f86c9 : q_M := (cJ9_max_f86c9, RJ9, 4, { frames := 0, cells := 0, slots := 0, locals := 0 }, some .long, "max")
abbrev uJ9_min_f86c9 : q_M := (cJ9_min_f86c9, RJ9, 4, { frames := 0, cells := 0, slots := 0, locals := 0 }, some .long, "min")
abbrev uL_law : q_M := (cL_law, RL, 4, room_1, some .boolean, "law")
theorem kl_X0_3 : Cond.methodLink RX0 3 objectInit ∈ q_tb := q_in (i := 136) (by decide +kernel) rfl
theorem pl_X0_9 : q_PL RX0 9 0 0 false (.boolean) := ⟨RX0, TX0, 7, tyX0, rfl, by decide, iqX0, q_in (i := 137) (by decide +kernel) rfl, tyX0_ok, nmX0, rfl, rfl, fun h => by first | rfl | cases h⟩
theorem pl_X0_15 : q_PL RX0 15 0 1 false (.long) := ⟨RX0, TX0, 7, tyX0, rfl, by decide, iqX0, q_in (i := 140) (by decide +kernel) rfl, tyX0_ok, nmX0, rfl, rfl, fun h => by first | rfl | cases h⟩
theorem pl_X0_19 : q_PL RX0 19 0 2 false (.long) := ⟨RX0, TX0, 7, tyX0, rfl, by decide, iqX0, q_in (i := 142) (by decide +kernel) rfl, tyX0_ok, nmX0, rfl, rfl, fun h => by first | rfl | cases h⟩
theorem pl_X0_22 : q_PL RX0 22 0 5 false (.long) := ⟨RX0, TX0, 7, tyX0, rfl, by decide, iqX0, q_in (i := 148) (by decide +kernel) rfl, tyX0_ok, nmX0, rfl, rfl, fun h => by first | rfl | cases h⟩
theorem pl_X0_25 : q_PL RX0 25 0 3 false (.long) := ⟨RX0, TX0, 7, tyX0, rfl, by decide, iqX0, q_in (i := 144) (by decide +kernel) rfl, tyX0_ok, nmX0, rfl, rfl, fun h => by first | rfl | cases h⟩
theorem pl_X0_28 : q_PL RX0 28 0 4 false (.int) := ⟨RX0, TX0, 7, tyX0, rfl, by decide, iqX0, q_in (i := 146) (by decide +kernel) rfl, tyX0_ok, nmX0, rfl, rfl, fun h => by first | rfl | cases h⟩
theorem pl_X0_32 : q_PL RX0 32 0 6 false (.int) := ⟨RX0, TX0, 7, tyX0, rfl, by decide, iqX0, q_in (i := 149) (by decide +kernel) rfl, tyX0_ok, nmX0, rfl, rfl, fun h => by first | rfl | cases h⟩
theorem fl_X0_25 : q_FL RX0 25 0 3 := ⟨RX0, TX0, 7, rfl, by decide, iqX0, q_in (i := 144) (by decide +kernel) rfl⟩
theorem fl_X0_19 : q_FL RX0 19 0 2 := ⟨RX0, TX0, 7, rfl, by decide, iqX0, q_in (i := 142) (by decide +kernel) rfl⟩
theorem kl_X0_35 : q_LS RX0 35 yJ9_abs_067f4 uJ9_abs_067f4 1 := ⟨⟨q_in (i := 469) (by decide +kernel) rfl, q_in (i := 298) (by decide +kernel) rfl, q_in (i := 30) (by decide +kernel) rfl, q_in (i := 299) (by decide +kernel) rfl⟩, by decide, by decide, by decide +kernel⟩
theorem fl_X0_32 : q_FL RX0 32 0 6 := ⟨RX0, TX0, 7, rfl, by decide, iqX0, q_in (i := 149) (by decide +kernel) rfl⟩
theorem cn_X0_41 : Cond.constantLong RX0 41 (2) ∈ q_tb := q_in (i := 470) (by decide +kernel) rfl
theorem fl_X0_22 : q_FL RX0 22 0 5 := ⟨RX0, TX0, 7, rfl, by decide, iqX0, q_in (i := 148) (by decide +kernel) rfl⟩
theorem kl_X1_3 : Cond.methodLink RX1 3 objectInit ∈ q_tb := q_in (i := 104) (by decide +kernel) rfl
theorem pl_X1_9 : q_PL RX1 9 1 0 false (.boolean) := ⟨RX1, TX1, 6, tyX1, rfl, by decide, iqX1, q_in (i := 105) (by decide +kernel) rfl, tyX1_ok, nmX1, rfl, rfl, fun h => by first | rfl | cases h⟩
theorem pl_X1_15 : q_PL RX1 15 1 5 true (.array .int) := ⟨RX1, TX1, 6, tyX1, rfl, by decide, iqX1, q_in (i := 117) (by decide +kernel) rfl, tyX1_ok, nmX1, rfl, rfl, fun h => by first | rfl | cases h⟩
theorem pl_X1_19 : q_PL RX1 19 1 1 false (.int) := ⟨RX1, TX1, 6, tyX1, rfl, by decide, iqX1, q_in (i := 108) (by decide +kernel) rfl, tyX1_ok, nmX1, rfl, rfl, fun h => by first | rfl | cases h⟩
theorem pl_X1_23 : q_PL RX1 23 1 2 false (.int) := ⟨RX1, TX1, 6, tyX1, rfl, by decide, iqX1, q_in (i := 110) (by decide +kernel) rfl, tyX1_ok, nmX1, rfl, rfl, fun h => by first | rfl | cases h⟩
theorem pl_X1_26 : q_PL RX1 26 1 3 false (.int) := ⟨RX1, TX1, 6, tyX1, rfl, by decide, iqX1, q_in (i := 112) (by decide +kernel) rfl, tyX1_ok, nmX1, rfl, rfl, fun h => by first | rfl | cases h⟩
theorem pl_X1_29 : q_PL RX1 29 1 4 false (.long) := ⟨RX1, TX1, 6, tyX1, rfl, by decide, iqX1, q_in (i := 115) (by decide +kernel) rfl, tyX1_ok, nmX1, rfl, rfl, fun h => by first | rfl | cases h⟩
theorem fl_X1_15 : q_FL RX1 15 1 5 := ⟨RX1, TX1, 6, rfl, by decide, iqX1, q_in (i := 117) (by decide +kernel) rfl⟩
theorem fl_X1_29 : q_FL RX1 29 1 4 := ⟨RX1, TX1, 6, rfl, by decide, iqX1, q_in (i := 115) (by decide +kernel) rfl⟩
theorem kl_X1_33 : q_LS RX1 33 yJ9_abs_0f7a4 uJ9_abs_0f7a4 1 := ⟨⟨q_in (i := 313) (by decide +kernel) rfl, q_in (i := 314) (by decide +kernel) rfl, q_in (i := 30) (by decide +kernel) rfl, q_in (i := 315) (by decide +kernel) rfl⟩, by decide, by decide, by decide +kernel⟩
theorem kl_X2_3 : Cond.methodLink RX2 3 objectInit ∈ q_tb := q_in (i := 170) (by decide +kernel) rfl
theorem pl_X2_9 : q_PL RX2 9 2 0 true (.array .short) := ⟨RX2, TX2, 2, tyX2, rfl, by decide, iqX2, q_in (i := 171) (by decide +kernel) rfl, tyX2_ok, nmX2, rfl, rfl, fun h => by first | rfl | cases h⟩
theorem pl_X2_15 : q_PL RX2 15 2 1 false (.int) := ⟨RX2, TX2, 2, tyX2, rfl, by decide, iqX2, q_in (i := 172) (by decide +kernel) rfl, tyX2_ok, nmX2, rfl, rfl, fun h => by first | rfl | cases h⟩
theorem fl_X2_15 : q_FL RX2 15 2 1 := ⟨RX2, TX2, 2, rfl, by decide, iqX2, q_in (i := 172) (by decide +kernel) rfl⟩
theorem fl_X2_9 : q_FL RX2 9 2 0 := ⟨RX2, TX2, 2, rfl, by decide, iqX2, q_in (i := 171) (by decide +kernel) rfl⟩
theorem kl_X3_3 : Cond.methodLink RX3 3 objectInit ∈ q_tb := q_in (i := 98) (by decide +kernel) rfl
theorem pl_X3_9 : q_PL RX3 9 3 0 true (.int) := ⟨RX3, TX3, 13, tyX3, rfl, by decide, iqX3, q_in (i := 178) (by decide +kernel) rfl, tyX3_ok, nmX3, rfl, rfl, fun h => by first | rfl | cases h⟩
theorem pl_X3_15 : q_PL RX3 15 3 1 true (.int) := ⟨RX3, TX3, 13, tyX3, rfl, by decide, iqX3, q_in (i := 180) (by decide +kernel) rfl, tyX3_ok, nmX3, rfl, rfl, fun h => by first | rfl | cases h⟩
theorem pl_X3_18 : q_PL RX3 18 3 2 true (.array .int) := ⟨RX3, TX3, 13, tyX3, rfl, by decide, iqX3, q_in (i := 182) (by decide +kernel) rfl, tyX3_ok, nmX3, rfl, rfl, fun h => by first | rfl | cases h⟩
theorem pl_X3_22 : q_PL RX3 22 3 3 false (.int) := ⟨RX3, TX3, 13, tyX3, rfl, by decide, iqX3, q_in (i := 183) (by decide +kernel) rfl, tyX3_ok, nmX3, rfl, rfl, fun h => by first | rfl | cases h⟩
theorem pl_X3_25 : q_PL RX3 25 3 4 false (.int) := ⟨RX3, TX3, 13, tyX3, rfl, by decide, iqX3, q_in (i := 185) (by decide +kernel) rfl, tyX3_ok, nmX3, rfl, rfl, fun h => by first | rfl | cases h⟩
theorem pl_X3_28 : q_PL RX3 28 3 5 false (.boolean) := ⟨RX3, TX3, 13, tyX3, rfl, by decide, iqX3, q_in (i := 187) (by decide +kernel) rfl, tyX3_ok, nmX3, rfl, rfl, fun h => by first | rfl | cases h⟩
theorem nl_X3_32 : Cond.classLink RX3 32 RX1 ∈ q_tb := q_in (i := 99) (by decide +kernel) rfl
theorem kl_X3_34 : q_LI RX3 34 yX1_init uX1_init 0 := ⟨⟨q_in (i := 101) (by decide +kernel) rfl, q_in (i := 102) (by decide +kernel) rfl, q_in (i := 27) (by decide +kernel) rfl, q_in (i := 103) (by decide +kernel) rfl⟩, by decide, by decide, by decide +kernel, rfl, rfl⟩
theorem pl_X3_35 : q_PL RX3 35 3 6 true (.object "FirChain$Plan") := ⟨RX3, TX3, 13, tyX3, rfl, by decide, iqX3, q_in (i := 189) (by decide +kernel) rfl, tyX3_ok, nmX3, rfl, rfl, fun h => by first | rfl | cases h⟩
theorem nl_X3_39 : Cond.classLink RX3 39 RX0 ∈ q_tb := q_in (i := 131) (by decide +kernel) rfl
theorem kl_X3_41 : q_LI RX3 41 yX0_init uX0_init 0 := ⟨⟨q_in (i := 133) (by decide +kernel) rfl, q_in (i := 134) (by decide +kernel) rfl, q_in (i := 28) (by decide +kernel) rfl, q_in (i := 135) (by decide +kernel) rfl⟩, by decide, by decide, by decide +kernel, rfl, rfl⟩
theorem pl_X3_42 : q_PL RX3 42 3 7 true (.object "FirChain$Latest") := ⟨RX3, TX3, 13, tyX3, rfl, by decide, iqX3, q_in (i := 191) (by decide +kernel) rfl, tyX3_ok, nmX3, rfl, rfl, fun h => by first | rfl | cases h⟩
theorem nl_X3_46 : Cond.classLink RX3 46 RX2 ∈ q_tb := q_in (i := 165) (by decide +kernel) rfl
theorem kl_X3_48 : q_LI RX3 48 yX2_init uX2_init 0 := ⟨⟨q_in (i := 167) (by decide +kernel) rfl, q_in (i := 168) (by decide +kernel) rfl, q_in (i := 29) (by decide +kernel) rfl, q_in (i := 169) (by decide +kernel) rfl⟩, by decide, by decide, by decide +kernel, rfl, rfl⟩
theorem pl_X3_49 : q_PL RX3 49 3 8 true (.object "FirChain$Ring") := ⟨RX3, TX3, 13, tyX3, rfl, by decide, iqX3, q_in (i := 193) (by decide +kernel) rfl, tyX3_ok, nmX3, rfl, rfl, fun h => by first | rfl | cases h⟩
theorem fl_X3_22 : q_FL RX3 22 3 3 := ⟨RX3, TX3, 13, rfl, by decide, iqX3, q_in (i := 183) (by decide +kernel) rfl⟩
theorem fl_X3_18 : q_FL RX3 18 3 2 := ⟨RX3, TX3, 13, rfl, by decide, iqX3, q_in (i := 182) (by decide +kernel) rfl⟩
theorem kl_X3_53 : q_LV RX3 53 yX3_hasTap uX3_hasTap 1 := ⟨⟨q_in (i := 266) (by decide +kernel) rfl, q_in (i := 258) (by decide +kernel) rfl, q_in (i := 259) (by decide +kernel) rfl, q_in (i := 26) (by decide +kernel) rfl, q_in (i := 260) (by decide +kernel) rfl⟩, by decide, by decide, by decide +kernel⟩
theorem fl_X3_15 : q_FL RX3 15 3 1 := ⟨RX3, TX3, 13, rfl, by decide, iqX3, q_in (i := 180) (by decide +kernel) rfl⟩
theorem kl_X3_57 : q_LV RX3 57 yX3_tapAt uX3_tapAt 1 := ⟨⟨q_in (i := 286) (by decide +kernel) rfl, q_in (i := 263) (by decide +kernel) rfl, q_in (i := 264) (by decide +kernel) rfl, q_in (i := 26) (by decide +kernel) rfl, q_in (i := 265) (by decide +kernel) rfl⟩, by decide, by decide, by decide +kernel⟩
theorem fl_X3_9 : q_FL RX3 9 3 0 := ⟨RX3, TX3, 13, rfl, by decide, iqX3, q_in (i := 178) (by decide +kernel) rfl⟩
theorem kl_X3_61 : q_LS RX3 61 yX3_nearest uX3_nearest 3 := ⟨⟨q_in (i := 287) (by decide +kernel) rfl, q_in (i := 288) (by decide +kernel) rfl, q_in (i := 26) (by decide +kernel) rfl, q_in (i := 289) (by decide +kernel) rfl⟩, by decide, by decide, by decide +kernel⟩
theorem kl_X3_65 : q_LS RX3 65 yJ9_abs_067f4 uJ9_abs_067f4 1 := ⟨⟨q_in (i := 297) (by decide +kernel) rfl, q_in (i := 298) (by decide +kernel) rfl, q_in (i := 30) (by decide +kernel) rfl, q_in (i := 299) (by decide +kernel) rfl⟩, by decide, by decide, by decide +kernel⟩
theorem cn_X3_71 : Cond.constantLong RX3 71 (32768) ∈ q_tb := q_in (i := 300) (by decide +kernel) rfl
theorem fl_X3_35 : q_FL RX3 35 3 6 := ⟨RX3, TX3, 13, rfl, by decide, iqX3, q_in (i := 189) (by decide +kernel) rfl⟩
theorem kl_X3_73 : q_LV RX3 73 yX1_begin uX1_begin 3 := ⟨⟨q_in (i := 305) (by decide +kernel) rfl, q_in (i := 306) (by decide +kernel) rfl, q_in (i := 307) (by decide +kernel) rfl, q_in (i := 27) (by decide +kernel) rfl, q_in (i := 308) (by decide +kernel) rfl⟩, by decide, by decide, by decide +kernel⟩
theorem kl_X3_77 : q_LV RX3 77 yX1_setFactor uX1_setFactor 2 := ⟨⟨q_in (i := 309) (by decide +kernel) rfl, q_in (i := 310) (by decide +kernel) rfl, q_in (i := 311) (by decide +kernel) rfl, q_in (i := 27) (by decide +kernel) rfl, q_in (i := 312) (by decide +kernel) rfl⟩, by decide, by decide, by decide +kernel⟩
theorem fl_X3_42 : q_FL RX3 42 3 7 := ⟨RX3, TX3, 13, rfl, by decide, iqX3, q_in (i := 191) (by decide +kernel) rfl⟩
theorem pl_X3_81 : q_PL RX3 81 0 0 false (.boolean) := ⟨RX0, TX0, 7, tyX0, rfl, by decide, iqX0, q_in (i := 138) (by decide +kernel) rfl, tyX0_ok, nmX0, rfl, rfl, fun h => by first | rfl | cases h⟩
theorem kl_X3_84 : q_LV RX3 84 yX3_forget uX3_forget 0 := ⟨⟨q_in (i := 316) (by decide +kernel) rfl, q_in (i := 317) (by decide +kernel) rfl, q_in (i := 318) (by decide +kernel) rfl, q_in (i := 26) (by decide +kernel) rfl, q_in (i := 319) (by decide +kernel) rfl⟩, by decide, by decide, by decide +kernel⟩
theorem pl_X3_87 : q_PL RX3 87 1 0 false (.boolean) := ⟨RX1, TX1, 6, tyX1, rfl, by decide, iqX1, q_in (i := 107) (by decide +kernel) rfl, tyX1_ok, nmX1, rfl, rfl, fun h => by first | rfl | cases h⟩
theorem fl_X3_49 : q_FL RX3 49 3 8 := ⟨RX3, TX3, 13, rfl, by decide, iqX3, q_in (i := 193) (by decide +kernel) rfl⟩
theorem kl_X3_88 : q_LV RX3 88 yX2_clear uX2_clear 0 := ⟨⟨q_in (i := 320) (by decide +kernel) rfl, q_in (i := 321) (by decide +kernel) rfl, q_in (i := 322) (by decide +kernel) rfl, q_in (i := 29) (by decide +kernel) rfl, q_in (i := 323) (by decide +kernel) rfl⟩, by decide, by decide, by decide +kernel⟩
theorem pl_X3_91 : q_PL RX3 91 3 9 false (.int) := ⟨RX3, TX3, 13, tyX3, rfl, by decide, iqX3, q_in (i := 194) (by decide +kernel) rfl, tyX3_ok, nmX3, rfl, rfl, fun h => by first | rfl | cases h⟩
theorem pl_X3_94 : q_PL RX3 94 3 10 false (.long) := ⟨RX3, TX3, 13, tyX3, rfl, by decide, iqX3, q_in (i := 195) (by decide +kernel) rfl, tyX3_ok, nmX3, rfl, rfl, fun h => by first | rfl | cases h⟩
theorem pl_X3_98 : q_PL RX3 98 3 11 false (.long) := ⟨RX3, TX3, 13, tyX3, rfl, by decide, iqX3, q_in (i := 197) (by decide +kernel) rfl, tyX3_ok, nmX3, rfl, rfl, fun h => by first | rfl | cases h⟩
theorem pl_X3_101 : q_PL RX3 101 3 12 false (.long) := ⟨RX3, TX3, 13, tyX3, rfl, by decide, iqX3, q_in (i := 199) (by decide +kernel) rfl, tyX3_ok, nmX3, rfl, rfl, fun h => by first | rfl | cases h⟩
theorem kl_X3_104 : q_LV RX3 104 yX3_filling uX3_filling 0 := ⟨⟨q_in (i := 380) (by decide +kernel) rfl, q_in (i := 358) (by decide +kernel) rfl, q_in (i := 359) (by decide +kernel) rfl, q_in (i := 26) (by decide +kernel) rfl, q_in (i := 360) (by decide +kernel) rfl⟩, by decide, by decide, by decide +kernel⟩
theorem kl_X3_108 : q_LV RX3 108 yX3_take uX3_take 1 := ⟨⟨q_in (i := 381) (by decide +kernel) rfl, q_in (i := 382) (by decide +kernel) rfl, q_in (i := 383) (by decide +kernel) rfl, q_in (i := 26) (by decide +kernel) rfl, q_in (i := 384) (by decide +kernel) rfl⟩, by decide, by decide, by decide +kernel⟩
theorem kl_X3_111 : q_LV RX3 111 yX3_comesOut uX3_comesOut 0 := ⟨⟨q_in (i := 416) (by decide +kernel) rfl, q_in (i := 418) (by decide +kernel) rfl, q_in (i := 5) (by decide +kernel) rfl, q_in (i := 26) (by decide +kernel) rfl, q_in (i := 419) (by decide +kernel) rfl⟩, by decide, by decide, by decide +kernel⟩
theorem fl_X3_91 : q_FL RX3 91 3 9 := ⟨RX3, TX3, 13, rfl, by decide, iqX3, q_in (i := 194) (by decide +kernel) rfl⟩
theorem kl_X3_115 : q_LV RX3 115 yX2_push uX2_push 1 := ⟨⟨q_in (i := 385) (by decide +kernel) rfl, q_in (i := 386) (by decide +kernel) rfl, q_in (i := 387) (by decide +kernel) rfl, q_in (i := 29) (by decide +kernel) rfl, q_in (i := 388) (by decide +kernel) rfl⟩, by decide, by decide, by decide +kernel⟩
theorem kl_X3_119 : q_LV RX3 119 yX2_back uX2_back 1 := ⟨⟨q_in (i := 389) (by decide +kernel) rfl, q_in (i := 390) (by decide +kernel) rfl, q_in (i := 391) (by decide +kernel) rfl, q_in (i := 29) (by decide +kernel) rfl, q_in (i := 392) (by decide +kernel) rfl⟩, by decide, by decide, by decide +kernel⟩
theorem kl_X3_122 : q_LV RX3 122 yX1_factor uX1_factor 1 := ⟨⟨q_in (i := 393) (by decide +kernel) rfl, q_in (i := 333) (by decide +kernel) rfl, q_in (i := 334) (by decide +kernel) rfl, q_in (i := 27) (by decide +kernel) rfl, q_in (i := 335) (by decide +kernel) rfl⟩, by decide, by decide, by decide +kernel⟩
theorem fl_X3_125 : q_FL RX3 125 1 3 := ⟨RX1, TX1, 6, rfl, by decide, iqX1, q_in (i := 114) (by decide +kernel) rfl⟩
theorem fl_X3_25 : q_FL RX3 25 3 4 := ⟨RX3, TX3, 13, rfl, by decide, iqX3, q_in (i := 185) (by decide +kernel) rfl⟩
theorem kl_X3_128 : q_LS RX3 128 yX3_roundedSum uX3_roundedSum 3 := ⟨⟨q_in (i := 394) (by decide +kernel) rfl, q_in (i := 395) (by decide +kernel) rfl, q_in (i := 26) (by decide +kernel) rfl, q_in (i := 396) (by decide +kernel) rfl⟩, by decide, by decide, by decide +kernel⟩
theorem fl_X3_28 : q_FL RX3 28 3 5 := ⟨RX3, TX3, 13, rfl, by decide, iqX3, q_in (i := 187) (by decide +kernel) rfl⟩
theorem kl_X3_132 : q_LS RX3 132 yX3_heldNumber uX3_heldNumber 2 := ⟨⟨q_in (i := 397) (by decide +kernel) rfl, q_in (i := 398) (by decide +kernel) rfl, q_in (i := 26) (by decide +kernel) rfl, q_in (i := 399) (by decide +kernel) rfl⟩, by decide, by decide, by decide +kernel⟩
theorem kl_X3_136 : q_LV RX3 136 yX0_keepSums uX0_keepSums 3 := ⟨⟨q_in (i := 408) (by decide +kernel) rfl, q_in (i := 409) (by decide +kernel) rfl, q_in (i := 410) (by decide +kernel) rfl, q_in (i := 28) (by decide +kernel) rfl, q_in (i := 411) (by decide +kernel) rfl⟩, by decide, by decide, by decide +kernel⟩
theorem kl_X3_140 : q_LV RX3 140 yX0_keepOutput uX0_keepOutput 3 := ⟨⟨q_in (i := 412) (by decide +kernel) rfl, q_in (i := 413) (by decide +kernel) rfl, q_in (i := 414) (by decide +kernel) rfl, q_in (i := 28) (by decide +kernel) rfl, q_in (i := 415) (by decide +kernel) rfl⟩, by decide, by decide, by decide +kernel⟩
theorem fl_X3_94 : q_FL RX3 94 3 10 := ⟨RX3, TX3, 13, rfl, by decide, iqX3, q_in (i := 195) (by decide +kernel) rfl⟩
theorem fl_X3_98 : q_FL RX3 98 3 11 := ⟨RX3, TX3, 13, rfl, by decide, iqX3, q_in (i := 197) (by decide +kernel) rfl⟩
theorem fl_X3_101 : q_FL RX3 101 3 12 := ⟨RX3, TX3, 13, rfl, by decide, iqX3, q_in (i := 199) (by decide +kernel) rfl⟩
theorem kl_X3_144 : q_LS RX3 144 yJ9_max_f86c9 uJ9_max_f86c9 2 := ⟨⟨q_in (i := 405) (by decide +kernel) rfl, q_in (i := 406) (by decide +kernel) rfl, q_in (i := 30) (by decide +kernel) rfl, q_in (i := 407) (by decide +kernel) rfl⟩, by decide, by decide, by decide +kernel⟩
theorem cn_X3_148 : Cond.constantLong RX3 148 (31) ∈ q_tb := q_in (i := 490) (by decide +kernel) rfl
theorem fl_X3_87 : q_FL RX3 87 1 0 := ⟨RX1, TX1, 6, rfl, by decide, iqX1, q_in (i := 107) (by decide +kernel) rfl⟩
theorem kl_X3_150 : q_LS RX3 150 yJ9_floorDiv_f86c9 uJ9_floorDiv_f86c9 2 := ⟨⟨q_in (i := 290) (by decide +kernel) rfl, q_in (i := 291) (by decide +kernel) rfl, q_in (i := 30) (by decide +kernel) rfl, q_in (i := 292) (by decide +kernel) rfl⟩, by decide, by decide, by decide +kernel⟩
theorem cn_X3_153 : Cond.constantLong RX3 153 (2) ∈ q_tb := q_in (i := 293) (by decide +kernel) rfl
theorem kl_X3_155 : q_LS RX3 155 yX3_isOdd uX3_isOdd 1 := ⟨⟨q_in (i := 294) (by decide +kernel) rfl, q_in (i := 295) (by decide +kernel) rfl, q_in (i := 26) (by decide +kernel) rfl, q_in (i := 296) (by decide +kernel) rfl⟩, by decide, by decide, by decide +kernel⟩
theorem cn_X3_159 : Cond.constantLong RX3 159 (-32768) ∈ q_tb := q_in (i := 400) (by decide +kernel) rfl
theorem cn_X3_161 : Cond.constantLong RX3 161 (32767) ∈ q_tb := q_in (i := 401) (by decide +kernel) rfl
theorem kl_X3_163 : q_LS RX3 163 yJ9_min_f86c9 uJ9_min_f86c9 2 := ⟨⟨q_in (i := 402) (by decide +kernel) rfl, q_in (i := 403) (by decide +kernel) rfl, q_in (i := 30) (by decide +kernel) rfl, q_in (i := 404) (by decide +kernel) rfl⟩, by decide, by decide, by decide +kernel⟩
theorem kl_X4_3 : Cond.methodLink RX4 3 objectInit ∈ q_tb := q_in (i := 46) (by decide +kernel) rfl
theorem pl_X4_9 : q_PL RX4 9 4 0 true (.array .short) := ⟨RX4, TX4, 3, tyX4, rfl, by decide, iqX4, q_in (i := 47) (by decide +kernel) rfl, tyX4_ok, nmX4, rfl, rfl, fun h => by first | rfl | cases h⟩
theorem pl_X4_15 : q_PL RX4 15 4 1 false (.int) := ⟨RX4, TX4, 3, tyX4, rfl, by decide, iqX4, q_in (i := 48) (by decide +kernel) rfl, tyX4_ok, nmX4, rfl, rfl, fun h => by first | rfl | cases h⟩
theorem pl_X4_19 : q_PL RX4 19 4 2 false (.int) := ⟨RX4, TX4, 3, tyX4, rfl, by decide, iqX4, q_in (i := 50) (by decide +kernel) rfl, tyX4_ok, nmX4, rfl, rfl, fun h => by first | rfl | cases h⟩
theorem fl_X4_15 : q_FL RX4 15 4 1 := ⟨RX4, TX4, 3, rfl, by decide, iqX4, q_in (i := 48) (by decide +kernel) rfl⟩
theorem fl_X4_9 : q_FL RX4 9 4 0 := ⟨RX4, TX4, 3, rfl, by decide, iqX4, q_in (i := 47) (by decide +kernel) rfl⟩
theorem fl_X4_19 : q_FL RX4 19 4 2 := ⟨RX4, TX4, 3, rfl, by decide, iqX4, q_in (i := 50) (by decide +kernel) rfl⟩
theorem kl_X4_22 : q_LV RX4 22 yX4_has uX4_has 1 := ⟨⟨q_in (i := 440) (by decide +kernel) rfl, q_in (i := 433) (by decide +kernel) rfl, q_in (i := 434) (by decide +kernel) rfl, q_in (i := 24) (by decide +kernel) rfl, q_in (i := 435) (by decide +kernel) rfl⟩, by decide, by decide, by decide +kernel⟩
theorem cn_X4_26 : Cond.constantLong RX4 26 (31) ∈ q_tb := q_in (i := 496) (by decide +kernel) rfl
theorem kl_X4_28 : q_LV RX4 28 yX4_at uX4_at 1 := ⟨⟨q_in (i := 497) (by decide +kernel) rfl, q_in (i := 437) (by decide +kernel) rfl, q_in (i := 438) (by decide +kernel) rfl, q_in (i := 24) (by decide +kernel) rfl, q_in (i := 439) (by decide +kernel) rfl⟩, by decide, by decide, by decide +kernel⟩
theorem kl_X5_1 : Cond.methodLink RX5 1 objectInit ∈ q_tb := q_in (i := 36) (by decide +kernel) rfl
theorem nl_X5_9 : Cond.classLink RX5 9 RX3 ∈ q_tb := q_in (i := 39) (by decide +kernel) rfl
theorem pl_X5_11 : q_PL RX5 11 5 0 true (.array (.object "FirChain$Stage")) := ⟨RX5, TX5, 7, tyX5, rfl, by decide, iqX5, q_in (i := 61) (by decide +kernel) rfl, tyX5_ok, nmX5, rfl, rfl, fun h => by first | rfl | cases h⟩
theorem pl_X5_15 : q_PL RX5 15 5 1 false (.int) := ⟨RX5, TX5, 7, tyX5, rfl, by decide, iqX5, q_in (i := 62) (by decide +kernel) rfl, tyX5_ok, nmX5, rfl, rfl, fun h => by first | rfl | cases h⟩
theorem pl_X5_19 : q_PL RX5 19 5 2 true (.array .int) := ⟨RX5, TX5, 7, tyX5, rfl, by decide, iqX5, q_in (i := 63) (by decide +kernel) rfl, tyX5_ok, nmX5, rfl, rfl, fun h => by first | rfl | cases h⟩
theorem pl_X5_23 : q_PL RX5 23 5 3 false (.int) := ⟨RX5, TX5, 7, tyX5, rfl, by decide, iqX5, q_in (i := 64) (by decide +kernel) rfl, tyX5_ok, nmX5, rfl, rfl, fun h => by first | rfl | cases h⟩
theorem nl_X5_26 : Cond.classLink RX5 26 RX4 ∈ q_tb := q_in (i := 41) (by decide +kernel) rfl
theorem kl_X5_28 : q_LI RX5 28 yX4_init uX4_init 0 := ⟨⟨q_in (i := 43) (by decide +kernel) rfl, q_in (i := 44) (by decide +kernel) rfl, q_in (i := 24) (by decide +kernel) rfl, q_in (i := 45) (by decide +kernel) rfl⟩, by decide, by decide, by decide +kernel, rfl, rfl⟩
theorem pl_X5_29 : q_PL RX5 29 5 4 true (.object "FirChain$Tape") := ⟨RX5, TX5, 7, tyX5, rfl, by decide, iqX5, q_in (i := 65) (by decide +kernel) rfl, tyX5_ok, nmX5, rfl, rfl, fun h => by first | rfl | cases h⟩
theorem pl_X5_33 : q_PL RX5 33 5 5 true (.array .int) := ⟨RX5, TX5, 7, tyX5, rfl, by decide, iqX5, q_in (i := 66) (by decide +kernel) rfl, tyX5_ok, nmX5, rfl, rfl, fun h => by first | rfl | cases h⟩
theorem pl_X5_36 : q_PL RX5 36 5 6 true (.array .int) := ⟨RX5, TX5, 7, tyX5, rfl, by decide, iqX5, q_in (i := 67) (by decide +kernel) rfl, tyX5_ok, nmX5, rfl, rfl, fun h => by first | rfl | cases h⟩
theorem cn_X5_39 : Cond.constant RX5 39 (1000000) ∈ q_tb := q_in (i := 87) (by decide +kernel) rfl
theorem kl_X5_40 : q_LS RX5 40 yX5_within uX5_within 3 := ⟨⟨q_in (i := 88) (by decide +kernel) rfl, q_in (i := 89) (by decide +kernel) rfl, q_in (i := 23) (by decide +kernel) rfl, q_in (i := 90) (by decide +kernel) rfl⟩, by decide, by decide, by decide +kernel⟩
theorem kl_X5_44 : q_LS RX5 44 yX5_isBy uX5_isBy 1 := ⟨⟨q_in (i := 91) (by decide +kernel) rfl, q_in (i := 92) (by decide +kernel) rfl, q_in (i := 23) (by decide +kernel) rfl, q_in (i := 93) (by decide +kernel) rfl⟩, by decide, by decide, by decide +kernel⟩
theorem fl_X5_15 : q_FL RX5 15 5 1 := ⟨RX5, TX5, 7, rfl, by decide, iqX5, q_in (i := 62) (by decide +kernel) rfl⟩
theorem fl_X5_11 : q_FL RX5 11 5 0 := ⟨RX5, TX5, 7, rfl, by decide, iqX5, q_in (i := 61) (by decide +kernel) rfl⟩
theorem kl_X5_48 : q_LI RX5 48 yX3_init uX3_init 2 := ⟨⟨q_in (i := 95) (by decide +kernel) rfl, q_in (i := 96) (by decide +kernel) rfl, q_in (i := 26) (by decide +kernel) rfl, q_in (i := 97) (by decide +kernel) rfl⟩, by decide, by decide, by decide +kernel, rfl, rfl⟩
theorem kl_X5_51 : q_LV RX5 51 yX5_find uX5_find 1 := ⟨⟨q_in (i := 232) (by decide +kernel) rfl, q_in (i := 234) (by decide +kernel) rfl, q_in (i := 0) (by decide +kernel) rfl, q_in (i := 23) (by decide +kernel) rfl, q_in (i := 235) (by decide +kernel) rfl⟩, by decide, by decide, by decide +kernel⟩
theorem cn_X5_55 : Cond.constant RX5 55 (-1000000) ∈ q_tb := q_in (i := 236) (by decide +kernel) rfl
theorem kl_X5_56 : q_LV RX5 56 yX3_addTap uX3_addTap 1 := ⟨⟨q_in (i := 237) (by decide +kernel) rfl, q_in (i := 238) (by decide +kernel) rfl, q_in (i := 239) (by decide +kernel) rfl, q_in (i := 26) (by decide +kernel) rfl, q_in (i := 240) (by decide +kernel) rfl⟩, by decide, by decide, by decide +kernel⟩
theorem kl_X5_59 : q_LV RX5 59 yX5_unplan uX5_unplan 2 := ⟨⟨q_in (i := 241) (by decide +kernel) rfl, q_in (i := 243) (by decide +kernel) rfl, q_in (i := 1) (by decide +kernel) rfl, q_in (i := 23) (by decide +kernel) rfl, q_in (i := 244) (by decide +kernel) rfl⟩, by decide, by decide, by decide +kernel⟩
theorem fl_X5_63 : q_FL RX5 63 3 3 := ⟨RX3, TX3, 13, rfl, by decide, iqX3, q_in (i := 184) (by decide +kernel) rfl⟩
theorem kl_X5_66 : q_LV RX5 66 yX3_hasTap uX3_hasTap 1 := ⟨⟨q_in (i := 257) (by decide +kernel) rfl, q_in (i := 258) (by decide +kernel) rfl, q_in (i := 259) (by decide +kernel) rfl, q_in (i := 26) (by decide +kernel) rfl, q_in (i := 260) (by decide +kernel) rfl⟩, by decide, by decide, by decide +kernel⟩
theorem cn_X5_69 : Cond.constant RX5 69 (2000000000) ∈ q_tb := q_in (i := 261) (by decide +kernel) rfl
theorem kl_X5_70 : q_LV RX5 70 yX3_tapAt uX3_tapAt 1 := ⟨⟨q_in (i := 262) (by decide +kernel) rfl, q_in (i := 263) (by decide +kernel) rfl, q_in (i := 264) (by decide +kernel) rfl, q_in (i := 26) (by decide +kernel) rfl, q_in (i := 265) (by decide +kernel) rfl⟩, by decide, by decide, by decide +kernel⟩
theorem kl_X5_74 : q_LV RX5 74 yX3_setTap uX3_setTap 2 := ⟨⟨q_in (i := 267) (by decide +kernel) rfl, q_in (i := 268) (by decide +kernel) rfl, q_in (i := 269) (by decide +kernel) rfl, q_in (i := 26) (by decide +kernel) rfl, q_in (i := 270) (by decide +kernel) rfl⟩, by decide, by decide, by decide +kernel⟩
theorem fl_X5_77 : q_FL RX5 77 3 4 := ⟨RX3, TX3, 13, rfl, by decide, iqX3, q_in (i := 186) (by decide +kernel) rfl⟩
theorem pl_X5_77 : q_PL RX5 77 3 4 false (.int) := ⟨RX3, TX3, 13, tyX3, rfl, by decide, iqX3, q_in (i := 186) (by decide +kernel) rfl, tyX3_ok, nmX3, rfl, rfl, fun h => by first | rfl | cases h⟩
theorem pl_X5_80 : q_PL RX5 80 3 5 false (.boolean) := ⟨RX3, TX3, 13, tyX3, rfl, by decide, iqX3, q_in (i := 188) (by decide +kernel) rfl, tyX3_ok, nmX3, rfl, rfl, fun h => by first | rfl | cases h⟩
theorem kl_X5_84 : q_LS RX5 84 yX5_isPlan uX5_isPlan 2 := ⟨⟨q_in (i := 279) (by decide +kernel) rfl, q_in (i := 280) (by decide +kernel) rfl, q_in (i := 23) (by decide +kernel) rfl, q_in (i := 281) (by decide +kernel) rfl⟩, by decide, by decide, by decide +kernel⟩
theorem kl_X5_88 : q_LV RX5 88 yX3_isSafe uX3_isSafe 3 := ⟨⟨q_in (i := 282) (by decide +kernel) rfl, q_in (i := 283) (by decide +kernel) rfl, q_in (i := 284) (by decide +kernel) rfl, q_in (i := 26) (by decide +kernel) rfl, q_in (i := 285) (by decide +kernel) rfl⟩, by decide, by decide, by decide +kernel⟩
theorem kl_X5_91 : q_LV RX5 91 yX3_setPlan uX3_setPlan 3 := ⟨⟨q_in (i := 301) (by decide +kernel) rfl, q_in (i := 302) (by decide +kernel) rfl, q_in (i := 303) (by decide +kernel) rfl, q_in (i := 26) (by decide +kernel) rfl, q_in (i := 304) (by decide +kernel) rfl⟩, by decide, by decide, by decide +kernel⟩
theorem fl_X5_95 : q_FL RX5 95 3 6 := ⟨RX3, TX3, 13, rfl, by decide, iqX3, q_in (i := 190) (by decide +kernel) rfl⟩
theorem fl_X5_99 : q_FL RX5 99 1 0 := ⟨RX1, TX1, 6, rfl, by decide, iqX1, q_in (i := 106) (by decide +kernel) rfl⟩
theorem kl_X5_104 : q_LV RX5 104 yX1_factor uX1_factor 1 := ⟨⟨q_in (i := 332) (by decide +kernel) rfl, q_in (i := 333) (by decide +kernel) rfl, q_in (i := 334) (by decide +kernel) rfl, q_in (i := 27) (by decide +kernel) rfl, q_in (i := 335) (by decide +kernel) rfl⟩, by decide, by decide, by decide +kernel⟩
theorem fl_X5_107 : q_FL RX5 107 3 0 := ⟨RX3, TX3, 13, rfl, by decide, iqX3, q_in (i := 179) (by decide +kernel) rfl⟩
theorem fl_X5_110 : q_FL RX5 110 3 1 := ⟨RX3, TX3, 13, rfl, by decide, iqX3, q_in (i := 181) (by decide +kernel) rfl⟩
theorem fl_X5_80 : q_FL RX5 80 3 5 := ⟨RX3, TX3, 13, rfl, by decide, iqX3, q_in (i := 188) (by decide +kernel) rfl⟩
theorem fl_X5_113 : q_FL RX5 113 1 3 := ⟨RX1, TX1, 6, rfl, by decide, iqX1, q_in (i := 113) (by decide +kernel) rfl⟩
theorem fl_X5_116 : q_FL RX5 116 1 1 := ⟨RX1, TX1, 6, rfl, by decide, iqX1, q_in (i := 109) (by decide +kernel) rfl⟩
theorem fl_X5_119 : q_FL RX5 119 1 2 := ⟨RX1, TX1, 6, rfl, by decide, iqX1, q_in (i := 111) (by decide +kernel) rfl⟩
theorem kl_X5_122 : q_LV RX5 122 yX5_placeOf uX5_placeOf 1 := ⟨⟨q_in (i := 249) (by decide +kernel) rfl, q_in (i := 251) (by decide +kernel) rfl, q_in (i := 2) (by decide +kernel) rfl, q_in (i := 23) (by decide +kernel) rfl, q_in (i := 252) (by decide +kernel) rfl⟩, by decide, by decide, by decide +kernel⟩
theorem kl_X5_125 : q_LV RX5 125 yX3_symmetry uX3_symmetry 0 := ⟨⟨q_in (i := 340) (by decide +kernel) rfl, q_in (i := 341) (by decide +kernel) rfl, q_in (i := 342) (by decide +kernel) rfl, q_in (i := 26) (by decide +kernel) rfl, q_in (i := 343) (by decide +kernel) rfl⟩, by decide, by decide, by decide +kernel⟩
theorem cn_X5_129 : Cond.constantLong RX5 129 (-2) ∈ q_tb := q_in (i := 348) (by decide +kernel) rfl
theorem fl_X5_131 : q_FL RX5 131 1 4 := ⟨RX1, TX1, 6, rfl, by decide, iqX1, q_in (i := 116) (by decide +kernel) rfl⟩
theorem kl_X5_135 : q_LV RX5 135 yX5_filledByChain uX5_filledByChain 0 := ⟨⟨q_in (i := 353) (by decide +kernel) rfl, q_in (i := 355) (by decide +kernel) rfl, q_in (i := 3) (by decide +kernel) rfl, q_in (i := 23) (by decide +kernel) rfl, q_in (i := 356) (by decide +kernel) rfl⟩, by decide, by decide, by decide +kernel⟩
theorem kl_X5_138 : q_LV RX5 138 yX3_filling uX3_filling 0 := ⟨⟨q_in (i := 357) (by decide +kernel) rfl, q_in (i := 358) (by decide +kernel) rfl, q_in (i := 359) (by decide +kernel) rfl, q_in (i := 26) (by decide +kernel) rfl, q_in (i := 360) (by decide +kernel) rfl⟩, by decide, by decide, by decide +kernel⟩
theorem fl_X5_23 : q_FL RX5 23 5 3 := ⟨RX5, TX5, 7, rfl, by decide, iqX5, q_in (i := 64) (by decide +kernel) rfl⟩
theorem fl_X5_19 : q_FL RX5 19 5 2 := ⟨RX5, TX5, 7, rfl, by decide, iqX5, q_in (i := 63) (by decide +kernel) rfl⟩
theorem kl_X5_141 : q_LS RX5 141 yX5_isSample uX5_isSample 1 := ⟨⟨q_in (i := 369) (by decide +kernel) rfl, q_in (i := 370) (by decide +kernel) rfl, q_in (i := 23) (by decide +kernel) rfl, q_in (i := 371) (by decide +kernel) rfl⟩, by decide, by decide, by decide +kernel⟩
theorem kl_X5_144 : q_LV RX5 144 yX5_send uX5_send 1 := ⟨⟨q_in (i := 372) (by decide +kernel) rfl, q_in (i := 374) (by decide +kernel) rfl, q_in (i := 4) (by decide +kernel) rfl, q_in (i := 23) (by decide +kernel) rfl, q_in (i := 375) (by decide +kernel) rfl⟩, by decide, by decide, by decide +kernel⟩
theorem fl_X5_29 : q_FL RX5 29 5 4 := ⟨RX5, TX5, 7, rfl, by decide, iqX5, q_in (i := 65) (by decide +kernel) rfl⟩
theorem kl_X5_147 : q_LV RX5 147 yX4_has uX4_has 1 := ⟨⟨q_in (i := 432) (by decide +kernel) rfl, q_in (i := 433) (by decide +kernel) rfl, q_in (i := 434) (by decide +kernel) rfl, q_in (i := 24) (by decide +kernel) rfl, q_in (i := 435) (by decide +kernel) rfl⟩, by decide, by decide, by decide +kernel⟩
theorem kl_X5_150 : q_LV RX5 150 yX4_at uX4_at 1 := ⟨⟨q_in (i := 436) (by decide +kernel) rfl, q_in (i := 437) (by decide +kernel) rfl, q_in (i := 438) (by decide +kernel) rfl, q_in (i := 24) (by decide +kernel) rfl, q_in (i := 439) (by decide +kernel) rfl⟩, by decide, by decide, by decide +kernel⟩
theorem fl_X5_153 : q_FL RX5 153 4 1 := ⟨RX4, TX4, 3, rfl, by decide, iqX4, q_in (i := 49) (by decide +kernel) rfl⟩
theorem pl_X5_153 : q_PL RX5 153 4 1 false (.int) := ⟨RX4, TX4, 3, tyX4, rfl, by decide, iqX4, q_in (i := 49) (by decide +kernel) rfl, tyX4_ok, nmX4, rfl, rfl, fun h => by first | rfl | cases h⟩
theorem kl_X5_156 : q_LV RX5 156 yX3_forget uX3_forget 0 := ⟨⟨q_in (i := 449) (by decide +kernel) rfl, q_in (i := 317) (by decide +kernel) rfl, q_in (i := 318) (by decide +kernel) rfl, q_in (i := 26) (by decide +kernel) rfl, q_in (i := 319) (by decide +kernel) rfl⟩, by decide, by decide, by decide +kernel⟩
theorem cn_X5_159 : Cond.constant RX5 159 (2000000001) ∈ q_tb := q_in (i := 454) (by decide +kernel) rfl
theorem kl_X5_160 : q_LV RX5 160 yX3_take uX3_take 1 := ⟨⟨q_in (i := 455) (by decide +kernel) rfl, q_in (i := 382) (by decide +kernel) rfl, q_in (i := 383) (by decide +kernel) rfl, q_in (i := 26) (by decide +kernel) rfl, q_in (i := 384) (by decide +kernel) rfl⟩, by decide, by decide, by decide +kernel⟩
theorem fl_X5_163 : q_FL RX5 163 3 7 := ⟨RX3, TX3, 13, rfl, by decide, iqX3, q_in (i := 192) (by decide +kernel) rfl⟩
theorem fl_X5_167 : q_FL RX5 167 0 0 := ⟨RX0, TX0, 7, rfl, by decide, iqX0, q_in (i := 139) (by decide +kernel) rfl⟩
theorem fl_X5_170 : q_FL RX5 170 0 1 := ⟨RX0, TX0, 7, rfl, by decide, iqX0, q_in (i := 141) (by decide +kernel) rfl⟩
theorem fl_X5_173 : q_FL RX5 173 0 3 := ⟨RX0, TX0, 7, rfl, by decide, iqX0, q_in (i := 145) (by decide +kernel) rfl⟩
theorem fl_X5_176 : q_FL RX5 176 0 4 := ⟨RX0, TX0, 7, rfl, by decide, iqX0, q_in (i := 147) (by decide +kernel) rfl⟩
theorem fl_X5_179 : q_FL RX5 179 0 2 := ⟨RX0, TX0, 7, rfl, by decide, iqX0, q_in (i := 143) (by decide +kernel) rfl⟩
theorem cn_X5_182 : Cond.constantLong RX5 182 (32768) ∈ q_tb := q_in (i := 460) (by decide +kernel) rfl
theorem kl_X5_184 : q_LV RX5 184 yX0_isWithinBound uX0_isWithinBound 2 := ⟨⟨q_in (i := 465) (by decide +kernel) rfl, q_in (i := 466) (by decide +kernel) rfl, q_in (i := 467) (by decide +kernel) rfl, q_in (i := 28) (by decide +kernel) rfl, q_in (i := 468) (by decide +kernel) rfl⟩, by decide, by decide, by decide +kernel⟩
theorem fl_X5_187 : q_FL RX5 187 3 10 := ⟨RX3, TX3, 13, rfl, by decide, iqX3, q_in (i := 196) (by decide +kernel) rfl⟩
theorem fl_X5_190 : q_FL RX5 190 3 11 := ⟨RX3, TX3, 13, rfl, by decide, iqX3, q_in (i := 198) (by decide +kernel) rfl⟩
theorem fl_X5_193 : q_FL RX5 193 3 12 := ⟨RX3, TX3, 13, rfl, by decide, iqX3, q_in (i := 200) (by decide +kernel) rfl⟩
theorem fl_X5_196 : q_FL RX5 196 4 2 := ⟨RX4, TX4, 3, rfl, by decide, iqX4, q_in (i := 51) (by decide +kernel) rfl⟩
theorem cn_X5_199 : Cond.constantLong RX5 199 (43) ∈ q_tb := q_in (i := 483) (by decide +kernel) rfl
theorem cn_X5_201 : Cond.constantLong RX5 201 (31) ∈ q_tb := q_in (i := 484) (by decide +kernel) rfl
theorem kl_X5_203 : q_LV RX5 203 yX5_about uX5_about 2 := ⟨⟨q_in (i := 485) (by decide +kernel) rfl, q_in (i := 337) (by decide +kernel) rfl, q_in (i := 338) (by decide +kernel) rfl, q_in (i := 23) (by decide +kernel) rfl, q_in (i := 339) (by decide +kernel) rfl⟩, by decide, by decide, by decide +kernel⟩
theorem kl_X5_207 : q_LV RX5 207 yX3_mixRows uX3_mixRows 1 := ⟨⟨q_in (i := 486) (by decide +kernel) rfl, q_in (i := 487) (by decide +kernel) rfl, q_in (i := 488) (by decide +kernel) rfl, q_in (i := 26) (by decide +kernel) rfl, q_in (i := 489) (by decide +kernel) rfl⟩, by decide, by decide, by decide +kernel⟩
theorem kl_X5_211 : q_LV RX5 211 yX5_counted uX5_counted 2 := ⟨⟨q_in (i := 491) (by decide +kernel) rfl, q_in (i := 472) (by decide +kernel) rfl, q_in (i := 473) (by decide +kernel) rfl, q_in (i := 23) (by decide +kernel) rfl, q_in (i := 474) (by decide +kernel) rfl⟩, by decide, by decide, by decide +kernel⟩
theorem kl_X5_215 : q_LV RX5 215 yX4_mixSamples uX4_mixSamples 1 := ⟨⟨q_in (i := 492) (by decide +kernel) rfl, q_in (i := 493) (by decide +kernel) rfl, q_in (i := 494) (by decide +kernel) rfl, q_in (i := 24) (by decide +kernel) rfl, q_in (i := 495) (by decide +kernel) rfl⟩, by decide, by decide, by decide +kernel⟩
theorem kl_X5_218 : q_LV RX5 218 yX3_dropPlan uX3_dropPlan 0 := ⟨⟨q_in (i := 245) (by decide +kernel) rfl, q_in (i := 246) (by decide +kernel) rfl, q_in (i := 247) (by decide +kernel) rfl, q_in (i := 26) (by decide +kernel) rfl, q_in (i := 248) (by decide +kernel) rfl⟩, by decide, by decide, by decide +kernel⟩
theorem fl_X5_33 : q_FL RX5 33 5 5 := ⟨RX5, TX5, 7, rfl, by decide, iqX5, q_in (i := 66) (by decide +kernel) rfl⟩
theorem fl_X5_36 : q_FL RX5 36 5 6 := ⟨RX5, TX5, 7, rfl, by decide, iqX5, q_in (i := 67) (by decide +kernel) rfl⟩
theorem kl_X5_221 : q_LV RX5 221 yX3_pass uX3_pass 3 := ⟨⟨q_in (i := 376) (by decide +kernel) rfl, q_in (i := 377) (by decide +kernel) rfl, q_in (i := 378) (by decide +kernel) rfl, q_in (i := 26) (by decide +kernel) rfl, q_in (i := 379) (by decide +kernel) rfl⟩, by decide, by decide, by decide +kernel⟩
theorem kl_X5_225 : q_LV RX5 225 yX4_add uX4_add 1 := ⟨⟨q_in (i := 420) (by decide +kernel) rfl, q_in (i := 421) (by decide +kernel) rfl, q_in (i := 422) (by decide +kernel) rfl, q_in (i := 24) (by decide +kernel) rfl, q_in (i := 423) (by decide +kernel) rfl⟩, by decide, by decide, by decide +kernel⟩
theorem kl_X6_1 : Cond.methodLink RX6 1 objectInit ∈ q_tb := q_in (i := 503) (by decide +kernel) rfl
theorem pl_X6_7 : q_PL RX6 7 6 1 true (.array .int) := ⟨RX6, TX6, 31, tyX6, rfl, by decide, iqX6, q_in (i := 505) (by decide +kernel) rfl, tyX6_ok, nmX6, rfl, rfl, fun h => by first | rfl | cases h⟩
theorem pl_X6_13 : q_PL RX6 13 6 2 true (.array .int) := ⟨RX6, TX6, 31, tyX6, rfl, by decide, iqX6, q_in (i := 506) (by decide +kernel) rfl, tyX6_ok, nmX6, rfl, rfl, fun h => by first | rfl | cases h⟩
theorem pl_X6_16 : q_PL RX6 16 6 3 true (.array .int) := ⟨RX6, TX6, 31, tyX6, rfl, by decide, iqX6, q_in (i := 507) (by decide +kernel) rfl, tyX6_ok, nmX6, rfl, rfl, fun h => by first | rfl | cases h⟩
theorem pl_X6_19 : q_PL RX6 19 6 4 true (.array .int) := ⟨RX6, TX6, 31, tyX6, rfl, by decide, iqX6, q_in (i := 508) (by decide +kernel) rfl, tyX6_ok, nmX6, rfl, rfl, fun h => by first | rfl | cases h⟩
theorem pl_X6_22 : q_PL RX6 22 6 5 true (.array .int) := ⟨RX6, TX6, 31, tyX6, rfl, by decide, iqX6, q_in (i := 509) (by decide +kernel) rfl, tyX6_ok, nmX6, rfl, rfl, fun h => by first | rfl | cases h⟩
theorem pl_X6_25 : q_PL RX6 25 6 6 true (.array .boolean) := ⟨RX6, TX6, 31, tyX6, rfl, by decide, iqX6, q_in (i := 510) (by decide +kernel) rfl, tyX6_ok, nmX6, rfl, rfl, fun h => by first | rfl | cases h⟩
theorem pl_X6_29 : q_PL RX6 29 6 7 true (.array .boolean) := ⟨RX6, TX6, 31, tyX6, rfl, by decide, iqX6, q_in (i := 511) (by decide +kernel) rfl, tyX6_ok, nmX6, rfl, rfl, fun h => by first | rfl | cases h⟩
theorem pl_X6_32 : q_PL RX6 32 6 8 true (.array .int) := ⟨RX6, TX6, 31, tyX6, rfl, by decide, iqX6, q_in (i := 512) (by decide +kernel) rfl, tyX6_ok, nmX6, rfl, rfl, fun h => by first | rfl | cases h⟩
theorem pl_X6_35 : q_PL RX6 35 6 9 true (.array .int) := ⟨RX6, TX6, 31, tyX6, rfl, by decide, iqX6, q_in (i := 513) (by decide +kernel) rfl, tyX6_ok, nmX6, rfl, rfl, fun h => by first | rfl | cases h⟩
theorem pl_X6_38 : q_PL RX6 38 6 10 true (.array .int) := ⟨RX6, TX6, 31, tyX6, rfl, by decide, iqX6, q_in (i := 514) (by decide +kernel) rfl, tyX6_ok, nmX6, rfl, rfl, fun h => by first | rfl | cases h⟩
theorem pl_X6_41 : q_PL RX6 41 6 11 true (.array .int) := ⟨RX6, TX6, 31, tyX6, rfl, by decide, iqX6, q_in (i := 515) (by decide +kernel) rfl, tyX6_ok, nmX6, rfl, rfl, fun h => by first | rfl | cases h⟩
theorem pl_X6_44 : q_PL RX6 44 6 12 true (.array .int) := ⟨RX6, TX6, 31, tyX6, rfl, by decide, iqX6, q_in (i := 516) (by decide +kernel) rfl, tyX6_ok, nmX6, rfl, rfl, fun h => by first | rfl | cases h⟩
theorem pl_X6_47 : q_PL RX6 47 6 13 true (.array .int) := ⟨RX6, TX6, 31, tyX6, rfl, by decide, iqX6, q_in (i := 517) (by decide +kernel) rfl, tyX6_ok, nmX6, rfl, rfl, fun h => by first | rfl | cases h⟩
theorem pl_X6_50 : q_PL RX6 50 6 14 true (.array .long) := ⟨RX6, TX6, 31, tyX6, rfl, by decide, iqX6, q_in (i := 518) (by decide +kernel) rfl, tyX6_ok, nmX6, rfl, rfl, fun h => by first | rfl | cases h⟩
theorem pl_X6_54 : q_PL RX6 54 6 15 true (.array .long) := ⟨RX6, TX6, 31, tyX6, rfl, by decide, iqX6, q_in (i := 519) (by decide +kernel) rfl, tyX6_ok, nmX6, rfl, rfl, fun h => by first | rfl | cases h⟩
theorem pl_X6_57 : q_PL RX6 57 6 16 true (.array .long) := ⟨RX6, TX6, 31, tyX6, rfl, by decide, iqX6, q_in (i := 520) (by decide +kernel) rfl, tyX6_ok, nmX6, rfl, rfl, fun h => by first | rfl | cases h⟩
theorem pl_X6_60 : q_PL RX6 60 6 17 true (.array .boolean) := ⟨RX6, TX6, 31, tyX6, rfl, by decide, iqX6, q_in (i := 521) (by decide +kernel) rfl, tyX6_ok, nmX6, rfl, rfl, fun h => by first | rfl | cases h⟩
theorem pl_X6_63 : q_PL RX6 63 6 18 true (.array .long) := ⟨RX6, TX6, 31, tyX6, rfl, by decide, iqX6, q_in (i := 522) (by decide +kernel) rfl, tyX6_ok, nmX6, rfl, rfl, fun h => by first | rfl | cases h⟩
theorem pl_X6_66 : q_PL RX6 66 6 19 true (.array .long) := ⟨RX6, TX6, 31, tyX6, rfl, by decide, iqX6, q_in (i := 523) (by decide +kernel) rfl, tyX6_ok, nmX6, rfl, rfl, fun h => by first | rfl | cases h⟩
theorem pl_X6_69 : q_PL RX6 69 6 20 true (.array .int) := ⟨RX6, TX6, 31, tyX6, rfl, by decide, iqX6, q_in (i := 524) (by decide +kernel) rfl, tyX6_ok, nmX6, rfl, rfl, fun h => by first | rfl | cases h⟩
theorem pl_X6_72 : q_PL RX6 72 6 21 true (.array .long) := ⟨RX6, TX6, 31, tyX6, rfl, by decide, iqX6, q_in (i := 525) (by decide +kernel) rfl, tyX6_ok, nmX6, rfl, rfl, fun h => by first | rfl | cases h⟩
theorem pl_X6_75 : q_PL RX6 75 6 22 true (.array .long) := ⟨RX6, TX6, 31, tyX6, rfl, by decide, iqX6, q_in (i := 526) (by decide +kernel) rfl, tyX6_ok, nmX6, rfl, rfl, fun h => by first | rfl | cases h⟩
theorem pl_X6_78 : q_PL RX6 78 6 23 true (.array .int) := ⟨RX6, TX6, 31, tyX6, rfl, by decide, iqX6, q_in (i := 527) (by decide +kernel) rfl, tyX6_ok, nmX6, rfl, rfl, fun h => by first | rfl | cases h⟩
theorem pl_X6_81 : q_PL RX6 81 6 25 true (.array .int) := ⟨RX6, TX6, 31, tyX6, rfl, by decide, iqX6, q_in (i := 529) (by decide +kernel) rfl, tyX6_ok, nmX6, rfl, rfl, fun h => by first | rfl | cases h⟩
theorem pl_X6_84 : q_PL RX6 84 6 27 true (.array .int) := ⟨RX6, TX6, 31, tyX6, rfl, by decide, iqX6, q_in (i := 531) (by decide +kernel) rfl, tyX6_ok, nmX6, rfl, rfl, fun h => by first | rfl | cases h⟩
theorem pl_X6_87 : q_PL RX6 87 6 29 true (.array .int) := ⟨RX6, TX6, 31, tyX6, rfl, by decide, iqX6, q_in (i := 533) (by decide +kernel) rfl, tyX6_ok, nmX6, rfl, rfl, fun h => by first | rfl | cases h⟩
theorem pl_X6_90 : q_PL RX6 90 6 30 true (.array .int) := ⟨RX6, TX6, 31, tyX6, rfl, by decide, iqX6, q_in (i := 534) (by decide +kernel) rfl, tyX6_ok, nmX6, rfl, rfl, fun h => by first | rfl | cases h⟩
theorem fl_X6_93 : q_FL RX6 93 6 0 := ⟨RX6, TX6, 31, rfl, by decide, iqX6, q_in (i := 504) (by decide +kernel) rfl⟩
theorem kl_X6_97 : q_LS RX6 97 yX6_in uX6_in 3 := ⟨⟨q_in (i := 605) (by decide +kernel) rfl, q_in (i := 606) (by decide +kernel) rfl, q_in (i := 25) (by decide +kernel) rfl, q_in (i := 607) (by decide +kernel) rfl⟩, by decide, by decide, by decide +kernel⟩
theorem cn_X6_101 : Cond.constantLong RX6 101 (1000000) ∈ q_tb := q_in (i := 604) (by decide +kernel) rfl
theorem cn_X6_103 : Cond.constantLong RX6 103 (4) ∈ q_tb := q_in (i := 608) (by decide +kernel) rfl
theorem cn_X6_105 : Cond.constantLong RX6 105 (-4) ∈ q_tb := q_in (i := 609) (by decide +kernel) rfl
theorem cn_X6_107 : Cond.constantLong RX6 107 (-2) ∈ q_tb := q_in (i := 610) (by decide +kernel) rfl
theorem fl_X6_7 : q_FL RX6 7 6 1 := ⟨RX6, TX6, 31, rfl, by decide, iqX6, q_in (i := 505) (by decide +kernel) rfl⟩
theorem fl_X6_13 : q_FL RX6 13 6 2 := ⟨RX6, TX6, 31, rfl, by decide, iqX6, q_in (i := 506) (by decide +kernel) rfl⟩
theorem pl_X6_93 : q_PL RX6 93 6 0 false (.int) := ⟨RX6, TX6, 31, tyX6, rfl, by decide, iqX6, q_in (i := 504) (by decide +kernel) rfl, tyX6_ok, nmX6, rfl, rfl, fun h => by first | rfl | cases h⟩
theorem fl_X6_109 : q_FL RX6 109 6 24 := ⟨RX6, TX6, 31, rfl, by decide, iqX6, q_in (i := 528) (by decide +kernel) rfl⟩
theorem fl_X6_81 : q_FL RX6 81 6 25 := ⟨RX6, TX6, 31, rfl, by decide, iqX6, q_in (i := 529) (by decide +kernel) rfl⟩
theorem fl_X6_29 : q_FL RX6 29 6 7 := ⟨RX6, TX6, 31, rfl, by decide, iqX6, q_in (i := 511) (by decide +kernel) rfl⟩
theorem kl_X6_112 : q_LV RX6 112 yX6_placeOf uX6_placeOf 1 := ⟨⟨q_in (i := 627) (by decide +kernel) rfl, q_in (i := 629) (by decide +kernel) rfl, q_in (i := 8) (by decide +kernel) rfl, q_in (i := 25) (by decide +kernel) rfl, q_in (i := 630) (by decide +kernel) rfl⟩, by decide, by decide, by decide +kernel⟩
theorem pl_X6_109 : q_PL RX6 109 6 24 false (.int) := ⟨RX6, TX6, 31, tyX6, rfl, by decide, iqX6, q_in (i := 528) (by decide +kernel) rfl, tyX6_ok, nmX6, rfl, rfl, fun h => by first | rfl | cases h⟩
theorem cn_X6_116 : Cond.constantLong RX6 116 (-1000000) ∈ q_tb := q_in (i := 622) (by decide +kernel) rfl
theorem kl_X6_118 : q_LV RX6 118 yX6_isStage uX6_isStage 1 := ⟨⟨q_in (i := 615) (by decide +kernel) rfl, q_in (i := 617) (by decide +kernel) rfl, q_in (i := 6) (by decide +kernel) rfl, q_in (i := 25) (by decide +kernel) rfl, q_in (i := 618) (by decide +kernel) rfl⟩, by decide, by decide, by decide +kernel⟩
theorem kl_X6_122 : q_LS RX6 122 yX6_isTap uX6_isTap 1 := ⟨⟨q_in (i := 619) (by decide +kernel) rfl, q_in (i := 620) (by decide +kernel) rfl, q_in (i := 25) (by decide +kernel) rfl, q_in (i := 621) (by decide +kernel) rfl⟩, by decide, by decide, by decide +kernel⟩
theorem fl_X6_16 : q_FL RX6 16 6 3 := ⟨RX6, TX6, 31, rfl, by decide, iqX6, q_in (i := 507) (by decide +kernel) rfl⟩
theorem fl_X6_19 : q_FL RX6 19 6 4 := ⟨RX6, TX6, 31, rfl, by decide, iqX6, q_in (i := 508) (by decide +kernel) rfl⟩
theorem kl_X6_125 : q_LV RX6 125 yX6_unplan uX6_unplan 1 := ⟨⟨q_in (i := 623) (by decide +kernel) rfl, q_in (i := 625) (by decide +kernel) rfl, q_in (i := 7) (by decide +kernel) rfl, q_in (i := 25) (by decide +kernel) rfl, q_in (i := 626) (by decide +kernel) rfl⟩, by decide, by decide, by decide +kernel⟩
theorem cn_X6_129 : Cond.constant RX6 129 (2000000000) ∈ q_tb := q_in (i := 635) (by decide +kernel) rfl
theorem cn_X6_130 : Cond.constantLong RX6 130 (3) ∈ q_tb := q_in (i := 640) (by decide +kernel) rfl
theorem fl_X6_22 : q_FL RX6 22 6 5 := ⟨RX6, TX6, 31, rfl, by decide, iqX6, q_in (i := 509) (by decide +kernel) rfl⟩
theorem fl_X6_25 : q_FL RX6 25 6 6 := ⟨RX6, TX6, 31, rfl, by decide, iqX6, q_in (i := 510) (by decide +kernel) rfl⟩
theorem kl_X6_132 : q_LS RX6 132 yX6_down uX6_down 2 := ⟨⟨q_in (i := 663) (by decide +kernel) rfl, q_in (i := 664) (by decide +kernel) rfl, q_in (i := 25) (by decide +kernel) rfl, q_in (i := 665) (by decide +kernel) rfl⟩, by decide, by decide, by decide +kernel⟩
theorem cn_X6_136 : Cond.constantLong RX6 136 (2) ∈ q_tb := q_in (i := 666) (by decide +kernel) rfl
theorem kl_X6_138 : q_LS RX6 138 yX6_nearest uX6_nearest 2 := ⟨⟨q_in (i := 660) (by decide +kernel) rfl, q_in (i := 661) (by decide +kernel) rfl, q_in (i := 25) (by decide +kernel) rfl, q_in (i := 662) (by decide +kernel) rfl⟩, by decide, by decide, by decide +kernel⟩
theorem kl_X6_141 : q_LV RX6 141 yX6_factorAt uX6_factorAt 3 := ⟨⟨q_in (i := 656) (by decide +kernel) rfl, q_in (i := 658) (by decide +kernel) rfl, q_in (i := 11) (by decide +kernel) rfl, q_in (i := 25) (by decide +kernel) rfl, q_in (i := 659) (by decide +kernel) rfl⟩, by decide, by decide, by decide +kernel⟩
theorem kl_X6_145 : q_LS RX6 145 yX6_size uX6_size 1 := ⟨⟨q_in (i := 667) (by decide +kernel) rfl, q_in (i := 668) (by decide +kernel) rfl, q_in (i := 25) (by decide +kernel) rfl, q_in (i := 669) (by decide +kernel) rfl⟩, by decide, by decide, by decide +kernel⟩
theorem cn_X6_149 : Cond.constantLong RX6 149 (32768) ∈ q_tb := q_in (i := 670) (by decide +kernel) rfl
theorem fl_X6_44 : q_FL RX6 44 6 12 := ⟨RX6, TX6, 31, rfl, by decide, iqX6, q_in (i := 516) (by decide +kernel) rfl⟩
theorem fl_X6_47 : q_FL RX6 47 6 13 := ⟨RX6, TX6, 31, rfl, by decide, iqX6, q_in (i := 517) (by decide +kernel) rfl⟩
theorem fl_X6_50 : q_FL RX6 50 6 14 := ⟨RX6, TX6, 31, rfl, by decide, iqX6, q_in (i := 518) (by decide +kernel) rfl⟩
theorem fl_X6_54 : q_FL RX6 54 6 15 := ⟨RX6, TX6, 31, rfl, by decide, iqX6, q_in (i := 519) (by decide +kernel) rfl⟩
theorem fl_X6_57 : q_FL RX6 57 6 16 := ⟨RX6, TX6, 31, rfl, by decide, iqX6, q_in (i := 520) (by decide +kernel) rfl⟩
theorem fl_X6_32 : q_FL RX6 32 6 8 := ⟨RX6, TX6, 31, rfl, by decide, iqX6, q_in (i := 512) (by decide +kernel) rfl⟩
theorem fl_X6_35 : q_FL RX6 35 6 9 := ⟨RX6, TX6, 31, rfl, by decide, iqX6, q_in (i := 513) (by decide +kernel) rfl⟩
theorem fl_X6_38 : q_FL RX6 38 6 10 := ⟨RX6, TX6, 31, rfl, by decide, iqX6, q_in (i := 514) (by decide +kernel) rfl⟩
theorem fl_X6_41 : q_FL RX6 41 6 11 := ⟨RX6, TX6, 31, rfl, by decide, iqX6, q_in (i := 515) (by decide +kernel) rfl⟩
theorem kl_X6_151 : q_LV RX6 151 yX6_forgets uX6_forgets 1 := ⟨⟨q_in (i := 675) (by decide +kernel) rfl, q_in (i := 677) (by decide +kernel) rfl, q_in (i := 13) (by decide +kernel) rfl, q_in (i := 25) (by decide +kernel) rfl, q_in (i := 678) (by decide +kernel) rfl⟩, by decide, by decide, by decide +kernel⟩
theorem fl_X6_60 : q_FL RX6 60 6 17 := ⟨RX6, TX6, 31, rfl, by decide, iqX6, q_in (i := 521) (by decide +kernel) rfl⟩
theorem cn_X6_154 : Cond.constantLong RX6 154 (16) ∈ q_tb := q_in (i := 649) (by decide +kernel) rfl
theorem cn_X6_156 : Cond.constantLong RX6 156 (18) ∈ q_tb := q_in (i := 650) (by decide +kernel) rfl
theorem cn_X6_158 : Cond.constantLong RX6 158 (50) ∈ q_tb := q_in (i := 651) (by decide +kernel) rfl
theorem kl_X6_160 : q_LV RX6 160 yX6_isPlan uX6_isPlan 3 := ⟨⟨q_in (i := 645) (by decide +kernel) rfl, q_in (i := 647) (by decide +kernel) rfl, q_in (i := 9) (by decide +kernel) rfl, q_in (i := 25) (by decide +kernel) rfl, q_in (i := 648) (by decide +kernel) rfl⟩, by decide, by decide, by decide +kernel⟩
theorem kl_X6_164 : q_LV RX6 164 yX6_isSafe uX6_isSafe 4 := ⟨⟨q_in (i := 652) (by decide +kernel) rfl, q_in (i := 654) (by decide +kernel) rfl, q_in (i := 10) (by decide +kernel) rfl, q_in (i := 25) (by decide +kernel) rfl, q_in (i := 655) (by decide +kernel) rfl⟩, by decide, by decide, by decide +kernel⟩
theorem kl_X6_168 : q_LV RX6 168 yX6_plans uX6_plans 4 := ⟨⟨q_in (i := 671) (by decide +kernel) rfl, q_in (i := 673) (by decide +kernel) rfl, q_in (i := 12) (by decide +kernel) rfl, q_in (i := 25) (by decide +kernel) rfl, q_in (i := 674) (by decide +kernel) rfl⟩, by decide, by decide, by decide +kernel⟩
theorem cn_X6_172 : Cond.constantLong RX6 172 (24) ∈ q_tb := q_in (i := 683) (by decide +kernel) rfl
theorem kl_X6_174 : q_LV RX6 174 yX6_mirrored uX6_mirrored 1 := ⟨⟨q_in (i := 697) (by decide +kernel) rfl, q_in (i := 699) (by decide +kernel) rfl, q_in (i := 15) (by decide +kernel) rfl, q_in (i := 25) (by decide +kernel) rfl, q_in (i := 700) (by decide +kernel) rfl⟩, by decide, by decide, by decide +kernel⟩
theorem cn_X6_177 : Cond.constantLong RX6 177 (9) ∈ q_tb := q_in (i := 692) (by decide +kernel) rfl
theorem kl_X6_179 : q_LV RX6 179 yX6_aboutOf uX6_aboutOf 2 := ⟨⟨q_in (i := 693) (by decide +kernel) rfl, q_in (i := 695) (by decide +kernel) rfl, q_in (i := 14) (by decide +kernel) rfl, q_in (i := 25) (by decide +kernel) rfl, q_in (i := 696) (by decide +kernel) rfl⟩, by decide, by decide, by decide +kernel⟩
theorem kl_X6_183 : q_LV RX6 183 yX6_normOf uX6_normOf 1 := ⟨⟨q_in (i := 705) (by decide +kernel) rfl, q_in (i := 707) (by decide +kernel) rfl, q_in (i := 16) (by decide +kernel) rfl, q_in (i := 25) (by decide +kernel) rfl, q_in (i := 708) (by decide +kernel) rfl⟩, by decide, by decide, by decide +kernel⟩
theorem kl_X6_187 : q_LS RX6 187 yX6_round uX6_round 3 := ⟨⟨q_in (i := 742) (by decide +kernel) rfl, q_in (i := 743) (by decide +kernel) rfl, q_in (i := 25) (by decide +kernel) rfl, q_in (i := 744) (by decide +kernel) rfl⟩, by decide, by decide, by decide +kernel⟩
theorem cn_X6_191 : Cond.constantLong RX6 191 (-32768) ∈ q_tb := q_in (i := 728) (by decide +kernel) rfl
theorem cn_X6_193 : Cond.constantLong RX6 193 (32767) ∈ q_tb := q_in (i := 729) (by decide +kernel) rfl
theorem fl_X6_63 : q_FL RX6 63 6 18 := ⟨RX6, TX6, 31, rfl, by decide, iqX6, q_in (i := 522) (by decide +kernel) rfl⟩
theorem fl_X6_66 : q_FL RX6 66 6 19 := ⟨RX6, TX6, 31, rfl, by decide, iqX6, q_in (i := 523) (by decide +kernel) rfl⟩
theorem fl_X6_69 : q_FL RX6 69 6 20 := ⟨RX6, TX6, 31, rfl, by decide, iqX6, q_in (i := 524) (by decide +kernel) rfl⟩
theorem fl_X6_72 : q_FL RX6 72 6 21 := ⟨RX6, TX6, 31, rfl, by decide, iqX6, q_in (i := 525) (by decide +kernel) rfl⟩
theorem fl_X6_75 : q_FL RX6 75 6 22 := ⟨RX6, TX6, 31, rfl, by decide, iqX6, q_in (i := 526) (by decide +kernel) rfl⟩
theorem fl_X6_78 : q_FL RX6 78 6 23 := ⟨RX6, TX6, 31, rfl, by decide, iqX6, q_in (i := 527) (by decide +kernel) rfl⟩
theorem fl_X6_87 : q_FL RX6 87 6 29 := ⟨RX6, TX6, 31, rfl, by decide, iqX6, q_in (i := 533) (by decide +kernel) rfl⟩
theorem kl_X6_195 : q_LV RX6 195 yX6_comes uX6_comes 2 := ⟨⟨q_in (i := 738) (by decide +kernel) rfl, q_in (i := 740) (by decide +kernel) rfl, q_in (i := 20) (by decide +kernel) rfl, q_in (i := 25) (by decide +kernel) rfl, q_in (i := 741) (by decide +kernel) rfl⟩, by decide, by decide, by decide +kernel⟩
theorem fl_X6_90 : q_FL RX6 90 6 30 := ⟨RX6, TX6, 31, rfl, by decide, iqX6, q_in (i := 534) (by decide +kernel) rfl⟩
theorem kl_X6_198 : q_LV RX6 198 yX6_goes uX6_goes 2 := ⟨⟨q_in (i := 734) (by decide +kernel) rfl, q_in (i := 736) (by decide +kernel) rfl, q_in (i := 19) (by decide +kernel) rfl, q_in (i := 25) (by decide +kernel) rfl, q_in (i := 737) (by decide +kernel) rfl⟩, by decide, by decide, by decide +kernel⟩
theorem fl_X6_201 : q_FL RX6 201 6 26 := ⟨RX6, TX6, 31, rfl, by decide, iqX6, q_in (i := 530) (by decide +kernel) rfl⟩
theorem fl_X6_84 : q_FL RX6 84 6 27 := ⟨RX6, TX6, 31, rfl, by decide, iqX6, q_in (i := 531) (by decide +kernel) rfl⟩
theorem pl_X6_201 : q_PL RX6 201 6 26 false (.int) := ⟨RX6, TX6, 31, tyX6, rfl, by decide, iqX6, q_in (i := 530) (by decide +kernel) rfl, tyX6_ok, nmX6, rfl, rfl, fun h => by first | rfl | cases h⟩
theorem fl_X6_204 : q_FL RX6 204 6 28 := ⟨RX6, TX6, 31, rfl, by decide, iqX6, q_in (i := 532) (by decide +kernel) rfl⟩
theorem pl_X6_204 : q_PL RX6 204 6 28 false (.int) := ⟨RX6, TX6, 31, tyX6, rfl, by decide, iqX6, q_in (i := 532) (by decide +kernel) rfl, tyX6_ok, nmX6, rfl, rfl, fun h => by first | rfl | cases h⟩
theorem kl_X6_207 : q_LV RX6 207 yX6_filled uX6_filled 1 := ⟨⟨q_in (i := 713) (by decide +kernel) rfl, q_in (i := 715) (by decide +kernel) rfl, q_in (i := 17) (by decide +kernel) rfl, q_in (i := 25) (by decide +kernel) rfl, q_in (i := 716) (by decide +kernel) rfl⟩, by decide, by decide, by decide +kernel⟩
theorem kl_X6_210 : q_LS RX6 210 yX6_isSample uX6_isSample 1 := ⟨⟨q_in (i := 725) (by decide +kernel) rfl, q_in (i := 726) (by decide +kernel) rfl, q_in (i := 25) (by decide +kernel) rfl, q_in (i := 727) (by decide +kernel) rfl⟩, by decide, by decide, by decide +kernel⟩
theorem kl_X6_213 : q_LV RX6 213 yX6_puts uX6_puts 1 := ⟨⟨q_in (i := 730) (by decide +kernel) rfl, q_in (i := 732) (by decide +kernel) rfl, q_in (i := 18) (by decide +kernel) rfl, q_in (i := 25) (by decide +kernel) rfl, q_in (i := 733) (by decide +kernel) rfl⟩, by decide, by decide, by decide +kernel⟩
theorem cn_X6_216 : Cond.constantLong RX6 216 (64) ∈ q_tb := q_in (i := 749) (by decide +kernel) rfl
theorem cn_X6_218 : Cond.constant RX6 218 (2000000001) ∈ q_tb := q_in (i := 766) (by decide +kernel) rfl
theorem kl_X6_219 : q_LV RX6 219 yX6_hasTold uX6_hasTold 1 := ⟨⟨q_in (i := 771) (by decide +kernel) rfl, q_in (i := 773) (by decide +kernel) rfl, q_in (i := 21) (by decide +kernel) rfl, q_in (i := 25) (by decide +kernel) rfl, q_in (i := 774) (by decide +kernel) rfl⟩, by decide, by decide, by decide +kernel⟩
theorem cn_X6_222 : Cond.constantLong RX6 222 (43) ∈ q_tb := q_in (i := 791) (by decide +kernel) rfl
theorem cn_X6_224 : Cond.constantLong RX6 224 (31) ∈ q_tb := q_in (i := 792) (by decide +kernel) rfl
theorem kl_X6_226 : q_LV RX6 226 yX6_counted uX6_counted 2 := ⟨⟨q_in (i := 793) (by decide +kernel) rfl, q_in (i := 780) (by decide +kernel) rfl, q_in (i := 781) (by decide +kernel) rfl, q_in (i := 25) (by decide +kernel) rfl, q_in (i := 782) (by decide +kernel) rfl⟩, by decide, by decide, by decide +kernel⟩
theorem nl_L_7 : Cond.classLink RL 7 RX5 ∈ q_tb := q_in (i := 31) (by decide +kernel) rfl
theorem kl_L_9 : q_LI RL 9 yX5_init uX5_init 0 := ⟨⟨q_in (i := 33) (by decide +kernel) rfl, q_in (i := 34) (by decide +kernel) rfl, q_in (i := 23) (by decide +kernel) rfl, q_in (i := 35) (by decide +kernel) rfl⟩, by decide, by decide, by decide +kernel, rfl, rfl⟩
theorem nl_L_10 : Cond.classLink RL 10 RX6 ∈ q_tb := q_in (i := 498) (by decide +kernel) rfl
theorem kl_L_12 : q_LI RL 12 yX6_init uX6_init 0 := ⟨⟨q_in (i := 500) (by decide +kernel) rfl, q_in (i := 501) (by decide +kernel) rfl, q_in (i := 25) (by decide +kernel) rfl, q_in (i := 502) (by decide +kernel) rfl⟩, by decide, by decide, by decide +kernel, rfl, rfl⟩
theorem kl_L_13 : q_LV RL 13 yX5_stage uX5_stage 2 := ⟨⟨q_in (i := 83) (by decide +kernel) rfl, q_in (i := 84) (by decide +kernel) rfl, q_in (i := 85) (by decide +kernel) rfl, q_in (i := 23) (by decide +kernel) rfl, q_in (i := 86) (by decide +kernel) rfl⟩, by decide, by decide, by decide +kernel⟩
theorem kl_L_17 : q_LV RL 17 yX6_stage uX6_stage 2 := ⟨⟨q_in (i := 600) (by decide +kernel) rfl, q_in (i := 601) (by decide +kernel) rfl, q_in (i := 602) (by decide +kernel) rfl, q_in (i := 25) (by decide +kernel) rfl, q_in (i := 603) (by decide +kernel) rfl⟩, by decide, by decide, by decide +kernel⟩
theorem kl_L_18 : q_LV RL 18 yX5_tap uX5_tap 2 := ⟨⟨q_in (i := 228) (by decide +kernel) rfl, q_in (i := 229) (by decide +kernel) rfl, q_in (i := 230) (by decide +kernel) rfl, q_in (i := 23) (by decide +kernel) rfl, q_in (i := 231) (by decide +kernel) rfl⟩, by decide, by decide, by decide +kernel⟩
theorem kl_L_21 : q_LV RL 21 yX6_tap uX6_tap 2 := ⟨⟨q_in (i := 611) (by decide +kernel) rfl, q_in (i := 612) (by decide +kernel) rfl, q_in (i := 613) (by decide +kernel) rfl, q_in (i := 25) (by decide +kernel) rfl, q_in (i := 614) (by decide +kernel) rfl⟩, by decide, by decide, by decide +kernel⟩
theorem kl_L_22 : q_LV RL 22 yX5_change uX5_change 3 := ⟨⟨q_in (i := 253) (by decide +kernel) rfl, q_in (i := 254) (by decide +kernel) rfl, q_in (i := 255) (by decide +kernel) rfl, q_in (i := 23) (by decide +kernel) rfl, q_in (i := 256) (by decide +kernel) rfl⟩, by decide, by decide, by decide +kernel⟩
theorem kl_L_26 : q_LV RL 26 yX6_change uX6_change 3 := ⟨⟨q_in (i := 631) (by decide +kernel) rfl, q_in (i := 632) (by decide +kernel) rfl, q_in (i := 633) (by decide +kernel) rfl, q_in (i := 25) (by decide +kernel) rfl, q_in (i := 634) (by decide +kernel) rfl⟩, by decide, by decide, by decide +kernel⟩
theorem kl_L_27 : q_LV RL 27 yX5_way uX5_way 3 := ⟨⟨q_in (i := 271) (by decide +kernel) rfl, q_in (i := 272) (by decide +kernel) rfl, q_in (i := 273) (by decide +kernel) rfl, q_in (i := 23) (by decide +kernel) rfl, q_in (i := 274) (by decide +kernel) rfl⟩, by decide, by decide, by decide +kernel⟩
theorem kl_L_31 : q_LV RL 31 yX6_way uX6_way 3 := ⟨⟨q_in (i := 636) (by decide +kernel) rfl, q_in (i := 637) (by decide +kernel) rfl, q_in (i := 638) (by decide +kernel) rfl, q_in (i := 25) (by decide +kernel) rfl, q_in (i := 639) (by decide +kernel) rfl⟩, by decide, by decide, by decide +kernel⟩
theorem kl_L_32 : q_LV RL 32 yX5_plan uX5_plan 3 := ⟨⟨q_in (i := 275) (by decide +kernel) rfl, q_in (i := 276) (by decide +kernel) rfl, q_in (i := 277) (by decide +kernel) rfl, q_in (i := 23) (by decide +kernel) rfl, q_in (i := 278) (by decide +kernel) rfl⟩, by decide, by decide, by decide +kernel⟩
theorem kl_L_35 : q_LV RL 35 yX6_plan uX6_plan 3 := ⟨⟨q_in (i := 641) (by decide +kernel) rfl, q_in (i := 642) (by decide +kernel) rfl, q_in (i := 643) (by decide +kernel) rfl, q_in (i := 25) (by decide +kernel) rfl, q_in (i := 644) (by decide +kernel) rfl⟩, by decide, by decide, by decide +kernel⟩
theorem kl_L_36 : q_LV RL 36 yX5_planAt uX5_planAt 4 := ⟨⟨q_in (i := 324) (by decide +kernel) rfl, q_in (i := 325) (by decide +kernel) rfl, q_in (i := 326) (by decide +kernel) rfl, q_in (i := 23) (by decide +kernel) rfl, q_in (i := 327) (by decide +kernel) rfl⟩, by decide, by decide, by decide +kernel⟩
theorem kl_L_40 : q_LV RL 40 yX6_planAt uX6_planAt 4 := ⟨⟨q_in (i := 679) (by decide +kernel) rfl, q_in (i := 680) (by decide +kernel) rfl, q_in (i := 681) (by decide +kernel) rfl, q_in (i := 25) (by decide +kernel) rfl, q_in (i := 682) (by decide +kernel) rfl⟩, by decide, by decide, by decide +kernel⟩
theorem kl_L_41 : q_LV RL 41 yX5_coefficient uX5_coefficient 2 := ⟨⟨q_in (i := 328) (by decide +kernel) rfl, q_in (i := 329) (by decide +kernel) rfl, q_in (i := 330) (by decide +kernel) rfl, q_in (i := 23) (by decide +kernel) rfl, q_in (i := 331) (by decide +kernel) rfl⟩, by decide, by decide, by decide +kernel⟩
theorem kl_L_44 : q_LV RL 44 yX6_coefficient uX6_coefficient 2 := ⟨⟨q_in (i := 684) (by decide +kernel) rfl, q_in (i := 685) (by decide +kernel) rfl, q_in (i := 686) (by decide +kernel) rfl, q_in (i := 25) (by decide +kernel) rfl, q_in (i := 687) (by decide +kernel) rfl⟩, by decide, by decide, by decide +kernel⟩
theorem kl_L_45 : q_LV RL 45 yX5_about uX5_about 2 := ⟨⟨q_in (i := 336) (by decide +kernel) rfl, q_in (i := 337) (by decide +kernel) rfl, q_in (i := 338) (by decide +kernel) rfl, q_in (i := 23) (by decide +kernel) rfl, q_in (i := 339) (by decide +kernel) rfl⟩, by decide, by decide, by decide +kernel⟩
theorem kl_L_48 : q_LV RL 48 yX6_about uX6_about 2 := ⟨⟨q_in (i := 688) (by decide +kernel) rfl, q_in (i := 689) (by decide +kernel) rfl, q_in (i := 690) (by decide +kernel) rfl, q_in (i := 25) (by decide +kernel) rfl, q_in (i := 691) (by decide +kernel) rfl⟩, by decide, by decide, by decide +kernel⟩
theorem kl_L_49 : q_LV RL 49 yX5_norm uX5_norm 1 := ⟨⟨q_in (i := 344) (by decide +kernel) rfl, q_in (i := 345) (by decide +kernel) rfl, q_in (i := 346) (by decide +kernel) rfl, q_in (i := 23) (by decide +kernel) rfl, q_in (i := 347) (by decide +kernel) rfl⟩, by decide, by decide, by decide +kernel⟩
theorem kl_L_53 : q_LV RL 53 yX6_norm uX6_norm 1 := ⟨⟨q_in (i := 701) (by decide +kernel) rfl, q_in (i := 702) (by decide +kernel) rfl, q_in (i := 703) (by decide +kernel) rfl, q_in (i := 25) (by decide +kernel) rfl, q_in (i := 704) (by decide +kernel) rfl⟩, by decide, by decide, by decide +kernel⟩
theorem kl_L_54 : q_LV RL 54 yX5_join uX5_join 1 := ⟨⟨q_in (i := 349) (by decide +kernel) rfl, q_in (i := 350) (by decide +kernel) rfl, q_in (i := 351) (by decide +kernel) rfl, q_in (i := 23) (by decide +kernel) rfl, q_in (i := 352) (by decide +kernel) rfl⟩, by decide, by decide, by decide +kernel⟩
theorem kl_L_58 : q_LV RL 58 yX6_join uX6_join 1 := ⟨⟨q_in (i := 709) (by decide +kernel) rfl, q_in (i := 710) (by decide +kernel) rfl, q_in (i := 711) (by decide +kernel) rfl, q_in (i := 25) (by decide +kernel) rfl, q_in (i := 712) (by decide +kernel) rfl⟩, by decide, by decide, by decide +kernel⟩
theorem kl_L_59 : q_LV RL 59 yX5_part uX5_part 0 := ⟨⟨q_in (i := 361) (by decide +kernel) rfl, q_in (i := 362) (by decide +kernel) rfl, q_in (i := 363) (by decide +kernel) rfl, q_in (i := 23) (by decide +kernel) rfl, q_in (i := 364) (by decide +kernel) rfl⟩, by decide, by decide, by decide +kernel⟩
theorem kl_L_63 : q_LV RL 63 yX6_part uX6_part 0 := ⟨⟨q_in (i := 717) (by decide +kernel) rfl, q_in (i := 718) (by decide +kernel) rfl, q_in (i := 719) (by decide +kernel) rfl, q_in (i := 25) (by decide +kernel) rfl, q_in (i := 720) (by decide +kernel) rfl⟩, by decide, by decide, by decide +kernel⟩
theorem kl_L_64 : q_LV RL 64 yX5_put uX5_put 1 := ⟨⟨q_in (i := 365) (by decide +kernel) rfl, q_in (i := 366) (by decide +kernel) rfl, q_in (i := 367) (by decide +kernel) rfl, q_in (i := 23) (by decide +kernel) rfl, q_in (i := 368) (by decide +kernel) rfl⟩, by decide, by decide, by decide +kernel⟩
theorem kl_L_67 : q_LV RL 67 yX6_put uX6_put 1 := ⟨⟨q_in (i := 721) (by decide +kernel) rfl, q_in (i := 722) (by decide +kernel) rfl, q_in (i := 723) (by decide +kernel) rfl, q_in (i := 25) (by decide +kernel) rfl, q_in (i := 724) (by decide +kernel) rfl⟩, by decide, by decide, by decide +kernel⟩
theorem kl_L_68 : q_LV RL 68 yX5_ramp uX5_ramp 3 := ⟨⟨q_in (i := 424) (by decide +kernel) rfl, q_in (i := 425) (by decide +kernel) rfl, q_in (i := 426) (by decide +kernel) rfl, q_in (i := 23) (by decide +kernel) rfl, q_in (i := 427) (by decide +kernel) rfl⟩, by decide, by decide, by decide +kernel⟩
theorem kl_L_71 : q_LV RL 71 yX6_ramp uX6_ramp 3 := ⟨⟨q_in (i := 745) (by decide +kernel) rfl, q_in (i := 746) (by decide +kernel) rfl, q_in (i := 747) (by decide +kernel) rfl, q_in (i := 25) (by decide +kernel) rfl, q_in (i := 748) (by decide +kernel) rfl⟩, by decide, by decide, by decide +kernel⟩
theorem kl_L_72 : q_LV RL 72 yX5_out uX5_out 1 := ⟨⟨q_in (i := 428) (by decide +kernel) rfl, q_in (i := 429) (by decide +kernel) rfl, q_in (i := 430) (by decide +kernel) rfl, q_in (i := 23) (by decide +kernel) rfl, q_in (i := 431) (by decide +kernel) rfl⟩, by decide, by decide, by decide +kernel⟩
theorem kl_L_75 : q_LV RL 75 yX6_out uX6_out 1 := ⟨⟨q_in (i := 750) (by decide +kernel) rfl, q_in (i := 751) (by decide +kernel) rfl, q_in (i := 752) (by decide +kernel) rfl, q_in (i := 25) (by decide +kernel) rfl, q_in (i := 753) (by decide +kernel) rfl⟩, by decide, by decide, by decide +kernel⟩
theorem kl_L_76 : q_LV RL 76 yX5_empty uX5_empty 0 := ⟨⟨q_in (i := 441) (by decide +kernel) rfl, q_in (i := 442) (by decide +kernel) rfl, q_in (i := 443) (by decide +kernel) rfl, q_in (i := 23) (by decide +kernel) rfl, q_in (i := 444) (by decide +kernel) rfl⟩, by decide, by decide, by decide +kernel⟩
theorem kl_L_79 : q_LV RL 79 yX6_empty uX6_empty 0 := ⟨⟨q_in (i := 754) (by decide +kernel) rfl, q_in (i := 755) (by decide +kernel) rfl, q_in (i := 756) (by decide +kernel) rfl, q_in (i := 25) (by decide +kernel) rfl, q_in (i := 757) (by decide +kernel) rfl⟩, by decide, by decide, by decide +kernel⟩
theorem kl_L_80 : q_LV RL 80 yX5_reset uX5_reset 0 := ⟨⟨q_in (i := 445) (by decide +kernel) rfl, q_in (i := 446) (by decide +kernel) rfl, q_in (i := 447) (by decide +kernel) rfl, q_in (i := 23) (by decide +kernel) rfl, q_in (i := 448) (by decide +kernel) rfl⟩, by decide, by decide, by decide +kernel⟩
theorem kl_L_83 : q_LV RL 83 yX6_reset uX6_reset 0 := ⟨⟨q_in (i := 758) (by decide +kernel) rfl, q_in (i := 759) (by decide +kernel) rfl, q_in (i := 760) (by decide +kernel) rfl, q_in (i := 25) (by decide +kernel) rfl, q_in (i := 761) (by decide +kernel) rfl⟩, by decide, by decide, by decide +kernel⟩
theorem kl_L_84 : q_LV RL 84 yX5_through uX5_through 2 := ⟨⟨q_in (i := 450) (by decide +kernel) rfl, q_in (i := 451) (by decide +kernel) rfl, q_in (i := 452) (by decide +kernel) rfl, q_in (i := 23) (by decide +kernel) rfl, q_in (i := 453) (by decide +kernel) rfl⟩, by decide, by decide, by decide +kernel⟩
theorem kl_L_87 : q_LV RL 87 yX6_through uX6_through 2 := ⟨⟨q_in (i := 762) (by decide +kernel) rfl, q_in (i := 763) (by decide +kernel) rfl, q_in (i := 764) (by decide +kernel) rfl, q_in (i := 25) (by decide +kernel) rfl, q_in (i := 765) (by decide +kernel) rfl⟩, by decide, by decide, by decide +kernel⟩
theorem kl_L_88 : q_LV RL 88 yX5_told uX5_told 2 := ⟨⟨q_in (i := 456) (by decide +kernel) rfl, q_in (i := 457) (by decide +kernel) rfl, q_in (i := 458) (by decide +kernel) rfl, q_in (i := 23) (by decide +kernel) rfl, q_in (i := 459) (by decide +kernel) rfl⟩, by decide, by decide, by decide +kernel⟩
theorem kl_L_92 : q_LV RL 92 yX6_told uX6_told 2 := ⟨⟨q_in (i := 767) (by decide +kernel) rfl, q_in (i := 768) (by decide +kernel) rfl, q_in (i := 769) (by decide +kernel) rfl, q_in (i := 25) (by decide +kernel) rfl, q_in (i := 770) (by decide +kernel) rfl⟩, by decide, by decide, by decide +kernel⟩
theorem kl_L_93 : q_LV RL 93 yX5_near uX5_near 1 := ⟨⟨q_in (i := 461) (by decide +kernel) rfl, q_in (i := 462) (by decide +kernel) rfl, q_in (i := 463) (by decide +kernel) rfl, q_in (i := 23) (by decide +kernel) rfl, q_in (i := 464) (by decide +kernel) rfl⟩, by decide, by decide, by decide +kernel⟩
theorem kl_L_96 : q_LV RL 96 yX6_near uX6_near 1 := ⟨⟨q_in (i := 775) (by decide +kernel) rfl, q_in (i := 776) (by decide +kernel) rfl, q_in (i := 777) (by decide +kernel) rfl, q_in (i := 25) (by decide +kernel) rfl, q_in (i := 778) (by decide +kernel) rfl⟩, by decide, by decide, by decide +kernel⟩
theorem kl_L_97 : q_LV RL 97 yX5_counted uX5_counted 2 := ⟨⟨q_in (i := 471) (by decide +kernel) rfl, q_in (i := 472) (by decide +kernel) rfl, q_in (i := 473) (by decide +kernel) rfl, q_in (i := 23) (by decide +kernel) rfl, q_in (i := 474) (by decide +kernel) rfl⟩, by decide, by decide, by decide +kernel⟩
theorem kl_L_100 : q_LV RL 100 yX6_counted uX6_counted 2 := ⟨⟨q_in (i := 779) (by decide +kernel) rfl, q_in (i := 780) (by decide +kernel) rfl, q_in (i := 781) (by decide +kernel) rfl, q_in (i := 25) (by decide +kernel) rfl, q_in (i := 782) (by decide +kernel) rfl⟩, by decide, by decide, by decide +kernel⟩
theorem kl_L_101 : q_LV RL 101 yX5_count uX5_count 1 := ⟨⟨q_in (i := 475) (by decide +kernel) rfl, q_in (i := 476) (by decide +kernel) rfl, q_in (i := 477) (by decide +kernel) rfl, q_in (i := 23) (by decide +kernel) rfl, q_in (i := 478) (by decide +kernel) rfl⟩, by decide, by decide, by decide +kernel⟩
theorem kl_L_104 : q_LV RL 104 yX6_count uX6_count 1 := ⟨⟨q_in (i := 783) (by decide +kernel) rfl, q_in (i := 784) (by decide +kernel) rfl, q_in (i := 785) (by decide +kernel) rfl, q_in (i := 25) (by decide +kernel) rfl, q_in (i := 786) (by decide +kernel) rfl⟩, by decide, by decide, by decide +kernel⟩
theorem kl_L_105 : q_LV RL 105 yX5_digest uX5_digest 0 := ⟨⟨q_in (i := 479) (by decide +kernel) rfl, q_in (i := 480) (by decide +kernel) rfl, q_in (i := 481) (by decide +kernel) rfl, q_in (i := 23) (by decide +kernel) rfl, q_in (i := 482) (by decide +kernel) rfl⟩, by decide, by decide, by decide +kernel⟩
theorem kl_L_109 : q_LV RL 109 yX6_digest uX6_digest 0 := ⟨⟨q_in (i := 787) (by decide +kernel) rfl, q_in (i := 788) (by decide +kernel) rfl, q_in (i := 789) (by decide +kernel) rfl, q_in (i := 25) (by decide +kernel) rfl, q_in (i := 790) (by decide +kernel) rfl⟩, by decide, by decide, by decide +kernel⟩
theorem ni_X0 : Cond.instantiable RX0 7 ∈ q_tb := q_in (i := 132) (by decide +kernel) rfl
theorem nz_X0 : Cond.initialized RX0 ∈ q_tb := q_in (i := 28) (by decide +kernel) rfl
theorem ni_X1 : Cond.instantiable RX1 6 ∈ q_tb := q_in (i := 100) (by decide +kernel) rfl
theorem nz_X1 : Cond.initialized RX1 ∈ q_tb := q_in (i := 27) (by decide +kernel) rfl
theorem ni_X2 : Cond.instantiable RX2 2 ∈ q_tb := q_in (i := 166) (by decide +kernel) rfl
theorem nz_X2 : Cond.initialized RX2 ∈ q_tb := q_in (i := 29) (by decide +kernel) rfl
theorem ni_X3 : Cond.instantiable RX3 13 ∈ q_tb := q_in (i := 94) (by decide +kernel) rfl
theorem nz_X3 : Cond.initialized RX3 ∈ q_tb := q_in (i := 26) (by decide +kernel) rfl
theorem ni_X4 : Cond.instantiable RX4 3 ∈ q_tb := q_in (i := 42) (by decide +kernel) rfl
theorem nz_X4 : Cond.initialized RX4 ∈ q_tb := q_in (i := 24) (by decide +kernel) rfl
theorem ni_X5 : Cond.instantiable RX5 7 ∈ q_tb := q_in (i := 32) (by decide +kernel) rfl
theorem nz_X5 : Cond.initialized RX5 ∈ q_tb := q_in (i := 23) (by decide +kernel) rfl
theorem ni_X6 : Cond.instantiable RX6 31 ∈ q_tb := q_in (i := 499) (by decide +kernel) rfl
theorem nz_X6 : Cond.initialized RX6 ∈ q_tb := q_in (i := 25) (by decide +kernel) rfl
theorem na_int : Cond.arrayClass .int ∈ q_tb := q_in (i := 59) (by decide +kernel) rfl
theorem na_short : Cond.arrayClass .short ∈ q_tb := q_in (i := 60) (by decide +kernel) rfl
theorem na_boolean : Cond.arrayClass .boolean ∈ q_tb := q_in (i := 598) (by decide +kernel) rfl
theorem na_long : Cond.arrayClass .long ∈ q_tb := q_in (i := 599) (by decide +kernel) rfl
theorem ko_1 : Cond.instanceMethod objectInit ∈ q_tb := q_in (i := 37) (by decide +kernel) rfl
theorem ko_2 : Cond.code objectInit ⟨#[0xb1]⟩ 1 none ∈ q_tb := q_in (i := 38) (by decide +kernel) rfl
abbrev dfX0 : List Value := [.int 0, .long 0, .long 0, .long 0, .int 0, .long 0, .int 0]
theorem dfX0_ok (d : q_D) : ∀ j, j < 7 → defaultValue (tyX0 j) = vp_V (dfX0.map (q_v d)) j
  | 0, _ => rfl
  | 1, _ => rfl
  | 2, _ => rfl
  | 3, _ => rfl
  | 4, _ => rfl
  | 5, _ => rfl
  | 6, _ => rfl
  | j + 7, h => absurd h (by omega)
abbrev dfX1 : List Value := [.int 0, .int 0, .int 0, .int 0, .long 0, .null]
theorem dfX1_ok (d : q_D) : ∀ j, j < 6 → defaultValue (tyX1 j) = vp_V (dfX1.map (q_v d)) j
  | 0, _ => rfl
  | 1, _ => rfl
  | 2, _ => rfl
  | 3, _ => rfl
  | 4, _ => rfl
  | 5, _ => rfl
  | j + 6, h => absurd h (by omega)
abbrev dfX2 : List Value := [.null, .int 0]
theorem dfX2_ok (d : q_D) : ∀ j, j < 2 → defaultValue (tyX2 j) = vp_V (dfX2.map (q_v d)) j
  | 0, _ => rfl
  | 1, _ => rfl
  | j + 2, h => absurd h (by omega)
abbrev dfX3 : List Value := [.int 0, .int 0, .null, .int 0, .int 0, .int 0, .null, .null, .null, .int 0, .long 0, .long 0, .long 0]
theorem dfX3_ok (d : q_D) : ∀ j, j < 13 → defaultValue (tyX3 j) = vp_V (dfX3.map (q_v d)) j
  | 0, _ => rfl
  | 1, _ => rfl
  | 2, _ => rfl
  | 3, _ => rfl
  | 4, _ => rfl
  | 5, _ => rfl
  | 6, _ => rfl
  | 7, _ => rfl
  | 8, _ => rfl
  | 9, _ => rfl
  | 10, _ => rfl
  | 11, _ => rfl
  | 12, _ => rfl
  | j + 13, h => absurd h (by omega)
abbrev dfX4 : List Value := [.null, .int 0, .int 0]
theorem dfX4_ok (d : q_D) : ∀ j, j < 3 → defaultValue (tyX4 j) = vp_V (dfX4.map (q_v d)) j
  | 0, _ => rfl
  | 1, _ => rfl
  | 2, _ => rfl
  | j + 3, h => absurd h (by omega)
abbrev dfX5 : List Value := [.null, .int 0, .null, .int 0, .null, .null, .null]
theorem dfX5_ok (d : q_D) : ∀ j, j < 7 → defaultValue (tyX5 j) = vp_V (dfX5.map (q_v d)) j
  | 0, _ => rfl
  | 1, _ => rfl
  | 2, _ => rfl
  | 3, _ => rfl
  | 4, _ => rfl
  | 5, _ => rfl
  | 6, _ => rfl
  | j + 7, h => absurd h (by omega)
abbrev dfX6 : List Value := [.int 0, .null, .null, .null, .null, .null, .null, .null, .null, .null, .null, .null, .null, .null, .null, .null, .null, .null, .null, .null, .null, .null, .null, .null, .int 0, .null, .int 0, .null, .int 0, .null, .null]
theorem dfX6_ok (d : q_D) : ∀ j, j < 31 → defaultValue (tyX6 j) = vp_V (dfX6.map (q_v d)) j
  | 0, _ => rfl
  | 1, _ => rfl
  | 2, _ => rfl
  | 3, _ => rfl
  | 4, _ => rfl
  | 5, _ => rfl
  | 6, _ => rfl
  | 7, _ => rfl
  | 8, _ => rfl
  | 9, _ => rfl
  | 10, _ => rfl
  | 11, _ => rfl
  | 12, _ => rfl
  | 13, _ => rfl
  | 14, _ => rfl
  | 15, _ => rfl
  | 16, _ => rfl
  | 17, _ => rfl
  | 18, _ => rfl
  | 19, _ => rfl
  | 20, _ => rfl
  | 21, _ => rfl
  | 22, _ => rfl
  | 23, _ => rfl
  | 24, _ => rfl
  | 25, _ => rfl
  | 26, _ => rfl
  | 27, _ => rfl
  | 28, _ => rfl
  | 29, _ => rfl
  | 30, _ => rfl
  | j + 31, h => absurd h (by omega)
