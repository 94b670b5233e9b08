theorem iqX0 : ∀ w ∈ u_ws RX0 TX0 7, w ∈ q_tb := fun w h => List.mem_filter.mpr ⟨inX0 w h, (by decide +kernel : ∀ w ∈ wsX00, goodWord w = true) w h⟩
theorem iqX1 : ∀ w ∈ u_ws RX1 TX1 6, w ∈ q_tb := fun w h => List.mem_filter.mpr ⟨inX1 w h, (by decide +kernel : ∀ w ∈ wsX10, goodWord w = true) w h⟩
theorem iqX2 : ∀ w ∈ u_ws RX2 TX2 2, w ∈ q_tb := fun w h => List.mem_filter.mpr ⟨inX2 w h, (by decide +kernel : ∀ w ∈ wsX20, goodWord w = true) w h⟩
theorem iqX3 : ∀ w ∈ u_ws RX3 TX3 2, w ∈ q_tb := fun w h => List.mem_filter.mpr ⟨inX3 w h, (by decide +kernel : ∀ w ∈ wsX30, goodWord w = true) w h⟩
theorem iqX4 : ∀ w ∈ u_ws RX4 TX4 13, w ∈ q_tb := fun w h => List.mem_filter.mpr ⟨inX4 w h, (by decide +kernel : ∀ w ∈ wsX40, goodWord w = true) w h⟩
theorem iqX5 : ∀ w ∈ u_ws RX5 TX5 3, w ∈ q_tb := fun w h => List.mem_filter.mpr ⟨inX5 w h, (by decide +kernel : ∀ w ∈ wsX50, goodWord w = true) w h⟩
theorem iqX6 : ∀ w ∈ u_ws RX6 TX6 7, w ∈ q_tb := fun w h => List.mem_filter.mpr ⟨inX6 w h, (by decide +kernel : ∀ w ∈ wsX60, goodWord w = true) w h⟩
theorem iqX7 : ∀ w ∈ u_ws RX7 TX7 31, w ∈ q_tb := fun w h => List.mem_filter.mpr ⟨inX7 w h, (by decide +kernel : ∀ w ∈ wsX70, goodWord w = true) w h⟩
abbrev uX0_init : q_M := (cX0_init, RX0, 1, { frames := 1, cells := 0, slots := 0, locals := 12 }, none, "<init>")
abbrev uX0_keepSums : q_M := (cX0_keepSums, RX0, 7, { frames := 0, cells := 0, slots := 0, locals := 0 }, none, "keepSums")
abbrev uX0_keepOutput : q_M := (cX0_keepOutput, RX0, 5, { frames := 0, cells := 0, slots := 0, locals := 0 }, none, "keepOutput")
abbrev uX0_isWithinBound : q_M := (cX0_isWithinBound, RX0, 9, { frames := 1, cells := 0, slots := 0, locals := 21 }, some .boolean, "isWithinBound")
abbrev uX1_init : q_M := (cX1_init, RX1, 1, { frames := 1, cells := 1, slots := 32, locals := 12 }, none, "<init>")
abbrev uX1_begin : q_M := (cX1_begin, RX1, 4, { frames := 0, cells := 0, slots := 0, locals := 0 }, none, "begin")
abbrev uX1_setFactor : q_M := (cX1_setFactor, RX1, 3, { frames := 1, cells := 0, slots := 0, locals := 20 }, none, "setFactor")
abbrev uX1_factor : q_M := (cX1_factor, RX1, 2, { frames := 0, cells := 0, slots := 0, locals := 0 }, some .int, "factor")
abbrev uX2_init : q_M := (cX2_init, RX2, 1, { frames := 1, cells := 1, slots := 32, locals := 12 }, none, "<init>")
abbrev uX2_push : q_M := (cX2_push, RX2, 2, { frames := 0, cells := 0, slots := 0, locals := 0 }, none, "push")
abbrev uX2_back : q_M := (cX2_back, RX2, 3, { frames := 0, cells := 0, slots := 0, locals := 0 }, some .int, "back")
abbrev uX2_clear : q_M := (cX2_clear, RX2, 2, { frames := 0, cells := 0, slots := 0, locals := 0 }, none, "clear")
abbrev uX3_init : q_M := (cX3_init, RX3, 1, { frames := 1, cells := 1, slots := 16, locals := 12 }, none, "<init>")
abbrev uX3_clear : q_M := (cX3_clear, RX3, 1, { frames := 0, cells := 0, slots := 0, locals := 0 }, none, "clear")
abbrev uX3_add : q_M := (cX3_add, RX3, 2, { frames := 0, cells := 0, slots := 0, locals := 0 }, none, "add")
abbrev uX3_at : q_M := (cX3_at, RX3, 2, { frames := 0, cells := 0, slots := 0, locals := 0 }, some .int, "at")
abbrev uX4_init : q_M := (cX4_init, RX4, 3, { frames := 2, cells := 6, slots := 111, locals := 32 }, none, "<init>")
abbrev uX4_hasTap : q_M := (cX4_hasTap, RX4, 2, { frames := 0, cells := 0, slots := 0, locals := 0 }, some .boolean, "hasTap")
abbrev uX4_tapAt : q_M := (cX4_tapAt, RX4, 2, { frames := 1, cells := 0, slots := 0, locals := 21 }, some .int, "tapAt")
abbrev uX4_setTap : q_M := (cX4_setTap, RX4, 3, { frames := 1, cells := 0, slots := 0, locals := 21 }, none, "setTap")
abbrev uX4_addTap : q_M := (cX4_addTap, RX4, 2, { frames := 0, cells := 0, slots := 0, locals := 0 }, some .boolean, "addTap")
abbrev uX4_filling : q_M := (cX4_filling, RX4, 1, { frames := 0, cells := 0, slots := 0, locals := 0 }, some .int, "filling")
abbrev uX4_symmetry : q_M := (cX4_symmetry, RX4, 6, { frames := 2, cells := 0, slots := 0, locals := 42 }, some .int, "symmetry")
abbrev uX4_isSafe : q_M := (cX4_isSafe, RX4, 13, { frames := 2, cells := 0, slots := 0, locals := 53 }, some .boolean, "isSafe")
abbrev uX4_setPlan : q_M := (cX4_setPlan, RX4, 5, { frames := 2, cells := 0, slots := 0, locals := 53 }, none, "setPlan")
abbrev uX4_dropPlan : q_M := (cX4_dropPlan, RX4, 1, { frames := 0, cells := 0, slots := 0, locals := 0 }, none, "dropPlan")
abbrev uX4_forget : q_M := (cX4_forget, RX4, 1, { frames := 1, cells := 0, slots := 0, locals := 21 }, none, "forget")
abbrev uX4_pass : q_M := (cX4_pass, RX4, 8, { frames := 3, cells := 0, slots := 0, locals := 81 }, none, "pass")
abbrev uX4_comesOut : q_M := (cX4_comesOut, RX4, 1, { frames := 0, cells := 0, slots := 0, locals := 0 }, some .boolean, "comesOut")
abbrev uX4_take : q_M := (cX4_take, RX4, 11, { frames := 2, cells := 0, slots := 0, locals := 51 }, some .int, "take")
abbrev uX4_mixRows : q_M := (cX4_mixRows, RX4, 4, { frames := 2, cells := 0, slots := 0, locals := 42 }, some .long, "mixRows")
abbrev uX4_nearest : q_M := (cX4_nearest, RX4, 9, { frames := 1, cells := 0, slots := 0, locals := 25 }, some .long, "nearest")
abbrev uX4_roundedSum : q_M := (cX4_roundedSum, RX4, 11, { frames := 1, cells := 0, slots := 0, locals := 21 }, some .long, "roundedSum")
abbrev uX4_heldNumber : q_M := (cX4_heldNumber, RX4, 3, { frames := 1, cells := 0, slots := 0, locals := 23 }, some .int, "heldNumber")
abbrev uX4_isOdd : q_M := (cX4_isOdd, RX4, 2, { frames := 0, cells := 0, slots := 0, locals := 0 }, some .boolean, "isOdd")
abbrev uX5_init : q_M := (cX5_init, RX5, 1, { frames := 1, cells := 1, slots := 600, locals := 12 }, none, "<init>")
abbrev uX5_add : q_M := (cX5_add, RX5, 2, { frames := 0, cells := 0, slots := 0, locals := 0 }, none, "add")
abbrev uX5_has : q_M := (cX5_has, RX5, 2, { frames := 0, cells := 0, slots := 0, locals := 0 }, some .boolean, "has")
abbrev uX5_at : q_M := (cX5_at, RX5, 2, { frames := 1, cells := 0, slots := 0, locals := 21 }, some .int, "at")
abbrev uX5_mixSamples : q_M := (cX5_mixSamples, RX5, 4, { frames := 2, cells := 0, slots := 0, locals := 42 }, some .long, "mixSamples")
abbrev uX6_init : q_M := (cX6_init, RX6, 1, { frames := 2, cells := 8, slots := 655, locals := 32 }, none, "<init>")
abbrev uX6_stage : q_M := (cX6_stage, RX6, 3, { frames := 3, cells := 7, slots := 124, locals := 54 }, some .int, "stage")
abbrev uX6_tap : q_M := (cX6_tap, RX6, 4, { frames := 2, cells := 0, slots := 0, locals := 46 }, some .int, "tap")
abbrev uX6_change : q_M := (cX6_change, RX6, 6, { frames := 2, cells := 0, slots := 0, locals := 46 }, some .int, "change")
abbrev uX6_way : q_M := (cX6_way, RX6, 6, { frames := 1, cells := 0, slots := 0, locals := 22 }, some .int, "way")
abbrev uX6_plan : q_M := (cX6_plan, RX6, 6, { frames := 3, cells := 0, slots := 0, locals := 85 }, some .int, "plan")
abbrev uX6_planAt : q_M := (cX6_planAt, RX6, 6, { frames := 3, cells := 0, slots := 0, locals := 85 }, some .int, "planAt")
abbrev uX6_coefficient : q_M := (cX6_coefficient, RX6, 4, { frames := 1, cells := 0, slots := 0, locals := 21 }, some .int, "coefficient")
abbrev uX6_about : q_M := (cX6_about, RX6, 5, { frames := 3, cells := 0, slots := 0, locals := 67 }, some .int, "about")
abbrev uX6_norm : q_M := (cX6_norm, RX6, 3, { frames := 1, cells := 0, slots := 0, locals := 21 }, some .long, "norm")
abbrev uX6_join : q_M := (cX6_join, RX6, 3, { frames := 2, cells := 0, slots := 0, locals := 44 }, some .int, "join")
abbrev uX6_part : q_M := (cX6_part, RX6, 2, { frames := 0, cells := 0, slots := 0, locals := 0 }, some .int, "part")
abbrev uX6_put : q_M := (cX6_put, RX6, 2, { frames := 5, cells := 0, slots := 0, locals := 134 }, some .int, "put")
abbrev uX6_ramp : q_M := (cX6_ramp, RX6, 7, { frames := 5, cells := 0, slots := 0, locals := 134 }, some .int, "ramp")
abbrev uX6_out : q_M := (cX6_out, RX6, 2, { frames := 2, cells := 0, slots := 0, locals := 42 }, some .int, "out")
abbrev uX6_empty : q_M := (cX6_empty, RX6, 2, { frames := 0, cells := 0, slots := 0, locals := 0 }, some .int, "empty")
abbrev uX6_reset : q_M := (cX6_reset, RX6, 3, { frames := 2, cells := 0, slots := 0, locals := 41 }, some .int, "reset")
abbrev uX6_through : q_M := (cX6_through, RX6, 4, { frames := 3, cells := 0, slots := 0, locals := 81 }, some .int, "through")
abbrev uX6_told : q_M := (cX6_told, RX6, 5, { frames := 1, cells := 0, slots := 0, locals := 21 }, some .long, "told")
abbrev uX6_near : q_M := (cX6_near, RX6, 3, { frames := 2, cells := 0, slots := 0, locals := 49 }, some .int, "near")
abbrev uX6_counted : q_M := (cX6_counted, RX6, 5, { frames := 1, cells := 0, slots := 0, locals := 21 }, some .long, "counted")
abbrev uX6_count : q_M := (cX6_count, RX6, 2, { frames := 0, cells := 0, slots := 0, locals := 0 }, some .int, "count")
abbrev uX6_digest : q_M := (cX6_digest, RX6, 5, { frames := 4, cells := 0, slots := 0, locals := 91 }, some .long, "digest")
abbrev uX6_within : q_M := (cX6_within, RX6, 3, { frames := 0, cells := 0, slots := 0, locals := 0 }, some .boolean, "within")
abbrev uX6_isBy : q_M := (cX6_isBy, RX6, 1, { frames := 1, cells := 0, slots := 0, locals := 22 }, some .boolean, "isBy")
abbrev uX6_isSample : q_M := (cX6_isSample, RX6, 1, { frames := 1, cells := 0, slots := 0, locals := 22 }, some .boolean, "isSample")
abbrev uX6_isPlan : q_M := (cX6_isPlan, RX6, 2, { frames := 1, cells := 0, slots := 0, locals := 22 }, some .boolean, "isPlan")
abbrev uX6_find : q_M := (cX6_find, RX6, 2, { frames := 0, cells := 0, slots := 0, locals := 0 }, some (.object "FirChain$Stage"), "find")
abbrev uX6_placeOf : q_M := (cX6_placeOf, RX6, 3, { frames := 0, cells := 0, slots := 0, locals := 0 }, some .int, "placeOf")
abbrev uX6_unplan : q_M := (cX6_unplan, RX6, 5, { frames := 1, cells := 0, slots := 0, locals := 22 }, none, "unplan")
abbrev uX6_filledByChain : q_M := (cX6_filledByChain, RX6, 4, { frames := 1, cells := 0, slots := 0, locals := 21 }, some .int, "filledByChain")
abbrev uX6_send : q_M := (cX6_send, RX6, 7, { frames := 4, cells := 0, slots := 0, locals := 108 }, some .int, "send")
abbrev uX7_init : q_M := (cX7_init, RX7, 1, { frames := 1, cells := 27, slots := 1664, locals := 12 }, none, "<init>")
abbrev uX7_in : q_M := (cX7_in, RX7, 6, { frames := 0, cells := 0, slots := 0, locals := 0 }, some .boolean, "in")
abbrev uX7_isStage : q_M := (cX7_isStage, RX7, 2, { frames := 1, cells := 0, slots := 0, locals := 25 }, some .boolean, "isStage")
abbrev uX7_size : q_M := (cX7_size, RX7, 2, { frames := 0, cells := 0, slots := 0, locals := 0 }, some .long, "size")
abbrev uX7_stage : q_M := (cX7_stage, RX7, 3, { frames := 1, cells := 0, slots := 0, locals := 25 }, some .int, "stage")
abbrev uX7_placeOf : q_M := (cX7_placeOf, RX7, 3, { frames := 0, cells := 0, slots := 0, locals := 0 }, some .int, "placeOf")
abbrev uX7_unplan : q_M := (cX7_unplan, RX7, 4, { frames := 1, cells := 0, slots := 0, locals := 22 }, none, "unplan")
abbrev uX7_isTap : q_M := (cX7_isTap, RX7, 1, { frames := 1, cells := 0, slots := 0, locals := 25 }, some .boolean, "isTap")
abbrev uX7_tap : q_M := (cX7_tap, RX7, 3, { frames := 2, cells := 0, slots := 0, locals := 46 }, some .int, "tap")
abbrev uX7_change : q_M := (cX7_change, RX7, 5, { frames := 2, cells := 0, slots := 0, locals := 46 }, some .int, "change")
abbrev uX7_way : q_M := (cX7_way, RX7, 5, { frames := 2, cells := 0, slots := 0, locals := 46 }, some .int, "way")
abbrev uX7_down : q_M := (cX7_down, RX7, 6, { frames := 0, cells := 0, slots := 0, locals := 0 }, some .long, "down")
abbrev uX7_nearest : q_M := (cX7_nearest, RX7, 8, { frames := 1, cells := 0, slots := 0, locals := 25 }, some .long, "nearest")
abbrev uX7_factorAt : q_M := (cX7_factorAt, RX7, 4, { frames := 2, cells := 0, slots := 0, locals := 52 }, some .long, "factorAt")
abbrev uX7_isSafe : q_M := (cX7_isSafe, RX7, 12, { frames := 3, cells := 0, slots := 0, locals := 75 }, some .boolean, "isSafe")
abbrev uX7_forgets : q_M := (cX7_forgets, RX7, 3, { frames := 0, cells := 0, slots := 0, locals := 0 }, none, "forgets")
abbrev uX7_plans : q_M := (cX7_plans, RX7, 6, { frames := 3, cells := 0, slots := 0, locals := 75 }, some .int, "plans")
abbrev uX7_isPlan : q_M := (cX7_isPlan, RX7, 4, { frames := 2, cells := 0, slots := 0, locals := 46 }, some .boolean, "isPlan")
abbrev uX7_plan : q_M := (cX7_plan, RX7, 5, { frames := 4, cells := 0, slots := 0, locals := 106 }, some .int, "plan")
abbrev uX7_planAt : q_M := (cX7_planAt, RX7, 5, { frames := 4, cells := 0, slots := 0, locals := 106 }, some .int, "planAt")
abbrev uX7_coefficient : q_M := (cX7_coefficient, RX7, 3, { frames := 2, cells := 0, slots := 0, locals := 46 }, some .int, "coefficient")
abbrev uX7_mirrored : q_M := (cX7_mirrored, RX7, 6, { frames := 0, cells := 0, slots := 0, locals := 0 }, some .int, "mirrored")
abbrev uX7_aboutOf : q_M := (cX7_aboutOf, RX7, 3, { frames := 1, cells := 0, slots := 0, locals := 25 }, some .int, "aboutOf")
abbrev uX7_about : q_M := (cX7_about, RX7, 3, { frames := 2, cells := 0, slots := 0, locals := 47 }, some .int, "about")
abbrev uX7_normOf : q_M := (cX7_normOf, RX7, 5, { frames := 1, cells := 0, slots := 0, locals := 21 }, some .long, "normOf")
abbrev uX7_norm : q_M := (cX7_norm, RX7, 2, { frames := 2, cells := 0, slots := 0, locals := 46 }, some .long, "norm")
abbrev uX7_round : q_M := (cX7_round, RX7, 6, { frames := 2, cells := 0, slots := 0, locals := 52 }, some .long, "round")
abbrev uX7_comes : q_M := (cX7_comes, RX7, 12, { frames := 3, cells := 0, slots := 0, locals := 77 }, some .int, "comes")
abbrev uX7_goes : q_M := (cX7_goes, RX7, 9, { frames := 4, cells := 0, slots := 0, locals := 108 }, some .int, "goes")
abbrev uX7_puts : q_M := (cX7_puts, RX7, 5, { frames := 5, cells := 0, slots := 0, locals := 136 }, some .int, "puts")
abbrev uX7_filled : q_M := (cX7_filled, RX7, 2, { frames := 0, cells := 0, slots := 0, locals := 0 }, some .int, "filled")
abbrev uX7_join : q_M := (cX7_join, RX7, 4, { frames := 2, cells := 0, slots := 0, locals := 46 }, some .int, "join")
abbrev uX7_part : q_M := (cX7_part, RX7, 2, { frames := 0, cells := 0, slots := 0, locals := 0 }, some .int, "part")
abbrev uX7_isSample : q_M := (cX7_isSample, RX7, 1, { frames := 1, cells := 0, slots := 0, locals := 25 }, some .boolean, "isSample")
abbrev uX7_put : q_M := (cX7_put, RX7, 2, { frames := 6, cells := 0, slots := 0, locals := 160 }, some .int, "put")
abbrev uX7_ramp : q_M := (cX7_ramp, RX7, 7, { frames := 6, cells := 0, slots := 0, locals := 160 }, some .int, "ramp")
abbrev uX7_out : q_M := (cX7_out, RX7, 2, { frames := 1, cells := 0, slots := 0, locals := 25 }, some .int, "out")
abbrev uX7_empty : q_M := (cX7_empty, RX7, 2, { frames := 0, cells := 0, slots := 0, locals := 0 }, some .int, "empty")
abbrev uX7_reset : q_M := (cX7_reset, RX7, 2, { frames := 1, cells := 0, slots := 0, locals := 22 }, some .int, "reset")
abbrev uX7_through : q_M := (cX7_through, RX7, 3, { frames := 4, cells := 0, slots := 0, locals := 108 }, some .int, "through")
abbrev uX7_hasTold : q_M := (cX7_hasTold, RX7, 2, { frames := 2, cells := 0, slots := 0, locals := 46 }, some .boolean, "hasTold")
abbrev uX7_told : q_M := (cX7_told, RX7, 3, { frames := 3, cells := 0, slots := 0, locals := 67 }, some .long, "told")
abbrev uX7_near : q_M := (cX7_near, RX7, 8, { frames := 3, cells := 0, slots := 0, locals := 67 }, some .int, "near")
abbrev uX7_counted : q_M := (cX7_counted, RX7, 3, { frames := 2, cells := 0, slots := 0, locals := 46 }, some .long, "counted")
abbrev uX7_count : q_M := (cX7_count, RX7, 2, { frames := 0, cells := 0, slots := 0, locals := 0 }, some .int, "count")
abbrev uX7_digest : q_M := (cX7_digest, RX7, 5, { frames := 3, cells := 0, slots := 0, locals := 68 }, some .long, "digest")
abbrev uJ9_floorDiv_f86c9 : q_M := (cJ9_floorDiv_f86c9, RJ9, 6, { frames := 0, cells := 0, slots := 0, locals := 0 }, some .long, "floorDiv")
abbrev uJ9_abs_0f7a4 : q_M := (cJ9_abs_0f7a4, RJ9, 1, { frames := 0, cells := 0, slots := 0, locals := 0 }, some .int, "abs")
abbrev uJ9_abs_067f4 : q_M := (cJ9_abs_067f4, RJ9, 2, { frames := 0, cells := 0, slots := 0, locals := 0 }, some .long, "abs")
abbrev uJ9_max_f86c9 : q_M := (cJ9_max_f86c9, RJ9, 4, { frames := 0, cells := 0, slots := 0, locals := 0 }, some .long, "max")
abbrev uJ9_min_f86c9 : q_M := (cJ9_min_f86c9, RJ9, 4, { frames := 0, cells := 0, slots := 0, locals := 0 }, some .long, "min")
abbrev uL_law : q_M := (cL_law, RL, 4, room_1, some .boolean, "law")
theorem kl_X0_3 : Cond.methodLink RX0 3 objectInit ∈ q_tb := q_in (i := 152) (by decide +kernel) rfl
theorem pl_X0_9 : q_PL RX0 9 0 0 false (.boolean) := ⟨RX0, TX0, 7, tyX0, rfl, by decide, iqX0, q_in (i := 153) (by decide +kernel) rfl, tyX0_ok, nmX0, rfl, rfl, fun h => by first | rfl | cases h⟩
theorem pl_X0_15 : q_PL RX0 15 0 1 false (.long) := ⟨RX0, TX0, 7, tyX0, rfl, by decide, iqX0, q_in (i := 156) (by decide +kernel) rfl, tyX0_ok, nmX0, rfl, rfl, fun h => by first | rfl | cases h⟩
theorem pl_X0_19 : q_PL RX0 19 0 2 false (.long) := ⟨RX0, TX0, 7, tyX0, rfl, by decide, iqX0, q_in (i := 158) (by decide +kernel) rfl, tyX0_ok, nmX0, rfl, rfl, fun h => by first | rfl | cases h⟩
theorem pl_X0_22 : q_PL RX0 22 0 5 false (.long) := ⟨RX0, TX0, 7, tyX0, rfl, by decide, iqX0, q_in (i := 164) (by decide +kernel) rfl, tyX0_ok, nmX0, rfl, rfl, fun h => by first | rfl | cases h⟩
theorem pl_X0_25 : q_PL RX0 25 0 3 false (.long) := ⟨RX0, TX0, 7, tyX0, rfl, by decide, iqX0, q_in (i := 160) (by decide +kernel) rfl, tyX0_ok, nmX0, rfl, rfl, fun h => by first | rfl | cases h⟩
theorem pl_X0_28 : q_PL RX0 28 0 4 false (.int) := ⟨RX0, TX0, 7, tyX0, rfl, by decide, iqX0, q_in (i := 162) (by decide +kernel) rfl, tyX0_ok, nmX0, rfl, rfl, fun h => by first | rfl | cases h⟩
theorem pl_X0_32 : q_PL RX0 32 0 6 false (.int) := ⟨RX0, TX0, 7, tyX0, rfl, by decide, iqX0, q_in (i := 165) (by decide +kernel) rfl, tyX0_ok, nmX0, rfl, rfl, fun h => by first | rfl | cases h⟩
theorem fl_X0_25 : q_FL RX0 25 0 3 := ⟨RX0, TX0, 7, rfl, by decide, iqX0, q_in (i := 160) (by decide +kernel) rfl⟩
theorem fl_X0_19 : q_FL RX0 19 0 2 := ⟨RX0, TX0, 7, rfl, by decide, iqX0, q_in (i := 158) (by decide +kernel) rfl⟩
theorem kl_X0_35 : q_LS RX0 35 yJ9_abs_067f4 uJ9_abs_067f4 1 := ⟨⟨q_in (i := 500) (by decide +kernel) rfl, q_in (i := 314) (by decide +kernel) rfl, q_in (i := 31) (by decide +kernel) rfl, q_in (i := 315) (by decide +kernel) rfl⟩, by decide, by decide, by decide +kernel⟩
theorem fl_X0_32 : q_FL RX0 32 0 6 := ⟨RX0, TX0, 7, rfl, by decide, iqX0, q_in (i := 165) (by decide +kernel) rfl⟩
theorem cn_X0_41 : Cond.constantLong RX0 41 (2) ∈ q_tb := q_in (i := 501) (by decide +kernel) rfl
theorem fl_X0_22 : q_FL RX0 22 0 5 := ⟨RX0, TX0, 7, rfl, by decide, iqX0, q_in (i := 164) (by decide +kernel) rfl⟩
theorem kl_X1_3 : Cond.methodLink RX1 3 objectInit ∈ q_tb := q_in (i := 120) (by decide +kernel) rfl
theorem pl_X1_9 : q_PL RX1 9 1 0 false (.boolean) := ⟨RX1, TX1, 6, tyX1, rfl, by decide, iqX1, q_in (i := 121) (by decide +kernel) rfl, tyX1_ok, nmX1, rfl, rfl, fun h => by first | rfl | cases h⟩
theorem pl_X1_15 : q_PL RX1 15 1 5 true (.array .int) := ⟨RX1, TX1, 6, tyX1, rfl, by decide, iqX1, q_in (i := 133) (by decide +kernel) rfl, tyX1_ok, nmX1, rfl, rfl, fun h => by first | rfl | cases h⟩
theorem pl_X1_19 : q_PL RX1 19 1 1 false (.int) := ⟨RX1, TX1, 6, tyX1, rfl, by decide, iqX1, q_in (i := 124) (by decide +kernel) rfl, tyX1_ok, nmX1, rfl, rfl, fun h => by first | rfl | cases h⟩
theorem pl_X1_23 : q_PL RX1 23 1 2 false (.int) := ⟨RX1, TX1, 6, tyX1, rfl, by decide, iqX1, q_in (i := 126) (by decide +kernel) rfl, tyX1_ok, nmX1, rfl, rfl, fun h => by first | rfl | cases h⟩
theorem pl_X1_26 : q_PL RX1 26 1 3 false (.int) := ⟨RX1, TX1, 6, tyX1, rfl, by decide, iqX1, q_in (i := 128) (by decide +kernel) rfl, tyX1_ok, nmX1, rfl, rfl, fun h => by first | rfl | cases h⟩
theorem pl_X1_29 : q_PL RX1 29 1 4 false (.long) := ⟨RX1, TX1, 6, tyX1, rfl, by decide, iqX1, q_in (i := 131) (by decide +kernel) rfl, tyX1_ok, nmX1, rfl, rfl, fun h => by first | rfl | cases h⟩
theorem fl_X1_15 : q_FL RX1 15 1 5 := ⟨RX1, TX1, 6, rfl, by decide, iqX1, q_in (i := 133) (by decide +kernel) rfl⟩
theorem fl_X1_29 : q_FL RX1 29 1 4 := ⟨RX1, TX1, 6, rfl, by decide, iqX1, q_in (i := 131) (by decide +kernel) rfl⟩
theorem kl_X1_33 : q_LS RX1 33 yJ9_abs_0f7a4 uJ9_abs_0f7a4 1 := ⟨⟨q_in (i := 329) (by decide +kernel) rfl, q_in (i := 330) (by decide +kernel) rfl, q_in (i := 31) (by decide +kernel) rfl, q_in (i := 331) (by decide +kernel) rfl⟩, by decide, by decide, by decide +kernel⟩
theorem kl_X2_3 : Cond.methodLink RX2 3 objectInit ∈ q_tb := q_in (i := 186) (by decide +kernel) rfl
theorem pl_X2_9 : q_PL RX2 9 2 0 true (.array .short) := ⟨RX2, TX2, 2, tyX2, rfl, by decide, iqX2, q_in (i := 187) (by decide +kernel) rfl, tyX2_ok, nmX2, rfl, rfl, fun h => by first | rfl | cases h⟩
theorem pl_X2_15 : q_PL RX2 15 2 1 false (.int) := ⟨RX2, TX2, 2, tyX2, rfl, by decide, iqX2, q_in (i := 188) (by decide +kernel) rfl, tyX2_ok, nmX2, rfl, rfl, fun h => by first | rfl | cases h⟩
theorem fl_X2_15 : q_FL RX2 15 2 1 := ⟨RX2, TX2, 2, rfl, by decide, iqX2, q_in (i := 188) (by decide +kernel) rfl⟩
theorem fl_X2_9 : q_FL RX2 9 2 0 := ⟨RX2, TX2, 2, rfl, by decide, iqX2, q_in (i := 187) (by decide +kernel) rfl⟩
theorem kl_X3_3 : Cond.methodLink RX3 3 objectInit ∈ q_tb := q_in (i := 67) (by decide +kernel) rfl
theorem pl_X3_9 : q_PL RX3 9 3 0 true (.array .int) := ⟨RX3, TX3, 2, tyX3, rfl, by decide, iqX3, q_in (i := 68) (by decide +kernel) rfl, tyX3_ok, nmX3, rfl, rfl, fun h => by first | rfl | cases h⟩
theorem pl_X3_15 : q_PL RX3 15 3 1 false (.int) := ⟨RX3, TX3, 2, tyX3, rfl, by decide, iqX3, q_in (i := 69) (by decide +kernel) rfl, tyX3_ok, nmX3, rfl, rfl, fun h => by first | rfl | cases h⟩
theorem fl_X3_15 : q_FL RX3 15 3 1 := ⟨RX3, TX3, 2, rfl, by decide, iqX3, q_in (i := 69) (by decide +kernel) rfl⟩
theorem fl_X3_9 : q_FL RX3 9 3 0 := ⟨RX3, TX3, 2, rfl, by decide, iqX3, q_in (i := 68) (by decide +kernel) rfl⟩
theorem kl_X4_3 : Cond.methodLink RX4 3 objectInit ∈ q_tb := q_in (i := 114) (by decide +kernel) rfl
theorem pl_X4_9 : q_PL RX4 9 4 0 true (.int) := ⟨RX4, TX4, 13, tyX4, rfl, by decide, iqX4, q_in (i := 194) (by decide +kernel) rfl, tyX4_ok, nmX4, rfl, rfl, fun h => by first | rfl | cases h⟩
theorem pl_X4_15 : q_PL RX4 15 4 1 true (.int) := ⟨RX4, TX4, 13, tyX4, rfl, by decide, iqX4, q_in (i := 196) (by decide +kernel) rfl, tyX4_ok, nmX4, rfl, rfl, fun h => by first | rfl | cases h⟩
theorem pl_X4_18 : q_PL RX4 18 4 2 true (.array .int) := ⟨RX4, TX4, 13, tyX4, rfl, by decide, iqX4, q_in (i := 198) (by decide +kernel) rfl, tyX4_ok, nmX4, rfl, rfl, fun h => by first | rfl | cases h⟩
theorem pl_X4_22 : q_PL RX4 22 4 3 false (.int) := ⟨RX4, TX4, 13, tyX4, rfl, by decide, iqX4, q_in (i := 199) (by decide +kernel) rfl, tyX4_ok, nmX4, rfl, rfl, fun h => by first | rfl | cases h⟩
theorem pl_X4_25 : q_PL RX4 25 4 4 false (.int) := ⟨RX4, TX4, 13, tyX4, rfl, by decide, iqX4, q_in (i := 201) (by decide +kernel) rfl, tyX4_ok, nmX4, rfl, rfl, fun h => by first | rfl | cases h⟩
theorem pl_X4_28 : q_PL RX4 28 4 5 false (.boolean) := ⟨RX4, TX4, 13, tyX4, rfl, by decide, iqX4, q_in (i := 203) (by decide +kernel) rfl, tyX4_ok, nmX4, rfl, rfl, fun h => by first | rfl | cases h⟩
theorem nl_X4_32 : Cond.classLink RX4 32 RX1 ∈ q_tb := q_in (i := 115) (by decide +kernel) rfl
theorem kl_X4_34 : q_LI RX4 34 yX1_init uX1_init 0 := ⟨⟨q_in (i := 117) (by decide +kernel) rfl, q_in (i := 118) (by decide +kernel) rfl, q_in (i := 28) (by decide +kernel) rfl, q_in (i := 119) (by decide +kernel) rfl⟩, by decide, by decide, by decide +kernel, rfl, rfl⟩
theorem pl_X4_35 : q_PL RX4 35 4 6 true (.object "FirChain$Plan") := ⟨RX4, TX4, 13, tyX4, rfl, by decide, iqX4, q_in (i := 205) (by decide +kernel) rfl, tyX4_ok, nmX4, rfl, rfl, fun h => by first | rfl | cases h⟩
theorem nl_X4_39 : Cond.classLink RX4 39 RX0 ∈ q_tb := q_in (i := 147) (by decide +kernel) rfl
theorem kl_X4_41 : q_LI RX4 41 yX0_init uX0_init 0 := ⟨⟨q_in (i := 149) (by decide +kernel) rfl, q_in (i := 150) (by decide +kernel) rfl, q_in (i := 29) (by decide +kernel) rfl, q_in (i := 151) (by decide +kernel) rfl⟩, by decide, by decide, by decide +kernel, rfl, rfl⟩
theorem pl_X4_42 : q_PL RX4 42 4 7 true (.object "FirChain$Latest") := ⟨RX4, TX4, 13, tyX4, rfl, by decide, iqX4, q_in (i := 207) (by decide +kernel) rfl, tyX4_ok, nmX4, rfl, rfl, fun h => by first | rfl | cases h⟩
theorem nl_X4_46 : Cond.classLink RX4 46 RX2 ∈ q_tb := q_in (i := 181) (by decide +kernel) rfl
theorem kl_X4_48 : q_LI RX4 48 yX2_init uX2_init 0 := ⟨⟨q_in (i := 183) (by decide +kernel) rfl, q_in (i := 184) (by decide +kernel) rfl, q_in (i := 30) (by decide +kernel) rfl, q_in (i := 185) (by decide +kernel) rfl⟩, by decide, by decide, by decide +kernel, rfl, rfl⟩
theorem pl_X4_49 : q_PL RX4 49 4 8 true (.object "FirChain$Ring") := ⟨RX4, TX4, 13, tyX4, rfl, by decide, iqX4, q_in (i := 209) (by decide +kernel) rfl, tyX4_ok, nmX4, rfl, rfl, fun h => by first | rfl | cases h⟩
theorem fl_X4_22 : q_FL RX4 22 4 3 := ⟨RX4, TX4, 13, rfl, by decide, iqX4, q_in (i := 199) (by decide +kernel) rfl⟩
theorem fl_X4_18 : q_FL RX4 18 4 2 := ⟨RX4, TX4, 13, rfl, by decide, iqX4, q_in (i := 198) (by decide +kernel) rfl⟩
theorem kl_X4_53 : q_LV RX4 53 yX4_hasTap uX4_hasTap 1 := ⟨⟨q_in (i := 282) (by decide +kernel) rfl, q_in (i := 274) (by decide +kernel) rfl, q_in (i := 275) (by decide +kernel) rfl, q_in (i := 27) (by decide +kernel) rfl, q_in (i := 276) (by decide +kernel) rfl⟩, by decide, by decide, by decide +kernel⟩
theorem fl_X4_15 : q_FL RX4 15 4 1 := ⟨RX4, TX4, 13, rfl, by decide, iqX4, q_in (i := 196) (by decide +kernel) rfl⟩
theorem kl_X4_57 : q_LV RX4 57 yX4_tapAt uX4_tapAt 1 := ⟨⟨q_in (i := 302) (by decide +kernel) rfl, q_in (i := 279) (by decide +kernel) rfl, q_in (i := 280) (by decide +kernel) rfl, q_in (i := 27) (by decide +kernel) rfl, q_in (i := 281) (by decide +kernel) rfl⟩, by decide, by decide, by decide +kernel⟩
theorem fl_X4_9 : q_FL RX4 9 4 0 := ⟨RX4, TX4, 13, rfl, by decide, iqX4, q_in (i := 194) (by decide +kernel) rfl⟩
theorem kl_X4_61 : q_LS RX4 61 yX4_nearest uX4_nearest 3 := ⟨⟨q_in (i := 303) (by decide +kernel) rfl, q_in (i := 304) (by decide +kernel) rfl, q_in (i := 27) (by decide +kernel) rfl, q_in (i := 305) (by decide +kernel) rfl⟩, by decide, by decide, by decide +kernel⟩
theorem kl_X4_65 : q_LS RX4 65 yJ9_abs_067f4 uJ9_abs_067f4 1 := ⟨⟨q_in (i := 313) (by decide +kernel) rfl, q_in (i := 314) (by decide +kernel) rfl, q_in (i := 31) (by decide +kernel) rfl, q_in (i := 315) (by decide +kernel) rfl⟩, by decide, by decide, by decide +kernel⟩
theorem cn_X4_71 : Cond.constantLong RX4 71 (32768) ∈ q_tb := q_in (i := 316) (by decide +kernel) rfl
theorem fl_X4_35 : q_FL RX4 35 4 6 := ⟨RX4, TX4, 13, rfl, by decide, iqX4, q_in (i := 205) (by decide +kernel) rfl⟩
theorem kl_X4_73 : q_LV RX4 73 yX1_begin uX1_begin 3 := ⟨⟨q_in (i := 321) (by decide +kernel) rfl, q_in (i := 322) (by decide +kernel) rfl, q_in (i := 323) (by decide +kernel) rfl, q_in (i := 28) (by decide +kernel) rfl, q_in (i := 324) (by decide +kernel) rfl⟩, by decide, by decide, by decide +kernel⟩
theorem kl_X4_77 : q_LV RX4 77 yX1_setFactor uX1_setFactor 2 := ⟨⟨q_in (i := 325) (by decide +kernel) rfl, q_in (i := 326) (by decide +kernel) rfl, q_in (i := 327) (by decide +kernel) rfl, q_in (i := 28) (by decide +kernel) rfl, q_in (i := 328) (by decide +kernel) rfl⟩, by decide, by decide, by decide +kernel⟩
theorem fl_X4_42 : q_FL RX4 42 4 7 := ⟨RX4, TX4, 13, rfl, by decide, iqX4, q_in (i := 207) (by decide +kernel) rfl⟩
theorem pl_X4_81 : q_PL RX4 81 0 0 false (.boolean) := ⟨RX0, TX0, 7, tyX0, rfl, by decide, iqX0, q_in (i := 154) (by decide +kernel) rfl, tyX0_ok, nmX0, rfl, rfl, fun h => by first | rfl | cases h⟩
theorem kl_X4_84 : q_LV RX4 84 yX4_forget uX4_forget 0 := ⟨⟨q_in (i := 332) (by decide +kernel) rfl, q_in (i := 333) (by decide +kernel) rfl, q_in (i := 334) (by decide +kernel) rfl, q_in (i := 27) (by decide +kernel) rfl, q_in (i := 335) (by decide +kernel) rfl⟩, by decide, by decide, by decide +kernel⟩
theorem pl_X4_87 : q_PL RX4 87 1 0 false (.boolean) := ⟨RX1, TX1, 6, tyX1, rfl, by decide, iqX1, q_in (i := 123) (by decide +kernel) rfl, tyX1_ok, nmX1, rfl, rfl, fun h => by first | rfl | cases h⟩
theorem fl_X4_49 : q_FL RX4 49 4 8 := ⟨RX4, TX4, 13, rfl, by decide, iqX4, q_in (i := 209) (by decide +kernel) rfl⟩
theorem kl_X4_88 : q_LV RX4 88 yX2_clear uX2_clear 0 := ⟨⟨q_in (i := 336) (by decide +kernel) rfl, q_in (i := 337) (by decide +kernel) rfl, q_in (i := 338) (by decide +kernel) rfl, q_in (i := 30) (by decide +kernel) rfl, q_in (i := 339) (by decide +kernel) rfl⟩, by decide, by decide, by decide +kernel⟩
theorem pl_X4_91 : q_PL RX4 91 4 9 false (.int) := ⟨RX4, TX4, 13, tyX4, rfl, by decide, iqX4, q_in (i := 210) (by decide +kernel) rfl, tyX4_ok, nmX4, rfl, rfl, fun h => by first | rfl | cases h⟩
theorem pl_X4_94 : q_PL RX4 94 4 10 false (.long) := ⟨RX4, TX4, 13, tyX4, rfl, by decide, iqX4, q_in (i := 211) (by decide +kernel) rfl, tyX4_ok, nmX4, rfl, rfl, fun h => by first | rfl | cases h⟩
theorem pl_X4_98 : q_PL RX4 98 4 11 false (.long) := ⟨RX4, TX4, 13, tyX4, rfl, by decide, iqX4, q_in (i := 213) (by decide +kernel) rfl, tyX4_ok, nmX4, rfl, rfl, fun h => by first | rfl | cases h⟩
theorem pl_X4_101 : q_PL RX4 101 4 12 false (.long) := ⟨RX4, TX4, 13, tyX4, rfl, by decide, iqX4, q_in (i := 215) (by decide +kernel) rfl, tyX4_ok, nmX4, rfl, rfl, fun h => by first | rfl | cases h⟩
theorem kl_X4_104 : q_LV RX4 104 yX3_clear uX3_clear 0 := ⟨⟨q_in (i := 404) (by decide +kernel) rfl, q_in (i := 393) (by decide +kernel) rfl, q_in (i := 394) (by decide +kernel) rfl, q_in (i := 25) (by decide +kernel) rfl, q_in (i := 395) (by decide +kernel) rfl⟩, by decide, by decide, by decide +kernel⟩
theorem kl_X4_107 : q_LV RX4 107 yX4_filling uX4_filling 0 := ⟨⟨q_in (i := 405) (by decide +kernel) rfl, q_in (i := 374) (by decide +kernel) rfl, q_in (i := 375) (by decide +kernel) rfl, q_in (i := 27) (by decide +kernel) rfl, q_in (i := 376) (by decide +kernel) rfl⟩, by decide, by decide, by decide +kernel⟩
theorem fl_X4_111 : q_FL RX4 111 3 1 := ⟨RX3, TX3, 2, rfl, by decide, iqX3, q_in (i := 70) (by decide +kernel) rfl⟩
theorem kl_X4_114 : q_LV RX4 114 yX3_at uX3_at 1 := ⟨⟨q_in (i := 406) (by decide +kernel) rfl, q_in (i := 407) (by decide +kernel) rfl, q_in (i := 408) (by decide +kernel) rfl, q_in (i := 25) (by decide +kernel) rfl, q_in (i := 409) (by decide +kernel) rfl⟩, by decide, by decide, by decide +kernel⟩
theorem kl_X4_117 : q_LV RX4 117 yX4_take uX4_take 1 := ⟨⟨q_in (i := 410) (by decide +kernel) rfl, q_in (i := 411) (by decide +kernel) rfl, q_in (i := 412) (by decide +kernel) rfl, q_in (i := 27) (by decide +kernel) rfl, q_in (i := 413) (by decide +kernel) rfl⟩, by decide, by decide, by decide +kernel⟩
theorem kl_X4_120 : q_LV RX4 120 yX4_comesOut uX4_comesOut 0 := ⟨⟨q_in (i := 445) (by decide +kernel) rfl, q_in (i := 447) (by decide +kernel) rfl, q_in (i := 5) (by decide +kernel) rfl, q_in (i := 27) (by decide +kernel) rfl, q_in (i := 448) (by decide +kernel) rfl⟩, by decide, by decide, by decide +kernel⟩
theorem kl_X4_124 : q_LV RX4 124 yX3_add uX3_add 1 := ⟨⟨q_in (i := 449) (by decide +kernel) rfl, q_in (i := 397) (by decide +kernel) rfl, q_in (i := 398) (by decide +kernel) rfl, q_in (i := 25) (by decide +kernel) rfl, q_in (i := 399) (by decide +kernel) rfl⟩, by decide, by decide, by decide +kernel⟩
theorem fl_X4_91 : q_FL RX4 91 4 9 := ⟨RX4, TX4, 13, rfl, by decide, iqX4, q_in (i := 210) (by decide +kernel) rfl⟩
theorem kl_X4_128 : q_LV RX4 128 yX2_push uX2_push 1 := ⟨⟨q_in (i := 414) (by decide +kernel) rfl, q_in (i := 415) (by decide +kernel) rfl, q_in (i := 416) (by decide +kernel) rfl, q_in (i := 30) (by decide +kernel) rfl, q_in (i := 417) (by decide +kernel) rfl⟩, by decide, by decide, by decide +kernel⟩
theorem kl_X4_131 : q_LV RX4 131 yX2_back uX2_back 1 := ⟨⟨q_in (i := 418) (by decide +kernel) rfl, q_in (i := 419) (by decide +kernel) rfl, q_in (i := 420) (by decide +kernel) rfl, q_in (i := 30) (by decide +kernel) rfl, q_in (i := 421) (by decide +kernel) rfl⟩, by decide, by decide, by decide +kernel⟩
theorem kl_X4_134 : q_LV RX4 134 yX1_factor uX1_factor 1 := ⟨⟨q_in (i := 422) (by decide +kernel) rfl, q_in (i := 349) (by decide +kernel) rfl, q_in (i := 350) (by decide +kernel) rfl, q_in (i := 28) (by decide +kernel) rfl, q_in (i := 351) (by decide +kernel) rfl⟩, by decide, by decide, by decide +kernel⟩
theorem fl_X4_137 : q_FL RX4 137 1 3 := ⟨RX1, TX1, 6, rfl, by decide, iqX1, q_in (i := 130) (by decide +kernel) rfl⟩
theorem fl_X4_25 : q_FL RX4 25 4 4 := ⟨RX4, TX4, 13, rfl, by decide, iqX4, q_in (i := 201) (by decide +kernel) rfl⟩
theorem kl_X4_140 : q_LS RX4 140 yX4_roundedSum uX4_roundedSum 3 := ⟨⟨q_in (i := 423) (by decide +kernel) rfl, q_in (i := 424) (by decide +kernel) rfl, q_in (i := 27) (by decide +kernel) rfl, q_in (i := 425) (by decide +kernel) rfl⟩, by decide, by decide, by decide +kernel⟩
theorem fl_X4_28 : q_FL RX4 28 4 5 := ⟨RX4, TX4, 13, rfl, by decide, iqX4, q_in (i := 203) (by decide +kernel) rfl⟩
theorem kl_X4_144 : q_LS RX4 144 yX4_heldNumber uX4_heldNumber 2 := ⟨⟨q_in (i := 426) (by decide +kernel) rfl, q_in (i := 427) (by decide +kernel) rfl, q_in (i := 27) (by decide +kernel) rfl, q_in (i := 428) (by decide +kernel) rfl⟩, by decide, by decide, by decide +kernel⟩
theorem kl_X4_148 : q_LV RX4 148 yX0_keepSums uX0_keepSums 3 := ⟨⟨q_in (i := 437) (by decide +kernel) rfl, q_in (i := 438) (by decide +kernel) rfl, q_in (i := 439) (by decide +kernel) rfl, q_in (i := 29) (by decide +kernel) rfl, q_in (i := 440) (by decide +kernel) rfl⟩, by decide, by decide, by decide +kernel⟩
theorem kl_X4_152 : q_LV RX4 152 yX0_keepOutput uX0_keepOutput 3 := ⟨⟨q_in (i := 441) (by decide +kernel) rfl, q_in (i := 442) (by decide +kernel) rfl, q_in (i := 443) (by decide +kernel) rfl, q_in (i := 29) (by decide +kernel) rfl, q_in (i := 444) (by decide +kernel) rfl⟩, by decide, by decide, by decide +kernel⟩
theorem fl_X4_94 : q_FL RX4 94 4 10 := ⟨RX4, TX4, 13, rfl, by decide, iqX4, q_in (i := 211) (by decide +kernel) rfl⟩
theorem fl_X4_98 : q_FL RX4 98 4 11 := ⟨RX4, TX4, 13, rfl, by decide, iqX4, q_in (i := 213) (by decide +kernel) rfl⟩
theorem fl_X4_101 : q_FL RX4 101 4 12 := ⟨RX4, TX4, 13, rfl, by decide, iqX4, q_in (i := 215) (by decide +kernel) rfl⟩
theorem kl_X4_156 : q_LS RX4 156 yJ9_max_f86c9 uJ9_max_f86c9 2 := ⟨⟨q_in (i := 434) (by decide +kernel) rfl, q_in (i := 435) (by decide +kernel) rfl, q_in (i := 31) (by decide +kernel) rfl, q_in (i := 436) (by decide +kernel) rfl⟩, by decide, by decide, by decide +kernel⟩
theorem cn_X4_160 : Cond.constantLong RX4 160 (31) ∈ q_tb := q_in (i := 521) (by decide +kernel) rfl
theorem fl_X4_87 : q_FL RX4 87 1 0 := ⟨RX1, TX1, 6, rfl, by decide, iqX1, q_in (i := 123) (by decide +kernel) rfl⟩
theorem kl_X4_162 : q_LS RX4 162 yJ9_floorDiv_f86c9 uJ9_floorDiv_f86c9 2 := ⟨⟨q_in (i := 306) (by decide +kernel) rfl, q_in (i := 307) (by decide +kernel) rfl, q_in (i := 31) (by decide +kernel) rfl, q_in (i := 308) (by decide +kernel) rfl⟩, by decide, by decide, by decide +kernel⟩
theorem cn_X4_165 : Cond.constantLong RX4 165 (2) ∈ q_tb := q_in (i := 309) (by decide +kernel) rfl
theorem kl_X4_167 : q_LS RX4 167 yX4_isOdd uX4_isOdd 1 := ⟨⟨q_in (i := 310) (by decide +kernel) rfl, q_in (i := 311) (by decide +kernel) rfl, q_in (i := 27) (by decide +kernel) rfl, q_in (i := 312) (by decide +kernel) rfl⟩, by decide, by decide, by decide +kernel⟩
theorem cn_X4_171 : Cond.constantLong RX4 171 (-32768) ∈ q_tb := q_in (i := 429) (by decide +kernel) rfl
theorem cn_X4_173 : Cond.constantLong RX4 173 (32767) ∈ q_tb := q_in (i := 430) (by decide +kernel) rfl
theorem kl_X4_175 : q_LS RX4 175 yJ9_min_f86c9 uJ9_min_f86c9 2 := ⟨⟨q_in (i := 431) (by decide +kernel) rfl, q_in (i := 432) (by decide +kernel) rfl, q_in (i := 31) (by decide +kernel) rfl, q_in (i := 433) (by decide +kernel) rfl⟩, by decide, by decide, by decide +kernel⟩
theorem kl_X5_3 : Cond.methodLink RX5 3 objectInit ∈ q_tb := q_in (i := 47) (by decide +kernel) rfl
theorem pl_X5_9 : q_PL RX5 9 5 0 true (.array .short) := ⟨RX5, TX5, 3, tyX5, rfl, by decide, iqX5, q_in (i := 48) (by decide +kernel) rfl, tyX5_ok, nmX5, rfl, rfl, fun h => by first | rfl | cases h⟩
theorem pl_X5_15 : q_PL RX5 15 5 1 false (.int) := ⟨RX5, TX5, 3, tyX5, rfl, by decide, iqX5, q_in (i := 49) (by decide +kernel) rfl, tyX5_ok, nmX5, rfl, rfl, fun h => by first | rfl | cases h⟩
theorem pl_X5_19 : q_PL RX5 19 5 2 false (.int) := ⟨RX5, TX5, 3, tyX5, rfl, by decide, iqX5, q_in (i := 51) (by decide +kernel) rfl, tyX5_ok, nmX5, rfl, rfl, fun h => by first | rfl | cases h⟩
theorem fl_X5_15 : q_FL RX5 15 5 1 := ⟨RX5, TX5, 3, rfl, by decide, iqX5, q_in (i := 49) (by decide +kernel) rfl⟩
theorem fl_X5_9 : q_FL RX5 9 5 0 := ⟨RX5, TX5, 3, rfl, by decide, iqX5, q_in (i := 48) (by decide +kernel) rfl⟩
theorem fl_X5_19 : q_FL RX5 19 5 2 := ⟨RX5, TX5, 3, rfl, by decide, iqX5, q_in (i := 51) (by decide +kernel) rfl⟩
theorem kl_X5_22 : q_LV RX5 22 yX5_has uX5_has 1 := ⟨⟨q_in (i := 471) (by decide +kernel) rfl, q_in (i := 464) (by decide +kernel) rfl, q_in (i := 465) (by decide +kernel) rfl, q_in (i := 24) (by decide +kernel) rfl, q_in (i := 466) (by decide +kernel) rfl⟩, by decide, by decide, by decide +kernel⟩
theorem cn_X5_26 : Cond.constantLong RX5 26 (31) ∈ q_tb := q_in (i := 527) (by decide +kernel) rfl
theorem kl_X5_28 : q_LV RX5 28 yX5_at uX5_at 1 := ⟨⟨q_in (i := 528) (by decide +kernel) rfl, q_in (i := 468) (by decide +kernel) rfl, q_in (i := 469) (by decide +kernel) rfl, q_in (i := 24) (by decide +kernel) rfl, q_in (i := 470) (by decide +kernel) rfl⟩, by decide, by decide, by decide +kernel⟩
theorem kl_X6_1 : Cond.methodLink RX6 1 objectInit ∈ q_tb := q_in (i := 37) (by decide +kernel) rfl
theorem nl_X6_9 : Cond.classLink RX6 9 RX4 ∈ q_tb := q_in (i := 40) (by decide +kernel) rfl
theorem pl_X6_11 : q_PL RX6 11 6 0 true (.array (.object "FirChain$Stage")) := ⟨RX6, TX6, 7, tyX6, rfl, by decide, iqX6, q_in (i := 77) (by decide +kernel) rfl, tyX6_ok, nmX6, rfl, rfl, fun h => by first | rfl | cases h⟩
theorem pl_X6_15 : q_PL RX6 15 6 1 false (.int) := ⟨RX6, TX6, 7, tyX6, rfl, by decide, iqX6, q_in (i := 78) (by decide +kernel) rfl, tyX6_ok, nmX6, rfl, rfl, fun h => by first | rfl | cases h⟩
theorem pl_X6_19 : q_PL RX6 19 6 2 true (.array .int) := ⟨RX6, TX6, 7, tyX6, rfl, by decide, iqX6, q_in (i := 79) (by decide +kernel) rfl, tyX6_ok, nmX6, rfl, rfl, fun h => by first | rfl | cases h⟩
theorem pl_X6_23 : q_PL RX6 23 6 3 false (.int) := ⟨RX6, TX6, 7, tyX6, rfl, by decide, iqX6, q_in (i := 80) (by decide +kernel) rfl, tyX6_ok, nmX6, rfl, rfl, fun h => by first | rfl | cases h⟩
theorem nl_X6_26 : Cond.classLink RX6 26 RX5 ∈ q_tb := q_in (i := 42) (by decide +kernel) rfl
theorem kl_X6_28 : q_LI RX6 28 yX5_init uX5_init 0 := ⟨⟨q_in (i := 44) (by decide +kernel) rfl, q_in (i := 45) (by decide +kernel) rfl, q_in (i := 24) (by decide +kernel) rfl, q_in (i := 46) (by decide +kernel) rfl⟩, by decide, by decide, by decide +kernel, rfl, rfl⟩
theorem pl_X6_29 : q_PL RX6 29 6 4 true (.object "FirChain$Tape") := ⟨RX6, TX6, 7, tyX6, rfl, by decide, iqX6, q_in (i := 81) (by decide +kernel) rfl, tyX6_ok, nmX6, rfl, rfl, fun h => by first | rfl | cases h⟩
theorem nl_X6_33 : Cond.classLink RX6 33 RX3 ∈ q_tb := q_in (i := 62) (by decide +kernel) rfl
theorem kl_X6_35 : q_LI RX6 35 yX3_init uX3_init 0 := ⟨⟨q_in (i := 64) (by decide +kernel) rfl, q_in (i := 65) (by decide +kernel) rfl, q_in (i := 25) (by decide +kernel) rfl, q_in (i := 66) (by decide +kernel) rfl⟩, by decide, by decide, by decide +kernel, rfl, rfl⟩
theorem pl_X6_36 : q_PL RX6 36 6 5 true (.object "FirChain$Row") := ⟨RX6, TX6, 7, tyX6, rfl, by decide, iqX6, q_in (i := 82) (by decide +kernel) rfl, tyX6_ok, nmX6, rfl, rfl, fun h => by first | rfl | cases h⟩
theorem pl_X6_40 : q_PL RX6 40 6 6 true (.object "FirChain$Row") := ⟨RX6, TX6, 7, tyX6, rfl, by decide, iqX6, q_in (i := 83) (by decide +kernel) rfl, tyX6_ok, nmX6, rfl, rfl, fun h => by first | rfl | cases h⟩
theorem cn_X6_43 : Cond.constant RX6 43 (1000000) ∈ q_tb := q_in (i := 103) (by decide +kernel) rfl
theorem kl_X6_44 : q_LS RX6 44 yX6_within uX6_within 3 := ⟨⟨q_in (i := 104) (by decide +kernel) rfl, q_in (i := 105) (by decide +kernel) rfl, q_in (i := 23) (by decide +kernel) rfl, q_in (i := 106) (by decide +kernel) rfl⟩, by decide, by decide, by decide +kernel⟩
theorem kl_X6_48 : q_LS RX6 48 yX6_isBy uX6_isBy 1 := ⟨⟨q_in (i := 107) (by decide +kernel) rfl, q_in (i := 108) (by decide +kernel) rfl, q_in (i := 23) (by decide +kernel) rfl, q_in (i := 109) (by decide +kernel) rfl⟩, by decide, by decide, by decide +kernel⟩
theorem fl_X6_15 : q_FL RX6 15 6 1 := ⟨RX6, TX6, 7, rfl, by decide, iqX6, q_in (i := 78) (by decide +kernel) rfl⟩
theorem fl_X6_11 : q_FL RX6 11 6 0 := ⟨RX6, TX6, 7, rfl, by decide, iqX6, q_in (i := 77) (by decide +kernel) rfl⟩
theorem kl_X6_52 : q_LI RX6 52 yX4_init uX4_init 2 := ⟨⟨q_in (i := 111) (by decide +kernel) rfl, q_in (i := 112) (by decide +kernel) rfl, q_in (i := 27) (by decide +kernel) rfl, q_in (i := 113) (by decide +kernel) rfl⟩, by decide, by decide, by decide +kernel, rfl, rfl⟩
theorem kl_X6_55 : q_LV RX6 55 yX6_find uX6_find 1 := ⟨⟨q_in (i := 248) (by decide +kernel) rfl, q_in (i := 250) (by decide +kernel) rfl, q_in (i := 0) (by decide +kernel) rfl, q_in (i := 23) (by decide +kernel) rfl, q_in (i := 251) (by decide +kernel) rfl⟩, by decide, by decide, by decide +kernel⟩
theorem cn_X6_59 : Cond.constant RX6 59 (-1000000) ∈ q_tb := q_in (i := 252) (by decide +kernel) rfl
theorem kl_X6_60 : q_LV RX6 60 yX4_addTap uX4_addTap 1 := ⟨⟨q_in (i := 253) (by decide +kernel) rfl, q_in (i := 254) (by decide +kernel) rfl, q_in (i := 255) (by decide +kernel) rfl, q_in (i := 27) (by decide +kernel) rfl, q_in (i := 256) (by decide +kernel) rfl⟩, by decide, by decide, by decide +kernel⟩
theorem kl_X6_63 : q_LV RX6 63 yX6_unplan uX6_unplan 2 := ⟨⟨q_in (i := 257) (by decide +kernel) rfl, q_in (i := 259) (by decide +kernel) rfl, q_in (i := 1) (by decide +kernel) rfl, q_in (i := 23) (by decide +kernel) rfl, q_in (i := 260) (by decide +kernel) rfl⟩, by decide, by decide, by decide +kernel⟩
theorem fl_X6_67 : q_FL RX6 67 4 3 := ⟨RX4, TX4, 13, rfl, by decide, iqX4, q_in (i := 200) (by decide +kernel) rfl⟩
theorem kl_X6_70 : q_LV RX6 70 yX4_hasTap uX4_hasTap 1 := ⟨⟨q_in (i := 273) (by decide +kernel) rfl, q_in (i := 274) (by decide +kernel) rfl, q_in (i := 275) (by decide +kernel) rfl, q_in (i := 27) (by decide +kernel) rfl, q_in (i := 276) (by decide +kernel) rfl⟩, by decide, by decide, by decide +kernel⟩
theorem cn_X6_73 : Cond.constant RX6 73 (2000000000) ∈ q_tb := q_in (i := 277) (by decide +kernel) rfl
theorem kl_X6_74 : q_LV RX6 74 yX4_tapAt uX4_tapAt 1 := ⟨⟨q_in (i := 278) (by decide +kernel) rfl, q_in (i := 279) (by decide +kernel) rfl, q_in (i := 280) (by decide +kernel) rfl, q_in (i := 27) (by decide +kernel) rfl, q_in (i := 281) (by decide +kernel) rfl⟩, by decide, by decide, by decide +kernel⟩
theorem kl_X6_78 : q_LV RX6 78 yX4_setTap uX4_setTap 2 := ⟨⟨q_in (i := 283) (by decide +kernel) rfl, q_in (i := 284) (by decide +kernel) rfl, q_in (i := 285) (by decide +kernel) rfl, q_in (i := 27) (by decide +kernel) rfl, q_in (i := 286) (by decide +kernel) rfl⟩, by decide, by decide, by decide +kernel⟩
theorem fl_X6_81 : q_FL RX6 81 4 4 := ⟨RX4, TX4, 13, rfl, by decide, iqX4, q_in (i := 202) (by decide +kernel) rfl⟩
theorem pl_X6_81 : q_PL RX6 81 4 4 false (.int) := ⟨RX4, TX4, 13, tyX4, rfl, by decide, iqX4, q_in (i := 202) (by decide +kernel) rfl, tyX4_ok, nmX4, rfl, rfl, fun h => by first | rfl | cases h⟩
theorem pl_X6_84 : q_PL RX6 84 4 5 false (.boolean) := ⟨RX4, TX4, 13, tyX4, rfl, by decide, iqX4, q_in (i := 204) (by decide +kernel) rfl, tyX4_ok, nmX4, rfl, rfl, fun h => by first | rfl | cases h⟩
theorem kl_X6_88 : q_LS RX6 88 yX6_isPlan uX6_isPlan 2 := ⟨⟨q_in (i := 295) (by decide +kernel) rfl, q_in (i := 296) (by decide +kernel) rfl, q_in (i := 23) (by decide +kernel) rfl, q_in (i := 297) (by decide +kernel) rfl⟩, by decide, by decide, by decide +kernel⟩
theorem kl_X6_92 : q_LV RX6 92 yX4_isSafe uX4_isSafe 3 := ⟨⟨q_in (i := 298) (by decide +kernel) rfl, q_in (i := 299) (by decide +kernel) rfl, q_in (i := 300) (by decide +kernel) rfl, q_in (i := 27) (by decide +kernel) rfl, q_in (i := 301) (by decide +kernel) rfl⟩, by decide, by decide, by decide +kernel⟩
theorem kl_X6_95 : q_LV RX6 95 yX4_setPlan uX4_setPlan 3 := ⟨⟨q_in (i := 317) (by decide +kernel) rfl, q_in (i := 318) (by decide +kernel) rfl, q_in (i := 319) (by decide +kernel) rfl, q_in (i := 27) (by decide +kernel) rfl, q_in (i := 320) (by decide +kernel) rfl⟩, by decide, by decide, by decide +kernel⟩
theorem fl_X6_99 : q_FL RX6 99 4 6 := ⟨RX4, TX4, 13, rfl, by decide, iqX4, q_in (i := 206) (by decide +kernel) rfl⟩
theorem fl_X6_103 : q_FL RX6 103 1 0 := ⟨RX1, TX1, 6, rfl, by decide, iqX1, q_in (i := 122) (by decide +kernel) rfl⟩
theorem kl_X6_108 : q_LV RX6 108 yX1_factor uX1_factor 1 := ⟨⟨q_in (i := 348) (by decide +kernel) rfl, q_in (i := 349) (by decide +kernel) rfl, q_in (i := 350) (by decide +kernel) rfl, q_in (i := 28) (by decide +kernel) rfl, q_in (i := 351) (by decide +kernel) rfl⟩, by decide, by decide, by decide +kernel⟩
theorem fl_X6_111 : q_FL RX6 111 4 0 := ⟨RX4, TX4, 13, rfl, by decide, iqX4, q_in (i := 195) (by decide +kernel) rfl⟩
theorem fl_X6_114 : q_FL RX6 114 4 1 := ⟨RX4, TX4, 13, rfl, by decide, iqX4, q_in (i := 197) (by decide +kernel) rfl⟩
theorem fl_X6_84 : q_FL RX6 84 4 5 := ⟨RX4, TX4, 13, rfl, by decide, iqX4, q_in (i := 204) (by decide +kernel) rfl⟩
theorem fl_X6_117 : q_FL RX6 117 1 3 := ⟨RX1, TX1, 6, rfl, by decide, iqX1, q_in (i := 129) (by decide +kernel) rfl⟩
theorem fl_X6_120 : q_FL RX6 120 1 1 := ⟨RX1, TX1, 6, rfl, by decide, iqX1, q_in (i := 125) (by decide +kernel) rfl⟩
theorem fl_X6_123 : q_FL RX6 123 1 2 := ⟨RX1, TX1, 6, rfl, by decide, iqX1, q_in (i := 127) (by decide +kernel) rfl⟩
theorem kl_X6_126 : q_LV RX6 126 yX6_placeOf uX6_placeOf 1 := ⟨⟨q_in (i := 265) (by decide +kernel) rfl, q_in (i := 267) (by decide +kernel) rfl, q_in (i := 2) (by decide +kernel) rfl, q_in (i := 23) (by decide +kernel) rfl, q_in (i := 268) (by decide +kernel) rfl⟩, by decide, by decide, by decide +kernel⟩
theorem kl_X6_129 : q_LV RX6 129 yX4_symmetry uX4_symmetry 0 := ⟨⟨q_in (i := 356) (by decide +kernel) rfl, q_in (i := 357) (by decide +kernel) rfl, q_in (i := 358) (by decide +kernel) rfl, q_in (i := 27) (by decide +kernel) rfl, q_in (i := 359) (by decide +kernel) rfl⟩, by decide, by decide, by decide +kernel⟩
theorem cn_X6_133 : Cond.constantLong RX6 133 (-2) ∈ q_tb := q_in (i := 364) (by decide +kernel) rfl
theorem fl_X6_135 : q_FL RX6 135 1 4 := ⟨RX1, TX1, 6, rfl, by decide, iqX1, q_in (i := 132) (by decide +kernel) rfl⟩
theorem kl_X6_139 : q_LV RX6 139 yX6_filledByChain uX6_filledByChain 0 := ⟨⟨q_in (i := 369) (by decide +kernel) rfl, q_in (i := 371) (by decide +kernel) rfl, q_in (i := 3) (by decide +kernel) rfl, q_in (i := 23) (by decide +kernel) rfl, q_in (i := 372) (by decide +kernel) rfl⟩, by decide, by decide, by decide +kernel⟩
theorem kl_X6_142 : q_LV RX6 142 yX4_filling uX4_filling 0 := ⟨⟨q_in (i := 373) (by decide +kernel) rfl, q_in (i := 374) (by decide +kernel) rfl, q_in (i := 375) (by decide +kernel) rfl, q_in (i := 27) (by decide +kernel) rfl, q_in (i := 376) (by decide +kernel) rfl⟩, by decide, by decide, by decide +kernel⟩
theorem fl_X6_23 : q_FL RX6 23 6 3 := ⟨RX6, TX6, 7, rfl, by decide, iqX6, q_in (i := 80) (by decide +kernel) rfl⟩
theorem fl_X6_19 : q_FL RX6 19 6 2 := ⟨RX6, TX6, 7, rfl, by decide, iqX6, q_in (i := 79) (by decide +kernel) rfl⟩
theorem kl_X6_145 : q_LS RX6 145 yX6_isSample uX6_isSample 1 := ⟨⟨q_in (i := 385) (by decide +kernel) rfl, q_in (i := 386) (by decide +kernel) rfl, q_in (i := 23) (by decide +kernel) rfl, q_in (i := 387) (by decide +kernel) rfl⟩, by decide, by decide, by decide +kernel⟩
theorem kl_X6_148 : q_LV RX6 148 yX6_send uX6_send 1 := ⟨⟨q_in (i := 388) (by decide +kernel) rfl, q_in (i := 390) (by decide +kernel) rfl, q_in (i := 4) (by decide +kernel) rfl, q_in (i := 23) (by decide +kernel) rfl, q_in (i := 391) (by decide +kernel) rfl⟩, by decide, by decide, by decide +kernel⟩
theorem fl_X6_29 : q_FL RX6 29 6 4 := ⟨RX6, TX6, 7, rfl, by decide, iqX6, q_in (i := 81) (by decide +kernel) rfl⟩
theorem kl_X6_151 : q_LV RX6 151 yX5_has uX5_has 1 := ⟨⟨q_in (i := 463) (by decide +kernel) rfl, q_in (i := 464) (by decide +kernel) rfl, q_in (i := 465) (by decide +kernel) rfl, q_in (i := 24) (by decide +kernel) rfl, q_in (i := 466) (by decide +kernel) rfl⟩, by decide, by decide, by decide +kernel⟩
theorem kl_X6_154 : q_LV RX6 154 yX5_at uX5_at 1 := ⟨⟨q_in (i := 467) (by decide +kernel) rfl, q_in (i := 468) (by decide +kernel) rfl, q_in (i := 469) (by decide +kernel) rfl, q_in (i := 24) (by decide +kernel) rfl, q_in (i := 470) (by decide +kernel) rfl⟩, by decide, by decide, by decide +kernel⟩
theorem fl_X6_157 : q_FL RX6 157 5 1 := ⟨RX5, TX5, 3, rfl, by decide, iqX5, q_in (i := 50) (by decide +kernel) rfl⟩
theorem pl_X6_157 : q_PL RX6 157 5 1 false (.int) := ⟨RX5, TX5, 3, tyX5, rfl, by decide, iqX5, q_in (i := 50) (by decide +kernel) rfl, tyX5_ok, nmX5, rfl, rfl, fun h => by first | rfl | cases h⟩
theorem kl_X6_160 : q_LV RX6 160 yX4_forget uX4_forget 0 := ⟨⟨q_in (i := 480) (by decide +kernel) rfl, q_in (i := 333) (by decide +kernel) rfl, q_in (i := 334) (by decide +kernel) rfl, q_in (i := 27) (by decide +kernel) rfl, q_in (i := 335) (by decide +kernel) rfl⟩, by decide, by decide, by decide +kernel⟩
theorem cn_X6_163 : Cond.constant RX6 163 (2000000001) ∈ q_tb := q_in (i := 485) (by decide +kernel) rfl
theorem kl_X6_164 : q_LV RX6 164 yX4_take uX4_take 1 := ⟨⟨q_in (i := 486) (by decide +kernel) rfl, q_in (i := 411) (by decide +kernel) rfl, q_in (i := 412) (by decide +kernel) rfl, q_in (i := 27) (by decide +kernel) rfl, q_in (i := 413) (by decide +kernel) rfl⟩, by decide, by decide, by decide +kernel⟩
theorem fl_X6_167 : q_FL RX6 167 4 7 := ⟨RX4, TX4, 13, rfl, by decide, iqX4, q_in (i := 208) (by decide +kernel) rfl⟩
theorem fl_X6_171 : q_FL RX6 171 0 0 := ⟨RX0, TX0, 7, rfl, by decide, iqX0, q_in (i := 155) (by decide +kernel) rfl⟩
theorem fl_X6_174 : q_FL RX6 174 0 1 := ⟨RX0, TX0, 7, rfl, by decide, iqX0, q_in (i := 157) (by decide +kernel) rfl⟩
theorem fl_X6_177 : q_FL RX6 177 0 3 := ⟨RX0, TX0, 7, rfl, by decide, iqX0, q_in (i := 161) (by decide +kernel) rfl⟩
theorem fl_X6_180 : q_FL RX6 180 0 4 := ⟨RX0, TX0, 7, rfl, by decide, iqX0, q_in (i := 163) (by decide +kernel) rfl⟩
theorem fl_X6_183 : q_FL RX6 183 0 2 := ⟨RX0, TX0, 7, rfl, by decide, iqX0, q_in (i := 159) (by decide +kernel) rfl⟩
theorem cn_X6_186 : Cond.constantLong RX6 186 (32768) ∈ q_tb := q_in (i := 491) (by decide +kernel) rfl
theorem kl_X6_188 : q_LV RX6 188 yX0_isWithinBound uX0_isWithinBound 2 := ⟨⟨q_in (i := 496) (by decide +kernel) rfl, q_in (i := 497) (by decide +kernel) rfl, q_in (i := 498) (by decide +kernel) rfl, q_in (i := 29) (by decide +kernel) rfl, q_in (i := 499) (by decide +kernel) rfl⟩, by decide, by decide, by decide +kernel⟩
theorem fl_X6_191 : q_FL RX6 191 4 10 := ⟨RX4, TX4, 13, rfl, by decide, iqX4, q_in (i := 212) (by decide +kernel) rfl⟩
theorem fl_X6_194 : q_FL RX6 194 4 11 := ⟨RX4, TX4, 13, rfl, by decide, iqX4, q_in (i := 214) (by decide +kernel) rfl⟩
theorem fl_X6_197 : q_FL RX6 197 4 12 := ⟨RX4, TX4, 13, rfl, by decide, iqX4, q_in (i := 216) (by decide +kernel) rfl⟩
theorem fl_X6_200 : q_FL RX6 200 5 2 := ⟨RX5, TX5, 3, rfl, by decide, iqX5, q_in (i := 52) (by decide +kernel) rfl⟩
theorem cn_X6_203 : Cond.constantLong RX6 203 (43) ∈ q_tb := q_in (i := 514) (by decide +kernel) rfl
theorem cn_X6_205 : Cond.constantLong RX6 205 (31) ∈ q_tb := q_in (i := 515) (by decide +kernel) rfl
theorem kl_X6_207 : q_LV RX6 207 yX6_about uX6_about 2 := ⟨⟨q_in (i := 516) (by decide +kernel) rfl, q_in (i := 353) (by decide +kernel) rfl, q_in (i := 354) (by decide +kernel) rfl, q_in (i := 23) (by decide +kernel) rfl, q_in (i := 355) (by decide +kernel) rfl⟩, by decide, by decide, by decide +kernel⟩
theorem kl_X6_211 : q_LV RX6 211 yX4_mixRows uX4_mixRows 1 := ⟨⟨q_in (i := 517) (by decide +kernel) rfl, q_in (i := 518) (by decide +kernel) rfl, q_in (i := 519) (by decide +kernel) rfl, q_in (i := 27) (by decide +kernel) rfl, q_in (i := 520) (by decide +kernel) rfl⟩, by decide, by decide, by decide +kernel⟩
theorem kl_X6_215 : q_LV RX6 215 yX6_counted uX6_counted 2 := ⟨⟨q_in (i := 522) (by decide +kernel) rfl, q_in (i := 503) (by decide +kernel) rfl, q_in (i := 504) (by decide +kernel) rfl, q_in (i := 23) (by decide +kernel) rfl, q_in (i := 505) (by decide +kernel) rfl⟩, by decide, by decide, by decide +kernel⟩
theorem kl_X6_219 : q_LV RX6 219 yX5_mixSamples uX5_mixSamples 1 := ⟨⟨q_in (i := 523) (by decide +kernel) rfl, q_in (i := 524) (by decide +kernel) rfl, q_in (i := 525) (by decide +kernel) rfl, q_in (i := 24) (by decide +kernel) rfl, q_in (i := 526) (by decide +kernel) rfl⟩, by decide, by decide, by decide +kernel⟩
theorem kl_X6_222 : q_LV RX6 222 yX4_dropPlan uX4_dropPlan 0 := ⟨⟨q_in (i := 261) (by decide +kernel) rfl, q_in (i := 262) (by decide +kernel) rfl, q_in (i := 263) (by decide +kernel) rfl, q_in (i := 27) (by decide +kernel) rfl, q_in (i := 264) (by decide +kernel) rfl⟩, by decide, by decide, by decide +kernel⟩
theorem fl_X6_36 : q_FL RX6 36 6 5 := ⟨RX6, TX6, 7, rfl, by decide, iqX6, q_in (i := 82) (by decide +kernel) rfl⟩
theorem fl_X6_40 : q_FL RX6 40 6 6 := ⟨RX6, TX6, 7, rfl, by decide, iqX6, q_in (i := 83) (by decide +kernel) rfl⟩
theorem kl_X6_225 : q_LV RX6 225 yX3_clear uX3_clear 0 := ⟨⟨q_in (i := 392) (by decide +kernel) rfl, q_in (i := 393) (by decide +kernel) rfl, q_in (i := 394) (by decide +kernel) rfl, q_in (i := 25) (by decide +kernel) rfl, q_in (i := 395) (by decide +kernel) rfl⟩, by decide, by decide, by decide +kernel⟩
theorem kl_X6_228 : q_LV RX6 228 yX3_add uX3_add 1 := ⟨⟨q_in (i := 396) (by decide +kernel) rfl, q_in (i := 397) (by decide +kernel) rfl, q_in (i := 398) (by decide +kernel) rfl, q_in (i := 25) (by decide +kernel) rfl, q_in (i := 399) (by decide +kernel) rfl⟩, by decide, by decide, by decide +kernel⟩
theorem kl_X6_232 : q_LV RX6 232 yX4_pass uX4_pass 2 := ⟨⟨q_in (i := 400) (by decide +kernel) rfl, q_in (i := 401) (by decide +kernel) rfl, q_in (i := 402) (by decide +kernel) rfl, q_in (i := 27) (by decide +kernel) rfl, q_in (i := 403) (by decide +kernel) rfl⟩, by decide, by decide, by decide +kernel⟩
theorem fl_X6_236 : q_FL RX6 236 3 1 := ⟨RX3, TX3, 2, rfl, by decide, iqX3, q_in (i := 71) (by decide +kernel) rfl⟩
theorem kl_X6_237 : q_LV RX6 237 yX3_at uX3_at 1 := ⟨⟨q_in (i := 450) (by decide +kernel) rfl, q_in (i := 407) (by decide +kernel) rfl, q_in (i := 408) (by decide +kernel) rfl, q_in (i := 25) (by decide +kernel) rfl, q_in (i := 409) (by decide +kernel) rfl⟩, by decide, by decide, by decide +kernel⟩
theorem kl_X6_238 : q_LV RX6 238 yX5_add uX5_add 1 := ⟨⟨q_in (i := 451) (by decide +kernel) rfl, q_in (i := 452) (by decide +kernel) rfl, q_in (i := 453) (by decide +kernel) rfl, q_in (i := 24) (by decide +kernel) rfl, q_in (i := 454) (by decide +kernel) rfl⟩, by decide, by decide, by decide +kernel⟩
theorem kl_X7_1 : Cond.methodLink RX7 1 objectInit ∈ q_tb := q_in (i := 534) (by decide +kernel) rfl
theorem pl_X7_7 : q_PL RX7 7 7 1 true (.array .int) := ⟨RX7, TX7, 31, tyX7, rfl, by decide, iqX7, q_in (i := 536) (by decide +kernel) rfl, tyX7_ok, nmX7, rfl, rfl, fun h => by first | rfl | cases h⟩
theorem pl_X7_13 : q_PL RX7 13 7 2 true (.array .int) := ⟨RX7, TX7, 31, tyX7, rfl, by decide, iqX7, q_in (i := 537) (by decide +kernel) rfl, tyX7_ok, nmX7, rfl, rfl, fun h => by first | rfl | cases h⟩
theorem pl_X7_16 : q_PL RX7 16 7 3 true (.array .int) := ⟨RX7, TX7, 31, tyX7, rfl, by decide, iqX7, q_in (i := 538) (by decide +kernel) rfl, tyX7_ok, nmX7, rfl, rfl, fun h => by first | rfl | cases h⟩
theorem pl_X7_19 : q_PL RX7 19 7 4 true (.array .int) := ⟨RX7, TX7, 31, tyX7, rfl, by decide, iqX7, q_in (i := 539) (by decide +kernel) rfl, tyX7_ok, nmX7, rfl, rfl, fun h => by first | rfl | cases h⟩
theorem pl_X7_22 : q_PL RX7 22 7 5 true (.array .int) := ⟨RX7, TX7, 31, tyX7, rfl, by decide, iqX7, q_in (i := 540) (by decide +kernel) rfl, tyX7_ok, nmX7, rfl, rfl, fun h => by first | rfl | cases h⟩
theorem pl_X7_25 : q_PL RX7 25 7 6 true (.array .boolean) := ⟨RX7, TX7, 31, tyX7, rfl, by decide, iqX7, q_in (i := 541) (by decide +kernel) rfl, tyX7_ok, nmX7, rfl, rfl, fun h => by first | rfl | cases h⟩
theorem pl_X7_29 : q_PL RX7 29 7 7 true (.array .boolean) := ⟨RX7, TX7, 31, tyX7, rfl, by decide, iqX7, q_in (i := 542) (by decide +kernel) rfl, tyX7_ok, nmX7, rfl, rfl, fun h => by first | rfl | cases h⟩
theorem pl_X7_32 : q_PL RX7 32 7 8 true (.array .int) := ⟨RX7, TX7, 31, tyX7, rfl, by decide, iqX7, q_in (i := 543) (by decide +kernel) rfl, tyX7_ok, nmX7, rfl, rfl, fun h => by first | rfl | cases h⟩
theorem pl_X7_35 : q_PL RX7 35 7 9 true (.array .int) := ⟨RX7, TX7, 31, tyX7, rfl, by decide, iqX7, q_in (i := 544) (by decide +kernel) rfl, tyX7_ok, nmX7, rfl, rfl, fun h => by first | rfl | cases h⟩
theorem pl_X7_38 : q_PL RX7 38 7 10 true (.array .int) := ⟨RX7, TX7, 31, tyX7, rfl, by decide, iqX7, q_in (i := 545) (by decide +kernel) rfl, tyX7_ok, nmX7, rfl, rfl, fun h => by first | rfl | cases h⟩
theorem pl_X7_41 : q_PL RX7 41 7 11 true (.array .int) := ⟨RX7, TX7, 31, tyX7, rfl, by decide, iqX7, q_in (i := 546) (by decide +kernel) rfl, tyX7_ok, nmX7, rfl, rfl, fun h => by first | rfl | cases h⟩
theorem pl_X7_44 : q_PL RX7 44 7 12 true (.array .int) := ⟨RX7, TX7, 31, tyX7, rfl, by decide, iqX7, q_in (i := 547) (by decide +kernel) rfl, tyX7_ok, nmX7, rfl, rfl, fun h => by first | rfl | cases h⟩
theorem pl_X7_47 : q_PL RX7 47 7 13 true (.array .int) := ⟨RX7, TX7, 31, tyX7, rfl, by decide, iqX7, q_in (i := 548) (by decide +kernel) rfl, tyX7_ok, nmX7, rfl, rfl, fun h => by first | rfl | cases h⟩
theorem pl_X7_50 : q_PL RX7 50 7 14 true (.array .long) := ⟨RX7, TX7, 31, tyX7, rfl, by decide, iqX7, q_in (i := 549) (by decide +kernel) rfl, tyX7_ok, nmX7, rfl, rfl, fun h => by first | rfl | cases h⟩
theorem pl_X7_54 : q_PL RX7 54 7 15 true (.array .long) := ⟨RX7, TX7, 31, tyX7, rfl, by decide, iqX7, q_in (i := 550) (by decide +kernel) rfl, tyX7_ok, nmX7, rfl, rfl, fun h => by first | rfl | cases h⟩
theorem pl_X7_57 : q_PL RX7 57 7 16 true (.array .long) := ⟨RX7, TX7, 31, tyX7, rfl, by decide, iqX7, q_in (i := 551) (by decide +kernel) rfl, tyX7_ok, nmX7, rfl, rfl, fun h => by first | rfl | cases h⟩
theorem pl_X7_60 : q_PL RX7 60 7 17 true (.array .boolean) := ⟨RX7, TX7, 31, tyX7, rfl, by decide, iqX7, q_in (i := 552) (by decide +kernel) rfl, tyX7_ok, nmX7, rfl, rfl, fun h => by first | rfl | cases h⟩
theorem pl_X7_63 : q_PL RX7 63 7 18 true (.array .long) := ⟨RX7, TX7, 31, tyX7, rfl, by decide, iqX7, q_in (i := 553) (by decide +kernel) rfl, tyX7_ok, nmX7, rfl, rfl, fun h => by first | rfl | cases h⟩
theorem pl_X7_66 : q_PL RX7 66 7 19 true (.array .long) := ⟨RX7, TX7, 31, tyX7, rfl, by decide, iqX7, q_in (i := 554) (by decide +kernel) rfl, tyX7_ok, nmX7, rfl, rfl, fun h => by first | rfl | cases h⟩
theorem pl_X7_69 : q_PL RX7 69 7 20 true (.array .int) := ⟨RX7, TX7, 31, tyX7, rfl, by decide, iqX7, q_in (i := 555) (by decide +kernel) rfl, tyX7_ok, nmX7, rfl, rfl, fun h => by first | rfl | cases h⟩
theorem pl_X7_72 : q_PL RX7 72 7 21 true (.array .long) := ⟨RX7, TX7, 31, tyX7, rfl, by decide, iqX7, q_in (i := 556) (by decide +kernel) rfl, tyX7_ok, nmX7, rfl, rfl, fun h => by first | rfl | cases h⟩
theorem pl_X7_75 : q_PL RX7 75 7 22 true (.array .long) := ⟨RX7, TX7, 31, tyX7, rfl, by decide, iqX7, q_in (i := 557) (by decide +kernel) rfl, tyX7_ok, nmX7, rfl, rfl, fun h => by first | rfl | cases h⟩
theorem pl_X7_78 : q_PL RX7 78 7 23 true (.array .int) := ⟨RX7, TX7, 31, tyX7, rfl, by decide, iqX7, q_in (i := 558) (by decide +kernel) rfl, tyX7_ok, nmX7, rfl, rfl, fun h => by first | rfl | cases h⟩
theorem pl_X7_81 : q_PL RX7 81 7 25 true (.array .int) := ⟨RX7, TX7, 31, tyX7, rfl, by decide, iqX7, q_in (i := 560) (by decide +kernel) rfl, tyX7_ok, nmX7, rfl, rfl, fun h => by first | rfl | cases h⟩
theorem pl_X7_84 : q_PL RX7 84 7 27 true (.array .int) := ⟨RX7, TX7, 31, tyX7, rfl, by decide, iqX7, q_in (i := 562) (by decide +kernel) rfl, tyX7_ok, nmX7, rfl, rfl, fun h => by first | rfl | cases h⟩
theorem pl_X7_87 : q_PL RX7 87 7 29 true (.array .int) := ⟨RX7, TX7, 31, tyX7, rfl, by decide, iqX7, q_in (i := 564) (by decide +kernel) rfl, tyX7_ok, nmX7, rfl, rfl, fun h => by first | rfl | cases h⟩
theorem pl_X7_90 : q_PL RX7 90 7 30 true (.array .int) := ⟨RX7, TX7, 31, tyX7, rfl, by decide, iqX7, q_in (i := 565) (by decide +kernel) rfl, tyX7_ok, nmX7, rfl, rfl, fun h => by first | rfl | cases h⟩
theorem fl_X7_93 : q_FL RX7 93 7 0 := ⟨RX7, TX7, 31, rfl, by decide, iqX7, q_in (i := 535) (by decide +kernel) rfl⟩
theorem kl_X7_97 : q_LS RX7 97 yX7_in uX7_in 3 := ⟨⟨q_in (i := 636) (by decide +kernel) rfl, q_in (i := 637) (by decide +kernel) rfl, q_in (i := 26) (by decide +kernel) rfl, q_in (i := 638) (by decide +kernel) rfl⟩, by decide, by decide, by decide +kernel⟩
theorem cn_X7_101 : Cond.constantLong RX7 101 (1000000) ∈ q_tb := q_in (i := 635) (by decide +kernel) rfl
theorem cn_X7_103 : Cond.constantLong RX7 103 (4) ∈ q_tb := q_in (i := 639) (by decide +kernel) rfl
theorem cn_X7_105 : Cond.constantLong RX7 105 (-4) ∈ q_tb := q_in (i := 640) (by decide +kernel) rfl
theorem cn_X7_107 : Cond.constantLong RX7 107 (-2) ∈ q_tb := q_in (i := 641) (by decide +kernel) rfl
theorem fl_X7_7 : q_FL RX7 7 7 1 := ⟨RX7, TX7, 31, rfl, by decide, iqX7, q_in (i := 536) (by decide +kernel) rfl⟩
theorem fl_X7_13 : q_FL RX7 13 7 2 := ⟨RX7, TX7, 31, rfl, by decide, iqX7, q_in (i := 537) (by decide +kernel) rfl⟩
theorem pl_X7_93 : q_PL RX7 93 7 0 false (.int) := ⟨RX7, TX7, 31, tyX7, rfl, by decide, iqX7, q_in (i := 535) (by decide +kernel) rfl, tyX7_ok, nmX7, rfl, rfl, fun h => by first | rfl | cases h⟩
theorem fl_X7_109 : q_FL RX7 109 7 24 := ⟨RX7, TX7, 31, rfl, by decide, iqX7, q_in (i := 559) (by decide +kernel) rfl⟩
theorem fl_X7_81 : q_FL RX7 81 7 25 := ⟨RX7, TX7, 31, rfl, by decide, iqX7, q_in (i := 560) (by decide +kernel) rfl⟩
theorem fl_X7_29 : q_FL RX7 29 7 7 := ⟨RX7, TX7, 31, rfl, by decide, iqX7, q_in (i := 542) (by decide +kernel) rfl⟩
theorem kl_X7_112 : q_LV RX7 112 yX7_placeOf uX7_placeOf 1 := ⟨⟨q_in (i := 658) (by decide +kernel) rfl, q_in (i := 660) (by decide +kernel) rfl, q_in (i := 8) (by decide +kernel) rfl, q_in (i := 26) (by decide +kernel) rfl, q_in (i := 661) (by decide +kernel) rfl⟩, by decide, by decide, by decide +kernel⟩
theorem pl_X7_109 : q_PL RX7 109 7 24 false (.int) := ⟨RX7, TX7, 31, tyX7, rfl, by decide, iqX7, q_in (i := 559) (by decide +kernel) rfl, tyX7_ok, nmX7, rfl, rfl, fun h => by first | rfl | cases h⟩
theorem cn_X7_116 : Cond.constantLong RX7 116 (-1000000) ∈ q_tb := q_in (i := 653) (by decide +kernel) rfl
theorem kl_X7_118 : q_LV RX7 118 yX7_isStage uX7_isStage 1 := ⟨⟨q_in (i := 646) (by decide +kernel) rfl, q_in (i := 648) (by decide +kernel) rfl, q_in (i := 6) (by decide +kernel) rfl, q_in (i := 26) (by decide +kernel) rfl, q_in (i := 649) (by decide +kernel) rfl⟩, by decide, by decide, by decide +kernel⟩
theorem kl_X7_122 : q_LS RX7 122 yX7_isTap uX7_isTap 1 := ⟨⟨q_in (i := 650) (by decide +kernel) rfl, q_in (i := 651) (by decide +kernel) rfl, q_in (i := 26) (by decide +kernel) rfl, q_in (i := 652) (by decide +kernel) rfl⟩, by decide, by decide, by decide +kernel⟩
theorem fl_X7_16 : q_FL RX7 16 7 3 := ⟨RX7, TX7, 31, rfl, by decide, iqX7, q_in (i := 538) (by decide +kernel) rfl⟩
theorem fl_X7_19 : q_FL RX7 19 7 4 := ⟨RX7, TX7, 31, rfl, by decide, iqX7, q_in (i := 539) (by decide +kernel) rfl⟩
theorem kl_X7_125 : q_LV RX7 125 yX7_unplan uX7_unplan 1 := ⟨⟨q_in (i := 654) (by decide +kernel) rfl, q_in (i := 656) (by decide +kernel) rfl, q_in (i := 7) (by decide +kernel) rfl, q_in (i := 26) (by decide +kernel) rfl, q_in (i := 657) (by decide +kernel) rfl⟩, by decide, by decide, by decide +kernel⟩
theorem cn_X7_129 : Cond.constant RX7 129 (2000000000) ∈ q_tb := q_in (i := 666) (by decide +kernel) rfl
theorem cn_X7_130 : Cond.constantLong RX7 130 (3) ∈ q_tb := q_in (i := 671) (by decide +kernel) rfl
theorem fl_X7_22 : q_FL RX7 22 7 5 := ⟨RX7, TX7, 31, rfl, by decide, iqX7, q_in (i := 540) (by decide +kernel) rfl⟩
theorem fl_X7_25 : q_FL RX7 25 7 6 := ⟨RX7, TX7, 31, rfl, by decide, iqX7, q_in (i := 541) (by decide +kernel) rfl⟩
theorem kl_X7_132 : q_LS RX7 132 yX7_down uX7_down 2 := ⟨⟨q_in (i := 694) (by decide +kernel) rfl, q_in (i := 695) (by decide +kernel) rfl, q_in (i := 26) (by decide +kernel) rfl, q_in (i := 696) (by decide +kernel) rfl⟩, by decide, by decide, by decide +kernel⟩
theorem cn_X7_136 : Cond.constantLong RX7 136 (2) ∈ q_tb := q_in (i := 697) (by decide +kernel) rfl
theorem kl_X7_138 : q_LS RX7 138 yX7_nearest uX7_nearest 2 := ⟨⟨q_in (i := 691) (by decide +kernel) rfl, q_in (i := 692) (by decide +kernel) rfl, q_in (i := 26) (by decide +kernel) rfl, q_in (i := 693) (by decide +kernel) rfl⟩, by decide, by decide, by decide +kernel⟩
theorem kl_X7_141 : q_LV RX7 141 yX7_factorAt uX7_factorAt 3 := ⟨⟨q_in (i := 687) (by decide +kernel) rfl, q_in (i := 689) (by decide +kernel) rfl, q_in (i := 11) (by decide +kernel) rfl, q_in (i := 26) (by decide +kernel) rfl, q_in (i := 690) (by decide +kernel) rfl⟩, by decide, by decide, by decide +kernel⟩
theorem kl_X7_145 : q_LS RX7 145 yX7_size uX7_size 1 := ⟨⟨q_in (i := 698) (by decide +kernel) rfl, q_in (i := 699) (by decide +kernel) rfl, q_in (i := 26) (by decide +kernel) rfl, q_in (i := 700) (by decide +kernel) rfl⟩, by decide, by decide, by decide +kernel⟩
theorem cn_X7_149 : Cond.constantLong RX7 149 (32768) ∈ q_tb := q_in (i := 701) (by decide +kernel) rfl
theorem fl_X7_44 : q_FL RX7 44 7 12 := ⟨RX7, TX7, 31, rfl, by decide, iqX7, q_in (i := 547) (by decide +kernel) rfl⟩
theorem fl_X7_47 : q_FL RX7 47 7 13 := ⟨RX7, TX7, 31, rfl, by decide, iqX7, q_in (i := 548) (by decide +kernel) rfl⟩
theorem fl_X7_50 : q_FL RX7 50 7 14 := ⟨RX7, TX7, 31, rfl, by decide, iqX7, q_in (i := 549) (by decide +kernel) rfl⟩
theorem fl_X7_54 : q_FL RX7 54 7 15 := ⟨RX7, TX7, 31, rfl, by decide, iqX7, q_in (i := 550) (by decide +kernel) rfl⟩
theorem fl_X7_57 : q_FL RX7 57 7 16 := ⟨RX7, TX7, 31, rfl, by decide, iqX7, q_in (i := 551) (by decide +kernel) rfl⟩
theorem fl_X7_32 : q_FL RX7 32 7 8 := ⟨RX7, TX7, 31, rfl, by decide, iqX7, q_in (i := 543) (by decide +kernel) rfl⟩
theorem fl_X7_35 : q_FL RX7 35 7 9 := ⟨RX7, TX7, 31, rfl, by decide, iqX7, q_in (i := 544) (by decide +kernel) rfl⟩
theorem fl_X7_38 : q_FL RX7 38 7 10 := ⟨RX7, TX7, 31, rfl, by decide, iqX7, q_in (i := 545) (by decide +kernel) rfl⟩
theorem fl_X7_41 : q_FL RX7 41 7 11 := ⟨RX7, TX7, 31, rfl, by decide, iqX7, q_in (i := 546) (by decide +kernel) rfl⟩
theorem kl_X7_151 : q_LV RX7 151 yX7_forgets uX7_forgets 1 := ⟨⟨q_in (i := 706) (by decide +kernel) rfl, q_in (i := 708) (by decide +kernel) rfl, q_in (i := 13) (by decide +kernel) rfl, q_in (i := 26) (by decide +kernel) rfl, q_in (i := 709) (by decide +kernel) rfl⟩, by decide, by decide, by decide +kernel⟩
theorem fl_X7_60 : q_FL RX7 60 7 17 := ⟨RX7, TX7, 31, rfl, by decide, iqX7, q_in (i := 552) (by decide +kernel) rfl⟩
theorem cn_X7_154 : Cond.constantLong RX7 154 (16) ∈ q_tb := q_in (i := 680) (by decide +kernel) rfl
theorem cn_X7_156 : Cond.constantLong RX7 156 (18) ∈ q_tb := q_in (i := 681) (by decide +kernel) rfl
theorem cn_X7_158 : Cond.constantLong RX7 158 (50) ∈ q_tb := q_in (i := 682) (by decide +kernel) rfl
theorem kl_X7_160 : q_LV RX7 160 yX7_isPlan uX7_isPlan 3 := ⟨⟨q_in (i := 676) (by decide +kernel) rfl, q_in (i := 678) (by decide +kernel) rfl, q_in (i := 9) (by decide +kernel) rfl, q_in (i := 26) (by decide +kernel) rfl, q_in (i := 679) (by decide +kernel) rfl⟩, by decide, by decide, by decide +kernel⟩
theorem kl_X7_164 : q_LV RX7 164 yX7_isSafe uX7_isSafe 4 := ⟨⟨q_in (i := 683) (by decide +kernel) rfl, q_in (i := 685) (by decide +kernel) rfl, q_in (i := 10) (by decide +kernel) rfl, q_in (i := 26) (by decide +kernel) rfl, q_in (i := 686) (by decide +kernel) rfl⟩, by decide, by decide, by decide +kernel⟩
theorem kl_X7_168 : q_LV RX7 168 yX7_plans uX7_plans 4 := ⟨⟨q_in (i := 702) (by decide +kernel) rfl, q_in (i := 704) (by decide +kernel) rfl, q_in (i := 12) (by decide +kernel) rfl, q_in (i := 26) (by decide +kernel) rfl, q_in (i := 705) (by decide +kernel) rfl⟩, by decide, by decide, by decide +kernel⟩
theorem cn_X7_172 : Cond.constantLong RX7 172 (24) ∈ q_tb := q_in (i := 714) (by decide +kernel) rfl
theorem kl_X7_174 : q_LV RX7 174 yX7_mirrored uX7_mirrored 1 := ⟨⟨q_in (i := 728) (by decide +kernel) rfl, q_in (i := 730) (by decide +kernel) rfl, q_in (i := 15) (by decide +kernel) rfl, q_in (i := 26) (by decide +kernel) rfl, q_in (i := 731) (by decide +kernel) rfl⟩, by decide, by decide, by decide +kernel⟩
theorem cn_X7_177 : Cond.constantLong RX7 177 (9) ∈ q_tb := q_in (i := 723) (by decide +kernel) rfl
theorem kl_X7_179 : q_LV RX7 179 yX7_aboutOf uX7_aboutOf 2 := ⟨⟨q_in (i := 724) (by decide +kernel) rfl, q_in (i := 726) (by decide +kernel) rfl, q_in (i := 14) (by decide +kernel) rfl, q_in (i := 26) (by decide +kernel) rfl, q_in (i := 727) (by decide +kernel) rfl⟩, by decide, by decide, by decide +kernel⟩
theorem kl_X7_183 : q_LV RX7 183 yX7_normOf uX7_normOf 1 := ⟨⟨q_in (i := 736) (by decide +kernel) rfl, q_in (i := 738) (by decide +kernel) rfl, q_in (i := 16) (by decide +kernel) rfl, q_in (i := 26) (by decide +kernel) rfl, q_in (i := 739) (by decide +kernel) rfl⟩, by decide, by decide, by decide +kernel⟩
theorem kl_X7_187 : q_LS RX7 187 yX7_round uX7_round 3 := ⟨⟨q_in (i := 773) (by decide +kernel) rfl, q_in (i := 774) (by decide +kernel) rfl, q_in (i := 26) (by decide +kernel) rfl, q_in (i := 775) (by decide +kernel) rfl⟩, by decide, by decide, by decide +kernel⟩
theorem cn_X7_191 : Cond.constantLong RX7 191 (-32768) ∈ q_tb := q_in (i := 759) (by decide +kernel) rfl
theorem cn_X7_193 : Cond.constantLong RX7 193 (32767) ∈ q_tb := q_in (i := 760) (by decide +kernel) rfl
theorem fl_X7_63 : q_FL RX7 63 7 18 := ⟨RX7, TX7, 31, rfl, by decide, iqX7, q_in (i := 553) (by decide +kernel) rfl⟩
theorem fl_X7_66 : q_FL RX7 66 7 19 := ⟨RX7, TX7, 31, rfl, by decide, iqX7, q_in (i := 554) (by decide +kernel) rfl⟩
theorem fl_X7_69 : q_FL RX7 69 7 20 := ⟨RX7, TX7, 31, rfl, by decide, iqX7, q_in (i := 555) (by decide +kernel) rfl⟩
theorem fl_X7_72 : q_FL RX7 72 7 21 := ⟨RX7, TX7, 31, rfl, by decide, iqX7, q_in (i := 556) (by decide +kernel) rfl⟩
theorem fl_X7_75 : q_FL RX7 75 7 22 := ⟨RX7, TX7, 31, rfl, by decide, iqX7, q_in (i := 557) (by decide +kernel) rfl⟩
theorem fl_X7_78 : q_FL RX7 78 7 23 := ⟨RX7, TX7, 31, rfl, by decide, iqX7, q_in (i := 558) (by decide +kernel) rfl⟩
theorem fl_X7_87 : q_FL RX7 87 7 29 := ⟨RX7, TX7, 31, rfl, by decide, iqX7, q_in (i := 564) (by decide +kernel) rfl⟩
theorem kl_X7_195 : q_LV RX7 195 yX7_comes uX7_comes 2 := ⟨⟨q_in (i := 769) (by decide +kernel) rfl, q_in (i := 771) (by decide +kernel) rfl, q_in (i := 20) (by decide +kernel) rfl, q_in (i := 26) (by decide +kernel) rfl, q_in (i := 772) (by decide +kernel) rfl⟩, by decide, by decide, by decide +kernel⟩
theorem fl_X7_90 : q_FL RX7 90 7 30 := ⟨RX7, TX7, 31, rfl, by decide, iqX7, q_in (i := 565) (by decide +kernel) rfl⟩
theorem kl_X7_198 : q_LV RX7 198 yX7_goes uX7_goes 2 := ⟨⟨q_in (i := 765) (by decide +kernel) rfl, q_in (i := 767) (by decide +kernel) rfl, q_in (i := 19) (by decide +kernel) rfl, q_in (i := 26) (by decide +kernel) rfl, q_in (i := 768) (by decide +kernel) rfl⟩, by decide, by decide, by decide +kernel⟩
theorem fl_X7_201 : q_FL RX7 201 7 26 := ⟨RX7, TX7, 31, rfl, by decide, iqX7, q_in (i := 561) (by decide +kernel) rfl⟩
theorem fl_X7_84 : q_FL RX7 84 7 27 := ⟨RX7, TX7, 31, rfl, by decide, iqX7, q_in (i := 562) (by decide +kernel) rfl⟩
theorem pl_X7_201 : q_PL RX7 201 7 26 false (.int) := ⟨RX7, TX7, 31, tyX7, rfl, by decide, iqX7, q_in (i := 561) (by decide +kernel) rfl, tyX7_ok, nmX7, rfl, rfl, fun h => by first | rfl | cases h⟩
theorem fl_X7_204 : q_FL RX7 204 7 28 := ⟨RX7, TX7, 31, rfl, by decide, iqX7, q_in (i := 563) (by decide +kernel) rfl⟩
theorem pl_X7_204 : q_PL RX7 204 7 28 false (.int) := ⟨RX7, TX7, 31, tyX7, rfl, by decide, iqX7, q_in (i := 563) (by decide +kernel) rfl, tyX7_ok, nmX7, rfl, rfl, fun h => by first | rfl | cases h⟩
theorem kl_X7_207 : q_LV RX7 207 yX7_filled uX7_filled 1 := ⟨⟨q_in (i := 744) (by decide +kernel) rfl, q_in (i := 746) (by decide +kernel) rfl, q_in (i := 17) (by decide +kernel) rfl, q_in (i := 26) (by decide +kernel) rfl, q_in (i := 747) (by decide +kernel) rfl⟩, by decide, by decide, by decide +kernel⟩
theorem kl_X7_210 : q_LS RX7 210 yX7_isSample uX7_isSample 1 := ⟨⟨q_in (i := 756) (by decide +kernel) rfl, q_in (i := 757) (by decide +kernel) rfl, q_in (i := 26) (by decide +kernel) rfl, q_in (i := 758) (by decide +kernel) rfl⟩, by decide, by decide, by decide +kernel⟩
theorem kl_X7_213 : q_LV RX7 213 yX7_puts uX7_puts 1 := ⟨⟨q_in (i := 761) (by decide +kernel) rfl, q_in (i := 763) (by decide +kernel) rfl, q_in (i := 18) (by decide +kernel) rfl, q_in (i := 26) (by decide +kernel) rfl, q_in (i := 764) (by decide +kernel) rfl⟩, by decide, by decide, by decide +kernel⟩
theorem cn_X7_216 : Cond.constantLong RX7 216 (64) ∈ q_tb := q_in (i := 780) (by decide +kernel) rfl
theorem cn_X7_218 : Cond.constant RX7 218 (2000000001) ∈ q_tb := q_in (i := 797) (by decide +kernel) rfl
theorem kl_X7_219 : q_LV RX7 219 yX7_hasTold uX7_hasTold 1 := ⟨⟨q_in (i := 802) (by decide +kernel) rfl, q_in (i := 804) (by decide +kernel) rfl, q_in (i := 21) (by decide +kernel) rfl, q_in (i := 26) (by decide +kernel) rfl, q_in (i := 805) (by decide +kernel) rfl⟩, by decide, by decide, by decide +kernel⟩
theorem cn_X7_222 : Cond.constantLong RX7 222 (43) ∈ q_tb := q_in (i := 822) (by decide +kernel) rfl
theorem cn_X7_224 : Cond.constantLong RX7 224 (31) ∈ q_tb := q_in (i := 823) (by decide +kernel) rfl
theorem kl_X7_226 : q_LV RX7 226 yX7_counted uX7_counted 2 := ⟨⟨q_in (i := 824) (by decide +kernel) rfl, q_in (i := 811) (by decide +kernel) rfl, q_in (i := 812) (by decide +kernel) rfl, q_in (i := 26) (by decide +kernel) rfl, q_in (i := 813) (by decide +kernel) rfl⟩, by decide, by decide, by decide +kernel⟩
theorem nl_L_7 : Cond.classLink RL 7 RX6 ∈ q_tb := q_in (i := 32) (by decide +kernel) rfl
theorem kl_L_9 : q_LI RL 9 yX6_init uX6_init 0 := ⟨⟨q_in (i := 34) (by decide +kernel) rfl, q_in (i := 35) (by decide +kernel) rfl, q_in (i := 23) (by decide +kernel) rfl, q_in (i := 36) (by decide +kernel) rfl⟩, by decide, by decide, by decide +kernel, rfl, rfl⟩
theorem nl_L_10 : Cond.classLink RL 10 RX7 ∈ q_tb := q_in (i := 529) (by decide +kernel) rfl
theorem kl_L_12 : q_LI RL 12 yX7_init uX7_init 0 := ⟨⟨q_in (i := 531) (by decide +kernel) rfl, q_in (i := 532) (by decide +kernel) rfl, q_in (i := 26) (by decide +kernel) rfl, q_in (i := 533) (by decide +kernel) rfl⟩, by decide, by decide, by decide +kernel, rfl, rfl⟩
theorem kl_L_13 : q_LV RL 13 yX6_stage uX6_stage 2 := ⟨⟨q_in (i := 99) (by decide +kernel) rfl, q_in (i := 100) (by decide +kernel) rfl, q_in (i := 101) (by decide +kernel) rfl, q_in (i := 23) (by decide +kernel) rfl, q_in (i := 102) (by decide +kernel) rfl⟩, by decide, by decide, by decide +kernel⟩
theorem kl_L_17 : q_LV RL 17 yX7_stage uX7_stage 2 := ⟨⟨q_in (i := 631) (by decide +kernel) rfl, q_in (i := 632) (by decide +kernel) rfl, q_in (i := 633) (by decide +kernel) rfl, q_in (i := 26) (by decide +kernel) rfl, q_in (i := 634) (by decide +kernel) rfl⟩, by decide, by decide, by decide +kernel⟩
theorem kl_L_18 : q_LV RL 18 yX6_tap uX6_tap 2 := ⟨⟨q_in (i := 244) (by decide +kernel) rfl, q_in (i := 245) (by decide +kernel) rfl, q_in (i := 246) (by decide +kernel) rfl, q_in (i := 23) (by decide +kernel) rfl, q_in (i := 247) (by decide +kernel) rfl⟩, by decide, by decide, by decide +kernel⟩
theorem kl_L_21 : q_LV RL 21 yX7_tap uX7_tap 2 := ⟨⟨q_in (i := 642) (by decide +kernel) rfl, q_in (i := 643) (by decide +kernel) rfl, q_in (i := 644) (by decide +kernel) rfl, q_in (i := 26) (by decide +kernel) rfl, q_in (i := 645) (by decide +kernel) rfl⟩, by decide, by decide, by decide +kernel⟩
theorem kl_L_22 : q_LV RL 22 yX6_change uX6_change 3 := ⟨⟨q_in (i := 269) (by decide +kernel) rfl, q_in (i := 270) (by decide +kernel) rfl, q_in (i := 271) (by decide +kernel) rfl, q_in (i := 23) (by decide +kernel) rfl, q_in (i := 272) (by decide +kernel) rfl⟩, by decide, by decide, by decide +kernel⟩
theorem kl_L_26 : q_LV RL 26 yX7_change uX7_change 3 := ⟨⟨q_in (i := 662) (by decide +kernel) rfl, q_in (i := 663) (by decide +kernel) rfl, q_in (i := 664) (by decide +kernel) rfl, q_in (i := 26) (by decide +kernel) rfl, q_in (i := 665) (by decide +kernel) rfl⟩, by decide, by decide, by decide +kernel⟩
theorem kl_L_27 : q_LV RL 27 yX6_way uX6_way 3 := ⟨⟨q_in (i := 287) (by decide +kernel) rfl, q_in (i := 288) (by decide +kernel) rfl, q_in (i := 289) (by decide +kernel) rfl, q_in (i := 23) (by decide +kernel) rfl, q_in (i := 290) (by decide +kernel) rfl⟩, by decide, by decide, by decide +kernel⟩
theorem kl_L_31 : q_LV RL 31 yX7_way uX7_way 3 := ⟨⟨q_in (i := 667) (by decide +kernel) rfl, q_in (i := 668) (by decide +kernel) rfl, q_in (i := 669) (by decide +kernel) rfl, q_in (i := 26) (by decide +kernel) rfl, q_in (i := 670) (by decide +kernel) rfl⟩, by decide, by decide, by decide +kernel⟩
theorem kl_L_32 : q_LV RL 32 yX6_plan uX6_plan 3 := ⟨⟨q_in (i := 291) (by decide +kernel) rfl, q_in (i := 292) (by decide +kernel) rfl, q_in (i := 293) (by decide +kernel) rfl, q_in (i := 23) (by decide +kernel) rfl, q_in (i := 294) (by decide +kernel) rfl⟩, by decide, by decide, by decide +kernel⟩
theorem kl_L_35 : q_LV RL 35 yX7_plan uX7_plan 3 := ⟨⟨q_in (i := 672) (by decide +kernel) rfl, q_in (i := 673) (by decide +kernel) rfl, q_in (i := 674) (by decide +kernel) rfl, q_in (i := 26) (by decide +kernel) rfl, q_in (i := 675) (by decide +kernel) rfl⟩, by decide, by decide, by decide +kernel⟩
theorem kl_L_36 : q_LV RL 36 yX6_planAt uX6_planAt 4 := ⟨⟨q_in (i := 340) (by decide +kernel) rfl, q_in (i := 341) (by decide +kernel) rfl, q_in (i := 342) (by decide +kernel) rfl, q_in (i := 23) (by decide +kernel) rfl, q_in (i := 343) (by decide +kernel) rfl⟩, by decide, by decide, by decide +kernel⟩
theorem kl_L_40 : q_LV RL 40 yX7_planAt uX7_planAt 4 := ⟨⟨q_in (i := 710) (by decide +kernel) rfl, q_in (i := 711) (by decide +kernel) rfl, q_in (i := 712) (by decide +kernel) rfl, q_in (i := 26) (by decide +kernel) rfl, q_in (i := 713) (by decide +kernel) rfl⟩, by decide, by decide, by decide +kernel⟩
theorem kl_L_41 : q_LV RL 41 yX6_coefficient uX6_coefficient 2 := ⟨⟨q_in (i := 344) (by decide +kernel) rfl, q_in (i := 345) (by decide +kernel) rfl, q_in (i := 346) (by decide +kernel) rfl, q_in (i := 23) (by decide +kernel) rfl, q_in (i := 347) (by decide +kernel) rfl⟩, by decide, by decide, by decide +kernel⟩
theorem kl_L_44 : q_LV RL 44 yX7_coefficient uX7_coefficient 2 := ⟨⟨q_in (i := 715) (by decide +kernel) rfl, q_in (i := 716) (by decide +kernel) rfl, q_in (i := 717) (by decide +kernel) rfl, q_in (i := 26) (by decide +kernel) rfl, q_in (i := 718) (by decide +kernel) rfl⟩, by decide, by decide, by decide +kernel⟩
theorem kl_L_45 : q_LV RL 45 yX6_about uX6_about 2 := ⟨⟨q_in (i := 352) (by decide +kernel) rfl, q_in (i := 353) (by decide +kernel) rfl, q_in (i := 354) (by decide +kernel) rfl, q_in (i := 23) (by decide +kernel) rfl, q_in (i := 355) (by decide +kernel) rfl⟩, by decide, by decide, by decide +kernel⟩
theorem kl_L_48 : q_LV RL 48 yX7_about uX7_about 2 := ⟨⟨q_in (i := 719) (by decide +kernel) rfl, q_in (i := 720) (by decide +kernel) rfl, q_in (i := 721) (by decide +kernel) rfl, q_in (i := 26) (by decide +kernel) rfl, q_in (i := 722) (by decide +kernel) rfl⟩, by decide, by decide, by decide +kernel⟩
theorem kl_L_49 : q_LV RL 49 yX6_norm uX6_norm 1 := ⟨⟨q_in (i := 360) (by decide +kernel) rfl, q_in (i := 361) (by decide +kernel) rfl, q_in (i := 362) (by decide +kernel) rfl, q_in (i := 23) (by decide +kernel) rfl, q_in (i := 363) (by decide +kernel) rfl⟩, by decide, by decide, by decide +kernel⟩
theorem kl_L_53 : q_LV RL 53 yX7_norm uX7_norm 1 := ⟨⟨q_in (i := 732) (by decide +kernel) rfl, q_in (i := 733) (by decide +kernel) rfl, q_in (i := 734) (by decide +kernel) rfl, q_in (i := 26) (by decide +kernel) rfl, q_in (i := 735) (by decide +kernel) rfl⟩, by decide, by decide, by decide +kernel⟩
theorem kl_L_54 : q_LV RL 54 yX6_join uX6_join 1 := ⟨⟨q_in (i := 365) (by decide +kernel) rfl, q_in (i := 366) (by decide +kernel) rfl, q_in (i := 367) (by decide +kernel) rfl, q_in (i := 23) (by decide +kernel) rfl, q_in (i := 368) (by decide +kernel) rfl⟩, by decide, by decide, by decide +kernel⟩
theorem kl_L_58 : q_LV RL 58 yX7_join uX7_join 1 := ⟨⟨q_in (i := 740) (by decide +kernel) rfl, q_in (i := 741) (by decide +kernel) rfl, q_in (i := 742) (by decide +kernel) rfl, q_in (i := 26) (by decide +kernel) rfl, q_in (i := 743) (by decide +kernel) rfl⟩, by decide, by decide, by decide +kernel⟩
theorem kl_L_59 : q_LV RL 59 yX6_part uX6_part 0 := ⟨⟨q_in (i := 377) (by decide +kernel) rfl, q_in (i := 378) (by decide +kernel) rfl, q_in (i := 379) (by decide +kernel) rfl, q_in (i := 23) (by decide +kernel) rfl, q_in (i := 380) (by decide +kernel) rfl⟩, by decide, by decide, by decide +kernel⟩
theorem kl_L_63 : q_LV RL 63 yX7_part uX7_part 0 := ⟨⟨q_in (i := 748) (by decide +kernel) rfl, q_in (i := 749) (by decide +kernel) rfl, q_in (i := 750) (by decide +kernel) rfl, q_in (i := 26) (by decide +kernel) rfl, q_in (i := 751) (by decide +kernel) rfl⟩, by decide, by decide, by decide +kernel⟩
theorem kl_L_64 : q_LV RL 64 yX6_put uX6_put 1 := ⟨⟨q_in (i := 381) (by decide +kernel) rfl, q_in (i := 382) (by decide +kernel) rfl, q_in (i := 383) (by decide +kernel) rfl, q_in (i := 23) (by decide +kernel) rfl, q_in (i := 384) (by decide +kernel) rfl⟩, by decide, by decide, by decide +kernel⟩
theorem kl_L_67 : q_LV RL 67 yX7_put uX7_put 1 := ⟨⟨q_in (i := 752) (by decide +kernel) rfl, q_in (i := 753) (by decide +kernel) rfl, q_in (i := 754) (by decide +kernel) rfl, q_in (i := 26) (by decide +kernel) rfl, q_in (i := 755) (by decide +kernel) rfl⟩, by decide, by decide, by decide +kernel⟩
theorem kl_L_68 : q_LV RL 68 yX6_ramp uX6_ramp 3 := ⟨⟨q_in (i := 455) (by decide +kernel) rfl, q_in (i := 456) (by decide +kernel) rfl, q_in (i := 457) (by decide +kernel) rfl, q_in (i := 23) (by decide +kernel) rfl, q_in (i := 458) (by decide +kernel) rfl⟩, by decide, by decide, by decide +kernel⟩
theorem kl_L_71 : q_LV RL 71 yX7_ramp uX7_ramp 3 := ⟨⟨q_in (i := 776) (by decide +kernel) rfl, q_in (i := 777) (by decide +kernel) rfl, q_in (i := 778) (by decide +kernel) rfl, q_in (i := 26) (by decide +kernel) rfl, q_in (i := 779) (by decide +kernel) rfl⟩, by decide, by decide, by decide +kernel⟩
theorem kl_L_72 : q_LV RL 72 yX6_out uX6_out 1 := ⟨⟨q_in (i := 459) (by decide +kernel) rfl, q_in (i := 460) (by decide +kernel) rfl, q_in (i := 461) (by decide +kernel) rfl, q_in (i := 23) (by decide +kernel) rfl, q_in (i := 462) (by decide +kernel) rfl⟩, by decide, by decide, by decide +kernel⟩
theorem kl_L_75 : q_LV RL 75 yX7_out uX7_out 1 := ⟨⟨q_in (i := 781) (by decide +kernel) rfl, q_in (i := 782) (by decide +kernel) rfl, q_in (i := 783) (by decide +kernel) rfl, q_in (i := 26) (by decide +kernel) rfl, q_in (i := 784) (by decide +kernel) rfl⟩, by decide, by decide, by decide +kernel⟩
theorem kl_L_76 : q_LV RL 76 yX6_empty uX6_empty 0 := ⟨⟨q_in (i := 472) (by decide +kernel) rfl, q_in (i := 473) (by decide +kernel) rfl, q_in (i := 474) (by decide +kernel) rfl, q_in (i := 23) (by decide +kernel) rfl, q_in (i := 475) (by decide +kernel) rfl⟩, by decide, by decide, by decide +kernel⟩
theorem kl_L_79 : q_LV RL 79 yX7_empty uX7_empty 0 := ⟨⟨q_in (i := 785) (by decide +kernel) rfl, q_in (i := 786) (by decide +kernel) rfl, q_in (i := 787) (by decide +kernel) rfl, q_in (i := 26) (by decide +kernel) rfl, q_in (i := 788) (by decide +kernel) rfl⟩, by decide, by decide, by decide +kernel⟩
theorem kl_L_80 : q_LV RL 80 yX6_reset uX6_reset 0 := ⟨⟨q_in (i := 476) (by decide +kernel) rfl, q_in (i := 477) (by decide +kernel) rfl, q_in (i := 478) (by decide +kernel) rfl, q_in (i := 23) (by decide +kernel) rfl, q_in (i := 479) (by decide +kernel) rfl⟩, by decide, by decide, by decide +kernel⟩
theorem kl_L_83 : q_LV RL 83 yX7_reset uX7_reset 0 := ⟨⟨q_in (i := 789) (by decide +kernel) rfl, q_in (i := 790) (by decide +kernel) rfl, q_in (i := 791) (by decide +kernel) rfl, q_in (i := 26) (by decide +kernel) rfl, q_in (i := 792) (by decide +kernel) rfl⟩, by decide, by decide, by decide +kernel⟩
theorem kl_L_84 : q_LV RL 84 yX6_through uX6_through 2 := ⟨⟨q_in (i := 481) (by decide +kernel) rfl, q_in (i := 482) (by decide +kernel) rfl, q_in (i := 483) (by decide +kernel) rfl, q_in (i := 23) (by decide +kernel) rfl, q_in (i := 484) (by decide +kernel) rfl⟩, by decide, by decide, by decide +kernel⟩
theorem kl_L_87 : q_LV RL 87 yX7_through uX7_through 2 := ⟨⟨q_in (i := 793) (by decide +kernel) rfl, q_in (i := 794) (by decide +kernel) rfl, q_in (i := 795) (by decide +kernel) rfl, q_in (i := 26) (by decide +kernel) rfl, q_in (i := 796) (by decide +kernel) rfl⟩, by decide, by decide, by decide +kernel⟩
theorem kl_L_88 : q_LV RL 88 yX6_told uX6_told 2 := ⟨⟨q_in (i := 487) (by decide +kernel) rfl, q_in (i := 488) (by decide +kernel) rfl, q_in (i := 489) (by decide +kernel) rfl, q_in (i := 23) (by decide +kernel) rfl, q_in (i := 490) (by decide +kernel) rfl⟩, by decide, by decide, by decide +kernel⟩
theorem kl_L_92 : q_LV RL 92 yX7_told uX7_told 2 := ⟨⟨q_in (i := 798) (by decide +kernel) rfl, q_in (i := 799) (by decide +kernel) rfl, q_in (i := 800) (by decide +kernel) rfl, q_in (i := 26) (by decide +kernel) rfl, q_in (i := 801) (by decide +kernel) rfl⟩, by decide, by decide, by decide +kernel⟩
theorem kl_L_93 : q_LV RL 93 yX6_near uX6_near 1 := ⟨⟨q_in (i := 492) (by decide +kernel) rfl, q_in (i := 493) (by decide +kernel) rfl, q_in (i := 494) (by decide +kernel) rfl, q_in (i := 23) (by decide +kernel) rfl, q_in (i := 495) (by decide +kernel) rfl⟩, by decide, by decide, by decide +kernel⟩
theorem kl_L_96 : q_LV RL 96 yX7_near uX7_near 1 := ⟨⟨q_in (i := 806) (by decide +kernel) rfl, q_in (i := 807) (by decide +kernel) rfl, q_in (i := 808) (by decide +kernel) rfl, q_in (i := 26) (by decide +kernel) rfl, q_in (i := 809) (by decide +kernel) rfl⟩, by decide, by decide, by decide +kernel⟩
theorem kl_L_97 : q_LV RL 97 yX6_counted uX6_counted 2 := ⟨⟨q_in (i := 502) (by decide +kernel) rfl, q_in (i := 503) (by decide +kernel) rfl, q_in (i := 504) (by decide +kernel) rfl, q_in (i := 23) (by decide +kernel) rfl, q_in (i := 505) (by decide +kernel) rfl⟩, by decide, by decide, by decide +kernel⟩
theorem kl_L_100 : q_LV RL 100 yX7_counted uX7_counted 2 := ⟨⟨q_in (i := 810) (by decide +kernel) rfl, q_in (i := 811) (by decide +kernel) rfl, q_in (i := 812) (by decide +kernel) rfl, q_in (i := 26) (by decide +kernel) rfl, q_in (i := 813) (by decide +kernel) rfl⟩, by decide, by decide, by decide +kernel⟩
theorem kl_L_101 : q_LV RL 101 yX6_count uX6_count 1 := ⟨⟨q_in (i := 506) (by decide +kernel) rfl, q_in (i := 507) (by decide +kernel) rfl, q_in (i := 508) (by decide +kernel) rfl, q_in (i := 23) (by decide +kernel) rfl, q_in (i := 509) (by decide +kernel) rfl⟩, by decide, by decide, by decide +kernel⟩
theorem kl_L_104 : q_LV RL 104 yX7_count uX7_count 1 := ⟨⟨q_in (i := 814) (by decide +kernel) rfl, q_in (i := 815) (by decide +kernel) rfl, q_in (i := 816) (by decide +kernel) rfl, q_in (i := 26) (by decide +kernel) rfl, q_in (i := 817) (by decide +kernel) rfl⟩, by decide, by decide, by decide +kernel⟩
theorem kl_L_105 : q_LV RL 105 yX6_digest uX6_digest 0 := ⟨⟨q_in (i := 510) (by decide +kernel) rfl, q_in (i := 511) (by decide +kernel) rfl, q_in (i := 512) (by decide +kernel) rfl, q_in (i := 23) (by decide +kernel) rfl, q_in (i := 513) (by decide +kernel) rfl⟩, by decide, by decide, by decide +kernel⟩
theorem kl_L_109 : q_LV RL 109 yX7_digest uX7_digest 0 := ⟨⟨q_in (i := 818) (by decide +kernel) rfl, q_in (i := 819) (by decide +kernel) rfl, q_in (i := 820) (by decide +kernel) rfl, q_in (i := 26) (by decide +kernel) rfl, q_in (i := 821) (by decide +kernel) rfl⟩, by decide, by decide, by decide +kernel⟩
theorem ni_X0 : Cond.instantiable RX0 7 ∈ q_tb := q_in (i := 148) (by decide +kernel) rfl
theorem nz_X0 : Cond.initialized RX0 ∈ q_tb := q_in (i := 29) (by decide +kernel) rfl
theorem ni_X1 : Cond.instantiable RX1 6 ∈ q_tb := q_in (i := 116) (by decide +kernel) rfl
theorem nz_X1 : Cond.initialized RX1 ∈ q_tb := q_in (i := 28) (by decide +kernel) rfl
theorem ni_X2 : Cond.instantiable RX2 2 ∈ q_tb := q_in (i := 182) (by decide +kernel) rfl
theorem nz_X2 : Cond.initialized RX2 ∈ q_tb := q_in (i := 30) (by decide +kernel) rfl
theorem ni_X3 : Cond.instantiable RX3 2 ∈ q_tb := q_in (i := 63) (by decide +kernel) rfl
theorem nz_X3 : Cond.initialized RX3 ∈ q_tb := q_in (i := 25) (by decide +kernel) rfl
theorem ni_X4 : Cond.instantiable RX4 13 ∈ q_tb := q_in (i := 110) (by decide +kernel) rfl
theorem nz_X4 : Cond.initialized RX4 ∈ q_tb := q_in (i := 27) (by decide +kernel) rfl
theorem ni_X5 : Cond.instantiable RX5 3 ∈ q_tb := q_in (i := 43) (by decide +kernel) rfl
theorem nz_X5 : Cond.initialized RX5 ∈ q_tb := q_in (i := 24) (by decide +kernel) rfl
theorem ni_X6 : Cond.instantiable RX6 7 ∈ q_tb := q_in (i := 33) (by decide +kernel) rfl
theorem nz_X6 : Cond.initialized RX6 ∈ q_tb := q_in (i := 23) (by decide +kernel) rfl
theorem ni_X7 : Cond.instantiable RX7 31 ∈ q_tb := q_in (i := 530) (by decide +kernel) rfl
theorem nz_X7 : Cond.initialized RX7 ∈ q_tb := q_in (i := 26) (by decide +kernel) rfl
theorem na_int : Cond.arrayClass .int ∈ q_tb := q_in (i := 60) (by decide +kernel) rfl
theorem na_short : Cond.arrayClass .short ∈ q_tb := q_in (i := 61) (by decide +kernel) rfl
theorem na_boolean : Cond.arrayClass .boolean ∈ q_tb := q_in (i := 629) (by decide +kernel) rfl
theorem na_long : Cond.arrayClass .long ∈ q_tb := q_in (i := 630) (by decide +kernel) rfl
theorem ko_1 : Cond.instanceMethod objectInit ∈ q_tb := q_in (i := 38) (by decide +kernel) rfl
theorem ko_2 : Cond.code objectInit ⟨#[0xb1]⟩ 1 none ∈ q_tb := q_in (i := 39) (by decide +kernel) rfl
abbrev dfX0 : List Value := [.int 0, .long 0, .long 0, .long 0, .int 0, .long 0, .int 0]
theorem dfX0_ok (d : q_D) : ∀ j, j < 7 → defaultValue (tyX0 j) = vp_V (dfX0.map (q_v d)) j
  | 0, _ => rfl
  | 1, _ => rfl
  | 2, _ => rfl
  | 3, _ => rfl
  | 4, _ => rfl
  | 5, _ => rfl
  | 6, _ => rfl
  | j + 7, h => absurd h (by omega)
abbrev dfX1 : List Value := [.int 0, .int 0, .int 0, .int 0, .long 0, .null]
theorem dfX1_ok (d : q_D) : ∀ j, j < 6 → defaultValue (tyX1 j) = vp_V (dfX1.map (q_v d)) j
  | 0, _ => rfl
  | 1, _ => rfl
  | 2, _ => rfl
  | 3, _ => rfl
  | 4, _ => rfl
  | 5, _ => rfl
  | j + 6, h => absurd h (by omega)
abbrev dfX2 : List Value := [.null, .int 0]
theorem dfX2_ok (d : q_D) : ∀ j, j < 2 → defaultValue (tyX2 j) = vp_V (dfX2.map (q_v d)) j
  | 0, _ => rfl
  | 1, _ => rfl
  | j + 2, h => absurd h (by omega)
abbrev dfX3 : List Value := [.null, .int 0]
theorem dfX3_ok (d : q_D) : ∀ j, j < 2 → defaultValue (tyX3 j) = vp_V (dfX3.map (q_v d)) j
  | 0, _ => rfl
  | 1, _ => rfl
  | j + 2, h => absurd h (by omega)
abbrev dfX4 : List Value := [.int 0, .int 0, .null, .int 0, .int 0, .int 0, .null, .null, .null, .int 0, .long 0, .long 0, .long 0]
theorem dfX4_ok (d : q_D) : ∀ j, j < 13 → defaultValue (tyX4 j) = vp_V (dfX4.map (q_v d)) j
  | 0, _ => rfl
  | 1, _ => rfl
  | 2, _ => rfl
  | 3, _ => rfl
  | 4, _ => rfl
  | 5, _ => rfl
  | 6, _ => rfl
  | 7, _ => rfl
  | 8, _ => rfl
  | 9, _ => rfl
  | 10, _ => rfl
  | 11, _ => rfl
  | 12, _ => rfl
  | j + 13, h => absurd h (by omega)
abbrev dfX5 : List Value := [.null, .int 0, .int 0]
theorem dfX5_ok (d : q_D) : ∀ j, j < 3 → defaultValue (tyX5 j) = vp_V (dfX5.map (q_v d)) j
  | 0, _ => rfl
  | 1, _ => rfl
  | 2, _ => rfl
  | j + 3, h => absurd h (by omega)
abbrev dfX6 : List Value := [.null, .int 0, .null, .int 0, .null, .null, .null]
theorem dfX6_ok (d : q_D) : ∀ j, j < 7 → defaultValue (tyX6 j) = vp_V (dfX6.map (q_v d)) j
  | 0, _ => rfl
  | 1, _ => rfl
  | 2, _ => rfl
  | 3, _ => rfl
  | 4, _ => rfl
  | 5, _ => rfl
  | 6, _ => rfl
  | j + 7, h => absurd h (by omega)
abbrev dfX7 : List Value := [.int 0, .null, .null, .null, .null, .null, .null, .null, .null, .null, .null, .null, .null, .null, .null, .null, .null, .null, .null, .null, .null, .null, .null, .null, .int 0, .null, .int 0, .null, .int 0, .null, .null]
theorem dfX7_ok (d : q_D) : ∀ j, j < 31 → defaultValue (tyX7 j) = vp_V (dfX7.map (q_v d)) j
  | 0, _ => rfl
  | 1, _ => rfl
  | 2, _ => rfl
  | 3, _ => rfl
  | 4, _ => rfl
  | 5, _ => rfl
  | 6, _ => rfl
  | 7, _ => rfl
  | 8, _ => rfl
  | 9, _ => rfl
  | 10, _ => rfl
  | 11, _ => rfl
  | 12, _ => rfl
  | 13, _ => rfl
  | 14, _ => rfl
  | 15, _ => rfl
  | 16, _ => rfl
  | 17, _ => rfl
  | 18, _ => rfl
  | 19, _ => rfl
  | 20, _ => rfl
  | 21, _ => rfl
  | 22, _ => rfl
  | 23, _ => rfl
  | 24, _ => rfl
  | 25, _ => rfl
  | 26, _ => rfl
  | 27, _ => rfl
  | 28, _ => rfl
  | 29, _ => rfl
  | 30, _ => rfl
  | j + 31, h => absurd h (by omega)
