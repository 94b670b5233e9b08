-- ===== PART A: goes FIRST, ahead of the names: the tables' words, and 'selects' of the private methods out of them =====
/-- a private method of a class that the tables say can be made, by its rows of tables_1 -/
def lw_okq (q : MethodName × Nat) : Prop := (q.1.cls ≠ "java/lang/invoke/MethodHandle" ∧ q.1.cls ≠ "java/lang/invoke/VarHandle") ∧ Cond.instantiable q.1.cls q.2 ∈ tables_1 ∧ Cond.privateMethod q.1 ∈ tables_1 ∧ Cond.instanceMethod q.1 ∈ tables_1
theorem lw_p0 : lw_okq (⟨"FirChain", "find", "(I)LFirChain$Stage;"⟩, 7) := ⟨⟨by decide +kernel, by decide +kernel⟩, List.mem_of_getElem? (i := 11) (by decide +kernel), List.mem_of_getElem? (i := 227) (by decide +kernel), List.mem_of_getElem? (i := 228) (by decide +kernel)⟩
theorem lw_p1 : lw_okq (⟨"FirChain", "unplan", "(ILFirChain$Stage;)V"⟩, 7) := ⟨⟨by decide +kernel, by decide +kernel⟩, List.mem_of_getElem? (i := 11) (by decide +kernel), List.mem_of_getElem? (i := 236) (by decide +kernel), List.mem_of_getElem? (i := 237) (by decide +kernel)⟩
theorem lw_p2 : lw_okq (⟨"FirChain", "placeOf", "(I)I"⟩, 7) := ⟨⟨by decide +kernel, by decide +kernel⟩, List.mem_of_getElem? (i := 11) (by decide +kernel), List.mem_of_getElem? (i := 244) (by decide +kernel), List.mem_of_getElem? (i := 245) (by decide +kernel)⟩
theorem lw_p3 : lw_okq (⟨"FirChain", "filledByChain", "()I"⟩, 7) := ⟨⟨by decide +kernel, by decide +kernel⟩, List.mem_of_getElem? (i := 11) (by decide +kernel), List.mem_of_getElem? (i := 348) (by decide +kernel), List.mem_of_getElem? (i := 349) (by decide +kernel)⟩
theorem lw_p4 : lw_okq (⟨"FirChain", "send", "(I)I"⟩, 7) := ⟨⟨by decide +kernel, by decide +kernel⟩, List.mem_of_getElem? (i := 11) (by decide +kernel), List.mem_of_getElem? (i := 367) (by decide +kernel), List.mem_of_getElem? (i := 368) (by decide +kernel)⟩
theorem lw_p5 : lw_okq (⟨"FirChain$Stage", "comesOut", "()Z"⟩, 13) := ⟨⟨by decide +kernel, by decide +kernel⟩, List.mem_of_getElem? (i := 88) (by decide +kernel), List.mem_of_getElem? (i := 424) (by decide +kernel), List.mem_of_getElem? (i := 425) (by decide +kernel)⟩
theorem lw_p6 : lw_okq (⟨"FirChainModel", "isStage", "(I)Z"⟩, 31) := ⟨⟨by decide +kernel, by decide +kernel⟩, List.mem_of_getElem? (i := 508) (by decide +kernel), List.mem_of_getElem? (i := 625) (by decide +kernel), List.mem_of_getElem? (i := 626) (by decide +kernel)⟩
theorem lw_p7 : lw_okq (⟨"FirChainModel", "unplan", "(I)V"⟩, 31) := ⟨⟨by decide +kernel, by decide +kernel⟩, List.mem_of_getElem? (i := 508) (by decide +kernel), List.mem_of_getElem? (i := 633) (by decide +kernel), List.mem_of_getElem? (i := 634) (by decide +kernel)⟩
theorem lw_p8 : lw_okq (⟨"FirChainModel", "placeOf", "(I)I"⟩, 31) := ⟨⟨by decide +kernel, by decide +kernel⟩, List.mem_of_getElem? (i := 508) (by decide +kernel), List.mem_of_getElem? (i := 637) (by decide +kernel), List.mem_of_getElem? (i := 638) (by decide +kernel)⟩
theorem lw_p9 : lw_okq (⟨"FirChainModel", "isPlan", "(III)Z"⟩, 31) := ⟨⟨by decide +kernel, by decide +kernel⟩, List.mem_of_getElem? (i := 508) (by decide +kernel), List.mem_of_getElem? (i := 655) (by decide +kernel), List.mem_of_getElem? (i := 656) (by decide +kernel)⟩
theorem lw_p10 : lw_okq (⟨"FirChainModel", "isSafe", "(IIII)Z"⟩, 31) := ⟨⟨by decide +kernel, by decide +kernel⟩, List.mem_of_getElem? (i := 508) (by decide +kernel), List.mem_of_getElem? (i := 662) (by decide +kernel), List.mem_of_getElem? (i := 663) (by decide +kernel)⟩
theorem lw_p11 : lw_okq (⟨"FirChainModel", "factorAt", "(III)J"⟩, 31) := ⟨⟨by decide +kernel, by decide +kernel⟩, List.mem_of_getElem? (i := 508) (by decide +kernel), List.mem_of_getElem? (i := 666) (by decide +kernel), List.mem_of_getElem? (i := 667) (by decide +kernel)⟩
theorem lw_p12 : lw_okq (⟨"FirChainModel", "plans", "(IIII)I"⟩, 31) := ⟨⟨by decide +kernel, by decide +kernel⟩, List.mem_of_getElem? (i := 508) (by decide +kernel), List.mem_of_getElem? (i := 681) (by decide +kernel), List.mem_of_getElem? (i := 682) (by decide +kernel)⟩
theorem lw_p13 : lw_okq (⟨"FirChainModel", "forgets", "(I)V"⟩, 31) := ⟨⟨by decide +kernel, by decide +kernel⟩, List.mem_of_getElem? (i := 508) (by decide +kernel), List.mem_of_getElem? (i := 685) (by decide +kernel), List.mem_of_getElem? (i := 686) (by decide +kernel)⟩
theorem lw_p14 : lw_okq (⟨"FirChainModel", "aboutOf", "(II)I"⟩, 31) := ⟨⟨by decide +kernel, by decide +kernel⟩, List.mem_of_getElem? (i := 508) (by decide +kernel), List.mem_of_getElem? (i := 703) (by decide +kernel), List.mem_of_getElem? (i := 704) (by decide +kernel)⟩
theorem lw_p15 : lw_okq (⟨"FirChainModel", "mirrored", "(I)I"⟩, 31) := ⟨⟨by decide +kernel, by decide +kernel⟩, List.mem_of_getElem? (i := 508) (by decide +kernel), List.mem_of_getElem? (i := 707) (by decide +kernel), List.mem_of_getElem? (i := 708) (by decide +kernel)⟩
def lw_privs_1 : List (MethodName × Nat) := [(⟨"FirChain", "find", "(I)LFirChain$Stage;"⟩, 7), (⟨"FirChain", "unplan", "(ILFirChain$Stage;)V"⟩, 7), (⟨"FirChain", "placeOf", "(I)I"⟩, 7), (⟨"FirChain", "filledByChain", "()I"⟩, 7), (⟨"FirChain", "send", "(I)I"⟩, 7), (⟨"FirChain$Stage", "comesOut", "()Z"⟩, 13), (⟨"FirChainModel", "isStage", "(I)Z"⟩, 31), (⟨"FirChainModel", "unplan", "(I)V"⟩, 31), (⟨"FirChainModel", "placeOf", "(I)I"⟩, 31), (⟨"FirChainModel", "isPlan", "(III)Z"⟩, 31), (⟨"FirChainModel", "isSafe", "(IIII)Z"⟩, 31), (⟨"FirChainModel", "factorAt", "(III)J"⟩, 31), (⟨"FirChainModel", "plans", "(IIII)I"⟩, 31), (⟨"FirChainModel", "forgets", "(I)V"⟩, 31), (⟨"FirChainModel", "aboutOf", "(II)I"⟩, 31), (⟨"FirChainModel", "mirrored", "(I)I"⟩, 31)]
theorem lw_r1 : ∀ q ∈ lw_privs_1, lw_okq q := List.forall_mem_cons.mpr ⟨lw_p0, List.forall_mem_cons.mpr ⟨lw_p1, List.forall_mem_cons.mpr ⟨lw_p2, List.forall_mem_cons.mpr ⟨lw_p3, List.forall_mem_cons.mpr ⟨lw_p4, List.forall_mem_cons.mpr ⟨lw_p5, List.forall_mem_cons.mpr ⟨lw_p6, List.forall_mem_cons.mpr ⟨lw_p7, List.forall_mem_cons.mpr ⟨lw_p8, List.forall_mem_cons.mpr ⟨lw_p9, List.forall_mem_cons.mpr ⟨lw_p10, List.forall_mem_cons.mpr ⟨lw_p11, List.forall_mem_cons.mpr ⟨lw_p12, List.forall_mem_cons.mpr ⟨lw_p13, List.forall_mem_cons.mpr ⟨lw_p14, List.forall_mem_cons.mpr ⟨lw_p15, fun _ h => absurd h List.not_mem_nil⟩⟩⟩⟩⟩⟩⟩⟩⟩⟩⟩⟩⟩⟩⟩⟩
theorem lw_p16 : lw_okq (⟨"FirChainModel", "normOf", "(I)J"⟩, 31) := ⟨⟨by decide +kernel, by decide +kernel⟩, List.mem_of_getElem? (i := 508) (by decide +kernel), List.mem_of_getElem? (i := 715) (by decide +kernel), List.mem_of_getElem? (i := 716) (by decide +kernel)⟩
theorem lw_p17 : lw_okq (⟨"FirChainModel", "filled", "(I)I"⟩, 31) := ⟨⟨by decide +kernel, by decide +kernel⟩, List.mem_of_getElem? (i := 508) (by decide +kernel), List.mem_of_getElem? (i := 723) (by decide +kernel), List.mem_of_getElem? (i := 724) (by decide +kernel)⟩
theorem lw_p18 : lw_okq (⟨"FirChainModel", "puts", "(I)I"⟩, 31) := ⟨⟨by decide +kernel, by decide +kernel⟩, List.mem_of_getElem? (i := 508) (by decide +kernel), List.mem_of_getElem? (i := 740) (by decide +kernel), List.mem_of_getElem? (i := 741) (by decide +kernel)⟩
theorem lw_p19 : lw_okq (⟨"FirChainModel", "goes", "(II)I"⟩, 31) := ⟨⟨by decide +kernel, by decide +kernel⟩, List.mem_of_getElem? (i := 508) (by decide +kernel), List.mem_of_getElem? (i := 744) (by decide +kernel), List.mem_of_getElem? (i := 745) (by decide +kernel)⟩
theorem lw_p20 : lw_okq (⟨"FirChainModel", "comes", "(II)I"⟩, 31) := ⟨⟨by decide +kernel, by decide +kernel⟩, List.mem_of_getElem? (i := 508) (by decide +kernel), List.mem_of_getElem? (i := 748) (by decide +kernel), List.mem_of_getElem? (i := 749) (by decide +kernel)⟩
theorem lw_p21 : lw_okq (⟨"FirChainModel", "hasTold", "(I)Z"⟩, 31) := ⟨⟨by decide +kernel, by decide +kernel⟩, List.mem_of_getElem? (i := 508) (by decide +kernel), List.mem_of_getElem? (i := 781) (by decide +kernel), List.mem_of_getElem? (i := 782) (by decide +kernel)⟩
def lw_privs_2 : List (MethodName × Nat) := [(⟨"FirChainModel", "normOf", "(I)J"⟩, 31), (⟨"FirChainModel", "filled", "(I)I"⟩, 31), (⟨"FirChainModel", "puts", "(I)I"⟩, 31), (⟨"FirChainModel", "goes", "(II)I"⟩, 31), (⟨"FirChainModel", "comes", "(II)I"⟩, 31), (⟨"FirChainModel", "hasTold", "(I)Z"⟩, 31)]
theorem lw_r2 : ∀ q ∈ lw_privs_2, lw_okq q := List.forall_mem_cons.mpr ⟨lw_p16, List.forall_mem_cons.mpr ⟨lw_p17, List.forall_mem_cons.mpr ⟨lw_p18, List.forall_mem_cons.mpr ⟨lw_p19, List.forall_mem_cons.mpr ⟨lw_p20, List.forall_mem_cons.mpr ⟨lw_p21, fun _ h => absurd h List.not_mem_nil⟩⟩⟩⟩⟩⟩
def lw_privs : List (MethodName × Nat) := lw_privs_1 ++ (lw_privs_2)
def lw_tbl : List Cond := k2_sels lw_privs ++ tables_1
theorem lw_privs_ok : ∀ q ∈ lw_privs, lw_okq q := by
  show ∀ q ∈ lw_privs_1 ++ (lw_privs_2), lw_okq q
  exact List.forall_mem_append.mpr ⟨lw_r1, lw_r2⟩
def RX0 : String := "FirChain$Latest"
def TX0 : u_T := fun k => match k with
  | 0 => ("FirChain$Latest", "stands", "Z", false)
  | 1 => ("FirChain$Latest", "sum", "J", false)
  | 2 => ("FirChain$Latest", "exact", "J", false)
  | 3 => ("FirChain$Latest", "rounded", "J", false)
  | 4 => ("FirChain$Latest", "output", "I", false)
  | 5 => ("FirChain$Latest", "sampleSizes", "J", false)
  | _ => ("FirChain$Latest", "roundedBy", "I", false)
def tyX0 : Nat → FieldType := fun k => match k with
  | 0 => .boolean
  | 1 => .long
  | 2 => .long
  | 3 => .long
  | 4 => .int
  | 5 => .long
  | _ => .int
abbrev wsX00 : List Cond := u_ws RX0 TX0 7
theorem nmX0 : ∀ a, a < 7 → ∀ b, b < 7 → a ≠ b → (TX0 a).2.1 ≠ (TX0 b).2.1 := by decide +kernel
theorem tyX0_ok : ∀ k, k < 7 → parseFieldDescriptor (TX0 k).2.2.1 = some (tyX0 k) := by decide +kernel
abbrev cX0_init : ByteArray := prog_2_method_1_code
def yX0_init : MethodName := ⟨RX0, "<init>", "()V"⟩
abbrev cX0_keepSums : ByteArray := prog_2_method_2_code
def yX0_keepSums : MethodName := ⟨RX0, "keepSums", "(JJJ)V"⟩
abbrev cX0_keepOutput : ByteArray := prog_2_method_3_code
def yX0_keepOutput : MethodName := ⟨RX0, "keepOutput", "(JII)V"⟩
abbrev cX0_isWithinBound : ByteArray := prog_2_method_4_code
def yX0_isWithinBound : MethodName := ⟨RX0, "isWithinBound", "(II)Z"⟩
def RX1 : String := "FirChain$Plan"
def TX1 : u_T := fun k => match k with
  | 0 => ("FirChain$Plan", "stands", "Z", false)
  | 1 => ("FirChain$Plan", "bits", "I", false)
  | 2 => ("FirChain$Plan", "word", "I", false)
  | 3 => ("FirChain$Plan", "shift", "I", false)
  | 4 => ("FirChain$Plan", "sizes", "J", false)
  | _ => ("FirChain$Plan", "factors", "[I", true)
def tyX1 : Nat → FieldType := fun k => match k with
  | 0 => .boolean
  | 1 => .int
  | 2 => .int
  | 3 => .int
  | 4 => .long
  | _ => .array .int
abbrev wsX10 : List Cond := u_ws RX1 TX1 6
theorem nmX1 : ∀ a, a < 6 → ∀ b, b < 6 → a ≠ b → (TX1 a).2.1 ≠ (TX1 b).2.1 := by decide +kernel
theorem tyX1_ok : ∀ k, k < 6 → parseFieldDescriptor (TX1 k).2.2.1 = some (tyX1 k) := by decide +kernel
abbrev cX1_init : ByteArray := prog_3_method_1_code
def yX1_init : MethodName := ⟨RX1, "<init>", "()V"⟩
abbrev cX1_begin : ByteArray := prog_3_method_2_code
def yX1_begin : MethodName := ⟨RX1, "begin", "(III)V"⟩
abbrev cX1_setFactor : ByteArray := prog_3_method_3_code
def yX1_setFactor : MethodName := ⟨RX1, "setFactor", "(II)V"⟩
abbrev cX1_factor : ByteArray := prog_3_method_4_code
def yX1_factor : MethodName := ⟨RX1, "factor", "(I)I"⟩
def RX2 : String := "FirChain$Ring"
def TX2 : u_T := fun k => match k with
  | 0 => ("FirChain$Ring", "words", "[S", true)
  | _ => ("FirChain$Ring", "head", "I", false)
def tyX2 : Nat → FieldType := fun k => match k with
  | 0 => .array .short
  | _ => .int
abbrev wsX20 : List Cond := u_ws RX2 TX2 2
theorem nmX2 : ∀ a, a < 2 → ∀ b, b < 2 → a ≠ b → (TX2 a).2.1 ≠ (TX2 b).2.1 := by decide +kernel
theorem tyX2_ok : ∀ k, k < 2 → parseFieldDescriptor (TX2 k).2.2.1 = some (tyX2 k) := by decide +kernel
abbrev cX2_init : ByteArray := prog_4_method_1_code
def yX2_init : MethodName := ⟨RX2, "<init>", "()V"⟩
abbrev cX2_push : ByteArray := prog_4_method_2_code
def yX2_push : MethodName := ⟨RX2, "push", "(I)V"⟩
abbrev cX2_back : ByteArray := prog_4_method_3_code
def yX2_back : MethodName := ⟨RX2, "back", "(I)I"⟩
abbrev cX2_clear : ByteArray := prog_4_method_4_code
def yX2_clear : MethodName := ⟨RX2, "clear", "()V"⟩
def RX3 : String := "FirChain$Row"
def TX3 : u_T := fun k => match k with
  | 0 => ("FirChain$Row", "samples", "[I", true)
  | _ => ("FirChain$Row", "length", "I", false)
def tyX3 : Nat → FieldType := fun k => match k with
  | 0 => .array .int
  | _ => .int
abbrev wsX30 : List Cond := u_ws RX3 TX3 2
theorem nmX3 : ∀ a, a < 2 → ∀ b, b < 2 → a ≠ b → (TX3 a).2.1 ≠ (TX3 b).2.1 := by decide +kernel
theorem tyX3_ok : ∀ k, k < 2 → parseFieldDescriptor (TX3 k).2.2.1 = some (tyX3 k) := by decide +kernel
abbrev cX3_init : ByteArray := prog_5_method_1_code
def yX3_init : MethodName := ⟨RX3, "<init>", "()V"⟩
abbrev cX3_clear : ByteArray := prog_5_method_2_code
def yX3_clear : MethodName := ⟨RX3, "clear", "()V"⟩
abbrev cX3_add : ByteArray := prog_5_method_3_code
def yX3_add : MethodName := ⟨RX3, "add", "(I)V"⟩
abbrev cX3_at : ByteArray := prog_5_method_4_code
def yX3_at : MethodName := ⟨RX3, "at", "(I)I"⟩
def RX4 : String := "FirChain$Stage"
def TX4 : u_T := fun k => match k with
  | 0 => ("FirChain$Stage", "below", "I", true)
  | 1 => ("FirChain$Stage", "by", "I", true)
  | 2 => ("FirChain$Stage", "taps", "[I", true)
  | 3 => ("FirChain$Stage", "tapCount", "I", false)
  | 4 => ("FirChain$Stage", "way", "I", false)
  | 5 => ("FirChain$Stage", "wraps", "Z", false)
  | 6 => ("FirChain$Stage", "plan", "LFirChain$Plan;", true)
  | 7 => ("FirChain$Stage", "latest", "LFirChain$Latest;", true)
  | 8 => ("FirChain$Stage", "ring", "LFirChain$Ring;", true)
  | 9 => ("FirChain$Stage", "toThin", "I", false)
  | 10 => ("FirChain$Stage", "cameIn", "J", false)
  | 11 => ("FirChain$Stage", "heldCount", "J", false)
  | _ => ("FirChain$Stage", "greatestSum", "J", false)
def tyX4 : Nat → FieldType := fun k => match k with
  | 0 => .int
  | 1 => .int
  | 2 => .array .int
  | 3 => .int
  | 4 => .int
  | 5 => .boolean
  | 6 => .object "FirChain$Plan"
  | 7 => .object "FirChain$Latest"
  | 8 => .object "FirChain$Ring"
  | 9 => .int
  | 10 => .long
  | 11 => .long
  | _ => .long
abbrev wsX40 : List Cond := u_ws RX4 TX4 13
theorem nmX4 : ∀ a, a < 13 → ∀ b, b < 13 → a ≠ b → (TX4 a).2.1 ≠ (TX4 b).2.1 := by decide +kernel
theorem tyX4_ok : ∀ k, k < 13 → parseFieldDescriptor (TX4 k).2.2.1 = some (tyX4 k) := by decide +kernel
abbrev cX4_init : ByteArray := prog_6_method_1_code
def yX4_init : MethodName := ⟨RX4, "<init>", "(II)V"⟩
abbrev cX4_hasTap : ByteArray := prog_6_method_2_code
def yX4_hasTap : MethodName := ⟨RX4, "hasTap", "(I)Z"⟩
abbrev cX4_tapAt : ByteArray := prog_6_method_3_code
def yX4_tapAt : MethodName := ⟨RX4, "tapAt", "(I)I"⟩
abbrev cX4_setTap : ByteArray := prog_6_method_4_code
def yX4_setTap : MethodName := ⟨RX4, "setTap", "(II)V"⟩
abbrev cX4_addTap : ByteArray := prog_6_method_5_code
def yX4_addTap : MethodName := ⟨RX4, "addTap", "(I)Z"⟩
abbrev cX4_filling : ByteArray := prog_6_method_6_code
def yX4_filling : MethodName := ⟨RX4, "filling", "()I"⟩
abbrev cX4_symmetry : ByteArray := prog_6_method_7_code
def yX4_symmetry : MethodName := ⟨RX4, "symmetry", "()I"⟩
abbrev cX4_isSafe : ByteArray := prog_6_method_8_code
def yX4_isSafe : MethodName := ⟨RX4, "isSafe", "(III)Z"⟩
abbrev cX4_setPlan : ByteArray := prog_6_method_9_code
def yX4_setPlan : MethodName := ⟨RX4, "setPlan", "(III)V"⟩
abbrev cX4_dropPlan : ByteArray := prog_6_method_10_code
def yX4_dropPlan : MethodName := ⟨RX4, "dropPlan", "()V"⟩
abbrev cX4_forget : ByteArray := prog_6_method_11_code
def yX4_forget : MethodName := ⟨RX4, "forget", "()V"⟩
abbrev cX4_pass : ByteArray := prog_6_method_12_code
def yX4_pass : MethodName := ⟨RX4, "pass", "(LFirChain$Row;LFirChain$Row;)V"⟩
abbrev cX4_comesOut : ByteArray := prog_6_method_13_code
def yX4_comesOut : MethodName := ⟨RX4, "comesOut", "()Z"⟩
abbrev cX4_take : ByteArray := prog_6_method_14_code
def yX4_take : MethodName := ⟨RX4, "take", "(I)I"⟩
abbrev cX4_mixRows : ByteArray := prog_6_method_15_code
def yX4_mixRows : MethodName := ⟨RX4, "mixRows", "(J)J"⟩
abbrev cX4_nearest : ByteArray := prog_6_method_16_code
def yX4_nearest : MethodName := ⟨RX4, "nearest", "(III)J"⟩
abbrev cX4_roundedSum : ByteArray := prog_6_method_17_code
def yX4_roundedSum : MethodName := ⟨RX4, "roundedSum", "(JII)J"⟩
abbrev cX4_heldNumber : ByteArray := prog_6_method_18_code
def yX4_heldNumber : MethodName := ⟨RX4, "heldNumber", "(JZ)I"⟩
abbrev cX4_isOdd : ByteArray := prog_6_method_19_code
def yX4_isOdd : MethodName := ⟨RX4, "isOdd", "(J)Z"⟩
def RX5 : String := "FirChain$Tape"
def TX5 : u_T := fun k => match k with
  | 0 => ("FirChain$Tape", "samples", "[S", true)
  | 1 => ("FirChain$Tape", "length", "I", false)
  | _ => ("FirChain$Tape", "lost", "I", false)
def tyX5 : Nat → FieldType := fun k => match k with
  | 0 => .array .short
  | 1 => .int
  | _ => .int
abbrev wsX50 : List Cond := u_ws RX5 TX5 3
theorem nmX5 : ∀ a, a < 3 → ∀ b, b < 3 → a ≠ b → (TX5 a).2.1 ≠ (TX5 b).2.1 := by decide +kernel
theorem tyX5_ok : ∀ k, k < 3 → parseFieldDescriptor (TX5 k).2.2.1 = some (tyX5 k) := by decide +kernel
abbrev cX5_init : ByteArray := prog_7_method_1_code
def yX5_init : MethodName := ⟨RX5, "<init>", "()V"⟩
abbrev cX5_add : ByteArray := prog_7_method_2_code
def yX5_add : MethodName := ⟨RX5, "add", "(I)V"⟩
abbrev cX5_has : ByteArray := prog_7_method_3_code
def yX5_has : MethodName := ⟨RX5, "has", "(I)Z"⟩
abbrev cX5_at : ByteArray := prog_7_method_4_code
def yX5_at : MethodName := ⟨RX5, "at", "(I)I"⟩
abbrev cX5_mixSamples : ByteArray := prog_7_method_5_code
def yX5_mixSamples : MethodName := ⟨RX5, "mixSamples", "(J)J"⟩
def RX6 : String := "FirChain"
def TX6 : u_T := fun k => match k with
  | 0 => ("FirChain", "stages", "[LFirChain$Stage;", true)
  | 1 => ("FirChain", "stageCount", "I", false)
  | 2 => ("FirChain", "chain", "[I", true)
  | 3 => ("FirChain", "chainLength", "I", false)
  | 4 => ("FirChain", "tape", "LFirChain$Tape;", true)
  | 5 => ("FirChain", "firstRow", "LFirChain$Row;", true)
  | _ => ("FirChain", "secondRow", "LFirChain$Row;", true)
def tyX6 : Nat → FieldType := fun k => match k with
  | 0 => .array (.object "FirChain$Stage")
  | 1 => .int
  | 2 => .array .int
  | 3 => .int
  | 4 => .object "FirChain$Tape"
  | 5 => .object "FirChain$Row"
  | _ => .object "FirChain$Row"
abbrev wsX60 : List Cond := u_ws RX6 TX6 7
theorem nmX6 : ∀ a, a < 7 → ∀ b, b < 7 → a ≠ b → (TX6 a).2.1 ≠ (TX6 b).2.1 := by decide +kernel
theorem tyX6_ok : ∀ k, k < 7 → parseFieldDescriptor (TX6 k).2.2.1 = some (tyX6 k) := by decide +kernel
abbrev cX6_init : ByteArray := prog_1_method_1_code
def yX6_init : MethodName := ⟨RX6, "<init>", "()V"⟩
abbrev cX6_stage : ByteArray := prog_1_method_2_code
def yX6_stage : MethodName := ⟨RX6, "stage", "(II)I"⟩
abbrev cX6_tap : ByteArray := prog_1_method_3_code
def yX6_tap : MethodName := ⟨RX6, "tap", "(II)I"⟩
abbrev cX6_change : ByteArray := prog_1_method_4_code
def yX6_change : MethodName := ⟨RX6, "change", "(III)I"⟩
abbrev cX6_way : ByteArray := prog_1_method_5_code
def yX6_way : MethodName := ⟨RX6, "way", "(IIZ)I"⟩
abbrev cX6_plan : ByteArray := prog_1_method_6_code
def yX6_plan : MethodName := ⟨RX6, "plan", "(III)I"⟩
abbrev cX6_planAt : ByteArray := prog_1_method_7_code
def yX6_planAt : MethodName := ⟨RX6, "planAt", "(IIII)I"⟩
abbrev cX6_coefficient : ByteArray := prog_1_method_8_code
def yX6_coefficient : MethodName := ⟨RX6, "coefficient", "(II)I"⟩
abbrev cX6_about : ByteArray := prog_1_method_9_code
def yX6_about : MethodName := ⟨RX6, "about", "(II)I"⟩
abbrev cX6_norm : ByteArray := prog_1_method_10_code
def yX6_norm : MethodName := ⟨RX6, "norm", "(I)J"⟩
abbrev cX6_join : ByteArray := prog_1_method_11_code
def yX6_join : MethodName := ⟨RX6, "join", "(I)I"⟩
abbrev cX6_part : ByteArray := prog_1_method_12_code
def yX6_part : MethodName := ⟨RX6, "part", "()I"⟩
abbrev cX6_put : ByteArray := prog_1_method_13_code
def yX6_put : MethodName := ⟨RX6, "put", "(I)I"⟩
abbrev cX6_ramp : ByteArray := prog_1_method_14_code
def yX6_ramp : MethodName := ⟨RX6, "ramp", "(III)I"⟩
abbrev cX6_out : ByteArray := prog_1_method_15_code
def yX6_out : MethodName := ⟨RX6, "out", "(I)I"⟩
abbrev cX6_empty : ByteArray := prog_1_method_16_code
def yX6_empty : MethodName := ⟨RX6, "empty", "()I"⟩
abbrev cX6_reset : ByteArray := prog_1_method_17_code
def yX6_reset : MethodName := ⟨RX6, "reset", "()I"⟩
abbrev cX6_through : ByteArray := prog_1_method_18_code
def yX6_through : MethodName := ⟨RX6, "through", "(II)I"⟩
abbrev cX6_told : ByteArray := prog_1_method_19_code
def yX6_told : MethodName := ⟨RX6, "told", "(II)J"⟩
abbrev cX6_near : ByteArray := prog_1_method_20_code
def yX6_near : MethodName := ⟨RX6, "near", "(I)I"⟩
abbrev cX6_counted : ByteArray := prog_1_method_21_code
def yX6_counted : MethodName := ⟨RX6, "counted", "(II)J"⟩
abbrev cX6_count : ByteArray := prog_1_method_22_code
def yX6_count : MethodName := ⟨RX6, "count", "(I)I"⟩
abbrev cX6_digest : ByteArray := prog_1_method_23_code
def yX6_digest : MethodName := ⟨RX6, "digest", "()J"⟩
abbrev cX6_within : ByteArray := prog_1_method_24_code
def yX6_within : MethodName := ⟨RX6, "within", "(III)Z"⟩
abbrev cX6_isBy : ByteArray := prog_1_method_25_code
def yX6_isBy : MethodName := ⟨RX6, "isBy", "(I)Z"⟩
abbrev cX6_isSample : ByteArray := prog_1_method_26_code
def yX6_isSample : MethodName := ⟨RX6, "isSample", "(I)Z"⟩
abbrev cX6_isPlan : ByteArray := prog_1_method_27_code
def yX6_isPlan : MethodName := ⟨RX6, "isPlan", "(II)Z"⟩
abbrev cX6_find : ByteArray := prog_1_method_28_code
def yX6_find : MethodName := ⟨RX6, "find", "(I)LFirChain$Stage;"⟩
abbrev cX6_placeOf : ByteArray := prog_1_method_29_code
def yX6_placeOf : MethodName := ⟨RX6, "placeOf", "(I)I"⟩
abbrev cX6_unplan : ByteArray := prog_1_method_30_code
def yX6_unplan : MethodName := ⟨RX6, "unplan", "(ILFirChain$Stage;)V"⟩
abbrev cX6_filledByChain : ByteArray := prog_1_method_31_code
def yX6_filledByChain : MethodName := ⟨RX6, "filledByChain", "()I"⟩
abbrev cX6_send : ByteArray := prog_1_method_32_code
def yX6_send : MethodName := ⟨RX6, "send", "(I)I"⟩
def RX7 : String := "FirChainModel"
def TX7 : u_T := fun k => match k with
  | 0 => ("FirChainModel", "stages", "I", false)
  | 1 => ("FirChainModel", "below", "[I", true)
  | 2 => ("FirChainModel", "by", "[I", true)
  | 3 => ("FirChainModel", "taps", "[I", true)
  | 4 => ("FirChainModel", "tapAt", "[I", true)
  | 5 => ("FirChainModel", "wayOf", "[I", true)
  | 6 => ("FirChainModel", "wraps", "[Z", true)
  | 7 => ("FirChainModel", "isPlanned", "[Z", true)
  | 8 => ("FirChainModel", "bits", "[I", true)
  | 9 => ("FirChainModel", "word", "[I", true)
  | 10 => ("FirChainModel", "shift", "[I", true)
  | 11 => ("FirChainModel", "factor", "[I", true)
  | 12 => ("FirChainModel", "came", "[I", true)
  | 13 => ("FirChainModel", "phase", "[I", true)
  | 14 => ("FirChainModel", "cameMany", "[J", true)
  | 15 => ("FirChainModel", "heldMany", "[J", true)
  | 16 => ("FirChainModel", "greatest", "[J", true)
  | 17 => ("FirChainModel", "hasOutput", "[Z", true)
  | 18 => ("FirChainModel", "sum", "[J", true)
  | 19 => ("FirChainModel", "rounded", "[J", true)
  | 20 => ("FirChainModel", "output", "[I", true)
  | 21 => ("FirChainModel", "exact", "[J", true)
  | 22 => ("FirChainModel", "sizes", "[J", true)
  | 23 => ("FirChainModel", "wayWas", "[I", true)
  | 24 => ("FirChainModel", "joined", "I", false)
  | 25 => ("FirChainModel", "chain", "[I", true)
  | 26 => ("FirChainModel", "taped", "I", false)
  | 27 => ("FirChainModel", "tape", "[I", true)
  | 28 => ("FirChainModel", "lost", "I", false)
  | 29 => ("FirChainModel", "inRow", "[I", true)
  | _ => ("FirChainModel", "outRow", "[I", true)
def tyX7 : Nat → FieldType := fun k => match k with
  | 0 => .int
  | 1 => .array .int
  | 2 => .array .int
  | 3 => .array .int
  | 4 => .array .int
  | 5 => .array .int
  | 6 => .array .boolean
  | 7 => .array .boolean
  | 8 => .array .int
  | 9 => .array .int
  | 10 => .array .int
  | 11 => .array .int
  | 12 => .array .int
  | 13 => .array .int
  | 14 => .array .long
  | 15 => .array .long
  | 16 => .array .long
  | 17 => .array .boolean
  | 18 => .array .long
  | 19 => .array .long
  | 20 => .array .int
  | 21 => .array .long
  | 22 => .array .long
  | 23 => .array .int
  | 24 => .int
  | 25 => .array .int
  | 26 => .int
  | 27 => .array .int
  | 28 => .int
  | 29 => .array .int
  | _ => .array .int
abbrev wsX70 : List Cond := u_ws RX7 TX7 31
theorem nmX7 : ∀ a, a < 31 → ∀ b, b < 31 → a ≠ b → (TX7 a).2.1 ≠ (TX7 b).2.1 := by decide +kernel
theorem tyX7_ok : ∀ k, k < 31 → parseFieldDescriptor (TX7 k).2.2.1 = some (tyX7 k) := by decide +kernel
abbrev cX7_init : ByteArray := prog_9_method_1_code
def yX7_init : MethodName := ⟨RX7, "<init>", "()V"⟩
abbrev cX7_in : ByteArray := prog_9_method_3_code
def yX7_in : MethodName := ⟨RX7, "in", "(JJJ)Z"⟩
abbrev cX7_isStage : ByteArray := prog_9_method_4_code
def yX7_isStage : MethodName := ⟨RX7, "isStage", "(I)Z"⟩
abbrev cX7_size : ByteArray := prog_9_method_5_code
def yX7_size : MethodName := ⟨RX7, "size", "(J)J"⟩
abbrev cX7_stage : ByteArray := prog_9_method_6_code
def yX7_stage : MethodName := ⟨RX7, "stage", "(II)I"⟩
abbrev cX7_placeOf : ByteArray := prog_9_method_7_code
def yX7_placeOf : MethodName := ⟨RX7, "placeOf", "(I)I"⟩
abbrev cX7_unplan : ByteArray := prog_9_method_8_code
def yX7_unplan : MethodName := ⟨RX7, "unplan", "(I)V"⟩
abbrev cX7_isTap : ByteArray := prog_9_method_9_code
def yX7_isTap : MethodName := ⟨RX7, "isTap", "(I)Z"⟩
abbrev cX7_tap : ByteArray := prog_9_method_10_code
def yX7_tap : MethodName := ⟨RX7, "tap", "(II)I"⟩
abbrev cX7_change : ByteArray := prog_9_method_11_code
def yX7_change : MethodName := ⟨RX7, "change", "(III)I"⟩
abbrev cX7_way : ByteArray := prog_9_method_12_code
def yX7_way : MethodName := ⟨RX7, "way", "(IIZ)I"⟩
abbrev cX7_down : ByteArray := prog_9_method_13_code
def yX7_down : MethodName := ⟨RX7, "down", "(JJ)J"⟩
abbrev cX7_nearest : ByteArray := prog_9_method_14_code
def yX7_nearest : MethodName := ⟨RX7, "nearest", "(JJ)J"⟩
abbrev cX7_factorAt : ByteArray := prog_9_method_15_code
def yX7_factorAt : MethodName := ⟨RX7, "factorAt", "(III)J"⟩
abbrev cX7_isSafe : ByteArray := prog_9_method_16_code
def yX7_isSafe : MethodName := ⟨RX7, "isSafe", "(IIII)Z"⟩
abbrev cX7_forgets : ByteArray := prog_9_method_17_code
def yX7_forgets : MethodName := ⟨RX7, "forgets", "(I)V"⟩
abbrev cX7_plans : ByteArray := prog_9_method_18_code
def yX7_plans : MethodName := ⟨RX7, "plans", "(IIII)I"⟩
abbrev cX7_isPlan : ByteArray := prog_9_method_19_code
def yX7_isPlan : MethodName := ⟨RX7, "isPlan", "(III)Z"⟩
abbrev cX7_plan : ByteArray := prog_9_method_20_code
def yX7_plan : MethodName := ⟨RX7, "plan", "(III)I"⟩
abbrev cX7_planAt : ByteArray := prog_9_method_21_code
def yX7_planAt : MethodName := ⟨RX7, "planAt", "(IIII)I"⟩
abbrev cX7_coefficient : ByteArray := prog_9_method_22_code
def yX7_coefficient : MethodName := ⟨RX7, "coefficient", "(II)I"⟩
abbrev cX7_mirrored : ByteArray := prog_9_method_23_code
def yX7_mirrored : MethodName := ⟨RX7, "mirrored", "(I)I"⟩
abbrev cX7_aboutOf : ByteArray := prog_9_method_24_code
def yX7_aboutOf : MethodName := ⟨RX7, "aboutOf", "(II)I"⟩
abbrev cX7_about : ByteArray := prog_9_method_25_code
def yX7_about : MethodName := ⟨RX7, "about", "(II)I"⟩
abbrev cX7_normOf : ByteArray := prog_9_method_26_code
def yX7_normOf : MethodName := ⟨RX7, "normOf", "(I)J"⟩
abbrev cX7_norm : ByteArray := prog_9_method_27_code
def yX7_norm : MethodName := ⟨RX7, "norm", "(I)J"⟩
abbrev cX7_round : ByteArray := prog_9_method_28_code
def yX7_round : MethodName := ⟨RX7, "round", "(JII)J"⟩
abbrev cX7_comes : ByteArray := prog_9_method_29_code
def yX7_comes : MethodName := ⟨RX7, "comes", "(II)I"⟩
abbrev cX7_goes : ByteArray := prog_9_method_30_code
def yX7_goes : MethodName := ⟨RX7, "goes", "(II)I"⟩
abbrev cX7_puts : ByteArray := prog_9_method_31_code
def yX7_puts : MethodName := ⟨RX7, "puts", "(I)I"⟩
abbrev cX7_filled : ByteArray := prog_9_method_32_code
def yX7_filled : MethodName := ⟨RX7, "filled", "(I)I"⟩
abbrev cX7_join : ByteArray := prog_9_method_33_code
def yX7_join : MethodName := ⟨RX7, "join", "(I)I"⟩
abbrev cX7_part : ByteArray := prog_9_method_34_code
def yX7_part : MethodName := ⟨RX7, "part", "()I"⟩
abbrev cX7_isSample : ByteArray := prog_9_method_35_code
def yX7_isSample : MethodName := ⟨RX7, "isSample", "(I)Z"⟩
abbrev cX7_put : ByteArray := prog_9_method_36_code
def yX7_put : MethodName := ⟨RX7, "put", "(I)I"⟩
abbrev cX7_ramp : ByteArray := prog_9_method_37_code
def yX7_ramp : MethodName := ⟨RX7, "ramp", "(III)I"⟩
abbrev cX7_out : ByteArray := prog_9_method_38_code
def yX7_out : MethodName := ⟨RX7, "out", "(I)I"⟩
abbrev cX7_empty : ByteArray := prog_9_method_39_code
def yX7_empty : MethodName := ⟨RX7, "empty", "()I"⟩
abbrev cX7_reset : ByteArray := prog_9_method_40_code
def yX7_reset : MethodName := ⟨RX7, "reset", "()I"⟩
abbrev cX7_through : ByteArray := prog_9_method_41_code
def yX7_through : MethodName := ⟨RX7, "through", "(II)I"⟩
abbrev cX7_hasTold : ByteArray := prog_9_method_42_code
def yX7_hasTold : MethodName := ⟨RX7, "hasTold", "(I)Z"⟩
abbrev cX7_told : ByteArray := prog_9_method_43_code
def yX7_told : MethodName := ⟨RX7, "told", "(II)J"⟩
abbrev cX7_near : ByteArray := prog_9_method_44_code
def yX7_near : MethodName := ⟨RX7, "near", "(I)I"⟩
abbrev cX7_counted : ByteArray := prog_9_method_45_code
def yX7_counted : MethodName := ⟨RX7, "counted", "(II)J"⟩
abbrev cX7_count : ByteArray := prog_9_method_46_code
def yX7_count : MethodName := ⟨RX7, "count", "(I)I"⟩
abbrev cX7_digest : ByteArray := prog_9_method_47_code
def yX7_digest : MethodName := ⟨RX7, "digest", "()J"⟩
def RJ9 : String := "java/lang/Math"
def TJ9 : u_T := fun k => match k with
  | _ => ("", "", "", false)
def tyJ9 : Nat → FieldType := fun k => match k with
  | _ => .int
abbrev wsJ90 : List Cond := u_ws RJ9 TJ9 0
theorem nmJ9 : ∀ a, a < 0 → ∀ b, b < 0 → a ≠ b → (TJ9 a).2.1 ≠ (TJ9 b).2.1 := by decide +kernel
theorem tyJ9_ok : ∀ k, k < 0 → parseFieldDescriptor (TJ9 k).2.2.1 = some (tyJ9 k) := by decide +kernel
abbrev cJ9_floorDiv_f86c9 : ByteArray := prog_10_method_49_code
def yJ9_floorDiv_f86c9 : MethodName := ⟨RJ9, "floorDiv", "(JJ)J"⟩
abbrev cJ9_abs_0f7a4 : ByteArray := prog_10_method_59_code
def yJ9_abs_0f7a4 : MethodName := ⟨RJ9, "abs", "(I)I"⟩
abbrev cJ9_abs_067f4 : ByteArray := prog_10_method_61_code
def yJ9_abs_067f4 : MethodName := ⟨RJ9, "abs", "(J)J"⟩
abbrev cJ9_max_f86c9 : ByteArray := prog_10_method_66_code
def yJ9_max_f86c9 : MethodName := ⟨RJ9, "max", "(JJ)J"⟩
abbrev cJ9_min_f86c9 : ByteArray := prog_10_method_70_code
def yJ9_min_f86c9 : MethodName := ⟨RJ9, "min", "(JJ)J"⟩
def RL : String := "FirChainLaw"
abbrev cL_law : ByteArray := code
def yL_law : MethodName := ⟨RL, "law", "([I)Z"⟩
abbrev vwCl : List vw_C := [(RX0, TX0, 7), (RX1, TX1, 6), (RX2, TX2, 2), (RX3, TX3, 2), (RX4, TX4, 13), (RX5, TX5, 3), (RX6, TX6, 7), (RX7, TX7, 31)]
theorem inX0 : ∀ w ∈ wsX00, w ∈ lw_tbl := by decide +kernel
theorem inX1 : ∀ w ∈ wsX10, w ∈ lw_tbl := by decide +kernel
theorem inX2 : ∀ w ∈ wsX20, w ∈ lw_tbl := by decide +kernel
theorem inX3 : ∀ w ∈ wsX30, w ∈ lw_tbl := by decide +kernel
theorem inX4 : ∀ w ∈ wsX40, w ∈ lw_tbl := by decide +kernel
theorem inX5 : ∀ w ∈ wsX50, w ∈ lw_tbl := by decide +kernel
theorem inX6 : ∀ w ∈ wsX60, w ∈ lw_tbl := by decide +kernel
theorem inX7 : ∀ w ∈ wsX70, w ∈ lw_tbl := by decide +kernel
