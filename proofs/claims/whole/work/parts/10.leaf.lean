def m_abs (x : Int64) : Int64 := if 0 ≤ x then x else -x
def m_absI (x : Int32) : Int32 := if 0 ≤ x then x else -x
def m_max (x y : Int64) : Int64 := if x < y then y else x
def m_min (x y : Int64) : Int64 := if y < x then y else x
def m_fdiv (x y : Int64) : Int64 := if 0 ≤ x ^^^ y then x / y else if x / y * y = x then x / y else x / y - 1
set_option maxHeartbeats 4000000 in
set_option maxRecDepth 100000 in
theorem c_J9_abs_0f7a4 {f : q_Hp} {n : Nat} {x : Int32} : Sp yJ9_abs_0f7a4 uJ9_abs_0f7a4 [.int x] n f (some (.int (m_absI x)), n, f) := by
  refine Sp.ofF (by decide +kernel) rfl rfl (q_le rfl) ?_
  intro G d
  refine q_iload_n dJ9_abs_0f7a4_0 rfl ?_
  refine q_if_ge (tgt := 9) dJ9_abs_0f7a4_1 (by decide) (fun c_1 => ?_) (fun c_1 => ?_)
  · refine q_iload_n dJ9_abs_0f7a4_9 rfl ?_
    exact q_iret dJ9_abs_0f7a4_10 rfl (by simp [m_absI, c_1]) (q_le rfl) (q_le rfl)
  · refine q_iload_n dJ9_abs_0f7a4_4 rfl ?_
    refine q_ineg dJ9_abs_0f7a4_5 ?_
    refine q_goto (tgt := 10) dJ9_abs_0f7a4_6 (by decide) ?_
    exact q_iret dJ9_abs_0f7a4_10 rfl (by simp [m_absI, c_1]) (q_le rfl) (q_le rfl)

set_option maxHeartbeats 4000000 in
set_option maxRecDepth 100000 in
theorem c_J9_abs_067f4 {f : q_Hp} {n : Nat} {x : Int64} : Sp yJ9_abs_067f4 uJ9_abs_067f4 [.long x] n f (some (.long (m_abs x)), n, f) := by
  refine Sp.ofF (by decide +kernel) rfl rfl (q_le rfl) ?_
  intro G d
  refine q_lload_n dJ9_abs_067f4_0 rfl ?_
  refine q_lconst dJ9_abs_067f4_1 (v := 0) (by decide) ?_
  refine q_lcmp_ge (tgt := 11) dJ9_abs_067f4_2 dJ9_abs_067f4_3 (by decide) (fun c_2 => ?_) (fun c_2 => ?_)
  · refine q_lload_n dJ9_abs_067f4_11 rfl ?_
    exact q_lret dJ9_abs_067f4_12 rfl (by simp [m_abs, c_2]) (q_le rfl) (q_le rfl)
  · refine q_lload_n dJ9_abs_067f4_6 rfl ?_
    refine q_lneg dJ9_abs_067f4_7 ?_
    refine q_goto (tgt := 12) dJ9_abs_067f4_8 (by decide) ?_
    exact q_lret dJ9_abs_067f4_12 rfl (by simp [m_abs, c_2]) (q_le rfl) (q_le rfl)

set_option maxHeartbeats 4000000 in
set_option maxRecDepth 100000 in
theorem c_J9_max_f86c9 {f : q_Hp} {n : Nat} {x y : Int64} : Sp yJ9_max_f86c9 uJ9_max_f86c9 [.long x, .long y] n f (some (.long (m_max x y)), n, f) := by
  refine Sp.ofF (by decide +kernel) rfl rfl (q_le rfl) ?_
  intro G d
  refine q_lload_n dJ9_max_f86c9_0 rfl ?_
  refine q_lload_n dJ9_max_f86c9_1 rfl ?_
  refine q_lcmp_lt (tgt := 10) dJ9_max_f86c9_2 dJ9_max_f86c9_3 (by decide) (fun c_2 => ?_) (fun c_2 => ?_)
  · refine q_lload_n dJ9_max_f86c9_10 rfl ?_
    exact q_lret dJ9_max_f86c9_11 rfl (by simp [m_max, c_2]) (q_le rfl) (q_le rfl)
  · refine q_lload_n dJ9_max_f86c9_6 rfl ?_
    refine q_goto (tgt := 11) dJ9_max_f86c9_7 (by decide) ?_
    exact q_lret dJ9_max_f86c9_11 rfl (by simp [m_max, c_2]) (q_le rfl) (q_le rfl)

set_option maxHeartbeats 4000000 in
set_option maxRecDepth 100000 in
theorem c_J9_min_f86c9 {f : q_Hp} {n : Nat} {x y : Int64} : Sp yJ9_min_f86c9 uJ9_min_f86c9 [.long x, .long y] n f (some (.long (m_min x y)), n, f) := by
  refine Sp.ofF (by decide +kernel) rfl rfl (q_le rfl) ?_
  intro G d
  refine q_lload_n dJ9_min_f86c9_0 rfl ?_
  refine q_lload_n dJ9_min_f86c9_1 rfl ?_
  refine q_lcmp_gt (tgt := 10) dJ9_min_f86c9_2 dJ9_min_f86c9_3 (by decide) (fun c_2 => ?_) (fun c_2 => ?_)
  · refine q_lload_n dJ9_min_f86c9_10 rfl ?_
    exact q_lret dJ9_min_f86c9_11 rfl (by simp [m_min, c_2]) (q_le rfl) (q_le rfl)
  · refine q_lload_n dJ9_min_f86c9_6 rfl ?_
    refine q_goto (tgt := 11) dJ9_min_f86c9_7 (by decide) ?_
    exact q_lret dJ9_min_f86c9_11 rfl (by simp [m_min, c_2]) (q_le rfl) (q_le rfl)

set_option maxHeartbeats 4000000 in
set_option maxRecDepth 100000 in
theorem c_J9_floorDiv_f86c9 {f : q_Hp} {n : Nat} {x y : Int64} (hy : ¬ y = 0) : Sp yJ9_floorDiv_f86c9 uJ9_floorDiv_f86c9 [.long x, .long y] n f (some (.long (m_fdiv x y)), n, f) := by
  refine Sp.ofF (by decide +kernel) rfl rfl (q_le rfl) ?_
  intro G d
  refine q_lload_n dJ9_floorDiv_f86c9_0 rfl ?_
  refine q_lload_n dJ9_floorDiv_f86c9_1 rfl ?_
  refine q_ldiv dJ9_floorDiv_f86c9_2 hy ?_
  refine q_lstore dJ9_floorDiv_f86c9_3 (q_le rfl) ?_
  refine q_lload_n dJ9_floorDiv_f86c9_5 rfl ?_
  refine q_lload_n dJ9_floorDiv_f86c9_6 rfl ?_
  refine q_lxor dJ9_floorDiv_f86c9_7 ?_
  refine q_lconst dJ9_floorDiv_f86c9_8 (v := 0) (by decide) ?_
  refine q_lcmp_ge (tgt := 27) dJ9_floorDiv_f86c9_9 dJ9_floorDiv_f86c9_10 (by decide) (fun c_9 => ?_) (fun c_9 => ?_)
  · refine q_lload dJ9_floorDiv_f86c9_27 rfl ?_
    exact q_lret dJ9_floorDiv_f86c9_29 rfl (by simp [m_fdiv, c_9]) (q_le rfl) (q_le rfl)
  · refine q_lload dJ9_floorDiv_f86c9_13 rfl ?_
    refine q_lload_n dJ9_floorDiv_f86c9_15 rfl ?_
    refine q_lmul dJ9_floorDiv_f86c9_16 ?_
    refine q_lload_n dJ9_floorDiv_f86c9_17 rfl ?_
    refine q_lcmp_eq (tgt := 27) dJ9_floorDiv_f86c9_18 dJ9_floorDiv_f86c9_19 (by decide) (fun c_18 => ?_) (fun c_18 => ?_)
    · refine q_lload dJ9_floorDiv_f86c9_27 rfl ?_
      exact q_lret dJ9_floorDiv_f86c9_29 rfl (by simp [m_fdiv, c_9, c_18]) (q_le rfl) (q_le rfl)
    · refine q_lload dJ9_floorDiv_f86c9_22 rfl ?_
      refine q_lconst dJ9_floorDiv_f86c9_24 (v := 1) (by decide) ?_
      refine q_lsub dJ9_floorDiv_f86c9_25 ?_
      exact q_lret dJ9_floorDiv_f86c9_26 rfl (by simp [m_fdiv, c_9, c_18]) (q_le rfl) (q_le rfl)

set_option maxHeartbeats 4000000 in
set_option maxRecDepth 100000 in
theorem c_X0_keepSums {f : q_Hp} {n p : Nat} {lst : Int32} {sum ex rnd : Int64} {out : Int32} {ssz : Int64} {rby : Int32} {a b c : Int64} : Sp yX0_keepSums uX0_keepSums [.ref p, .long a, .long b, .long c] n (q_blk f p (laE lst sum ex rnd out ssz rby)) (none, n, q_blk f p (laE lst a b rnd out c rby)) := by
  refine Sp.ofF (by decide +kernel) rfl rfl (q_le rfl) ?_
  intro G d
  refine q_aload_n dX0_keepSums_0 rfl ?_
  refine q_lload_n dX0_keepSums_1 rfl ?_
  refine q_putf dX0_keepSums_2 pl_X0_15 (q_blk_get (j := 0) rfl) (q_le rfl) rfl rfl ?_
  refine q_heap (q_blk_up (j := 0) (q_le rfl)) ?_
  refine q_aload_n dX0_keepSums_5 rfl ?_
  refine q_lload_n dX0_keepSums_6 rfl ?_
  refine q_putf dX0_keepSums_7 pl_X0_19 (q_blk_get (j := 0) rfl) (q_le rfl) rfl rfl ?_
  refine q_heap (q_blk_up (j := 0) (q_le rfl)) ?_
  refine q_aload_n dX0_keepSums_10 rfl ?_
  refine q_lload dX0_keepSums_11 rfl ?_
  refine q_putf dX0_keepSums_13 pl_X0_22 (q_blk_get (j := 0) rfl) (q_le rfl) rfl rfl ?_
  refine q_heap (q_blk_up (j := 0) (q_le rfl)) ?_
  exact q_vret dX0_keepSums_16 rfl (rfl) (q_le rfl) (q_le rfl)

set_option maxHeartbeats 4000000 in
set_option maxRecDepth 100000 in
theorem c_X0_keepOutput {f : q_Hp} {n p : Nat} {lst : Int32} {sum ex rnd : Int64} {out : Int32} {ssz : Int64} {rby : Int32} {a : Int64} {b c : Int32} : Sp yX0_keepOutput uX0_keepOutput [.ref p, .long a, .int b, .int c] n (q_blk f p (laE lst sum ex rnd out ssz rby)) (none, n, q_blk f p (laE 1 sum ex a b ssz c)) := by
  refine Sp.ofF (by decide +kernel) rfl rfl (q_le rfl) ?_
  intro G d
  refine q_aload_n dX0_keepOutput_0 rfl ?_
  refine q_lload_n dX0_keepOutput_1 rfl ?_
  refine q_putf dX0_keepOutput_2 pl_X0_25 (q_blk_get (j := 0) rfl) (q_le rfl) rfl rfl ?_
  refine q_heap (q_blk_up (j := 0) (q_le rfl)) ?_
  refine q_aload_n dX0_keepOutput_5 rfl ?_
  refine q_iload_n dX0_keepOutput_6 rfl ?_
  refine q_putf dX0_keepOutput_7 pl_X0_28 (q_blk_get (j := 0) rfl) (q_le rfl) rfl rfl ?_
  refine q_heap (q_blk_up (j := 0) (q_le rfl)) ?_
  refine q_aload_n dX0_keepOutput_10 rfl ?_
  refine q_iload dX0_keepOutput_11 rfl ?_
  refine q_putf dX0_keepOutput_13 pl_X0_32 (q_blk_get (j := 0) rfl) (q_le rfl) rfl rfl ?_
  refine q_heap (q_blk_up (j := 0) (q_le rfl)) ?_
  refine q_aload_n dX0_keepOutput_16 rfl ?_
  refine q_iconst dX0_keepOutput_17 (v := 1) (by decide) ?_
  refine q_putf dX0_keepOutput_18 pl_X0_9 (q_blk_get (j := 0) rfl) (q_le rfl) rfl rfl ?_
  refine q_heap (q_blk_up (j := 0) (q_le rfl)) ?_
  exact q_vret dX0_keepOutput_21 rfl (rfl) (q_le rfl) (q_le rfl)

set_option maxHeartbeats 4000000 in
set_option maxRecDepth 100000 in
theorem c_X1_begin {f : q_Hp} {n p : Nat} {pst bits word shift : Int32} {psz : Int64} {fac : Nat → Int32} {a b c : Int32} : Sp yX1_begin uX1_begin [.ref p, .int a, .int b, .int c] n (q_blk f p (plE p pst bits word shift psz fac)) (none, n, q_blk f p (plE p 1 a b c 0 fac)) := by
  refine Sp.ofF (by decide +kernel) rfl rfl (q_le rfl) ?_
  intro G d
  refine q_aload_n dX1_begin_0 rfl ?_
  refine q_iload_n dX1_begin_1 rfl ?_
  refine q_putf dX1_begin_2 pl_X1_19 (q_blk_get (j := 0) rfl) (q_le rfl) rfl rfl ?_
  refine q_heap (q_blk_up (j := 0) (q_le rfl)) ?_
  refine q_aload_n dX1_begin_5 rfl ?_
  refine q_iload_n dX1_begin_6 rfl ?_
  refine q_putf dX1_begin_7 pl_X1_23 (q_blk_get (j := 0) rfl) (q_le rfl) rfl rfl ?_
  refine q_heap (q_blk_up (j := 0) (q_le rfl)) ?_
  refine q_aload_n dX1_begin_10 rfl ?_
  refine q_iload_n dX1_begin_11 rfl ?_
  refine q_putf dX1_begin_12 pl_X1_26 (q_blk_get (j := 0) rfl) (q_le rfl) rfl rfl ?_
  refine q_heap (q_blk_up (j := 0) (q_le rfl)) ?_
  refine q_aload_n dX1_begin_15 rfl ?_
  refine q_lconst dX1_begin_16 (v := 0) (by decide) ?_
  refine q_putf dX1_begin_17 pl_X1_29 (q_blk_get (j := 0) rfl) (q_le rfl) rfl rfl ?_
  refine q_heap (q_blk_up (j := 0) (q_le rfl)) ?_
  refine q_aload_n dX1_begin_20 rfl ?_
  refine q_iconst dX1_begin_21 (v := 1) (by decide) ?_
  refine q_putf dX1_begin_22 pl_X1_9 (q_blk_get (j := 0) rfl) (q_le rfl) rfl rfl ?_
  refine q_heap (q_blk_up (j := 0) (q_le rfl)) ?_
  exact q_vret dX1_begin_25 rfl (rfl) (q_le rfl) (q_le rfl)

def k_in32 (k : Int32) : Bool := !decide (k < 0) && !decide (32 ≤ k)
set_option maxHeartbeats 4000000 in
set_option maxRecDepth 100000 in
theorem c_X1_factor {f : q_Hp} {n p : Nat} {pst bits word shift : Int32} {psz : Int64} {fac : Nat → Int32} {k : Int32} : Sp yX1_factor uX1_factor [.ref p, .int k] n (q_blk f p (plE p pst bits word shift psz fac)) (some (.int (bif k_in32 k then fac k.toNatClampNeg else 0)), n, q_blk f p (plE p pst bits word shift psz fac)) := by
  refine Sp.ofF (by decide +kernel) rfl rfl (q_le rfl) ?_
  intro G d
  refine q_iload_n dX1_factor_0 rfl ?_
  refine q_if_lt (tgt := 22) dX1_factor_1 (by decide) (fun c_1 => ?_) (fun c_1 => ?_)
  · refine q_iconst dX1_factor_22 (v := 0) (by decide) ?_
    exact q_iret dX1_factor_23 rfl (by simp [k_in32, c_1]) (q_le rfl) (q_le rfl)
  · refine q_iload_n dX1_factor_4 rfl ?_
    refine q_aload_n dX1_factor_5 rfl ?_
    refine q_getf dX1_factor_6 fl_X1_15 (q_blk_get (j := 0) rfl) rfl ?_
    refine q_alen dX1_factor_9 (q_blk_get (j := 1) rfl) rfl (v := 32) rfl ?_
    refine q_icmp_ge (tgt := 22) dX1_factor_10 (by decide) (fun c_10 => ?_) (fun c_10 => ?_)
    · refine q_iconst dX1_factor_22 (v := 0) (by decide) ?_
      exact q_iret dX1_factor_23 rfl (by simp [k_in32, c_1, c_10]) (q_le rfl) (q_le rfl)
    · refine q_aload_n dX1_factor_13 rfl ?_
      refine q_getf dX1_factor_14 fl_X1_15 (q_blk_get (j := 0) rfl) rfl ?_
      refine q_iload_n dX1_factor_17 rfl ?_
      refine q_iald dX1_factor_18 (q_blk_get (j := 1) rfl) (q_vq c_1 c_10 (by decide) (by decide)) ?_
      refine q_goto (tgt := 23) dX1_factor_19 (by decide) ?_
      exact q_iret dX1_factor_23 rfl (by simp [k_in32, c_1, c_10]) (q_le rfl) (q_le rfl)

set_option maxHeartbeats 4000000 in
set_option maxRecDepth 100000 in
theorem c_X1_setFactor {f : q_Hp} {n p : Nat} {pst bits word shift : Int32} {psz : Int64} {fac : Nat → Int32} {k x : Int32} : Sp yX1_setFactor uX1_setFactor [.ref p, .int k, .int x] n (q_blk f p (plE p pst bits word shift psz fac)) (none, n, q_blk f p (plE p pst bits word shift (bif k_in32 k then psz + (m_absI x).toInt64 else psz) (bif k_in32 k then upd fac k.toNatClampNeg x else fac))) := by
  refine Sp.ofF (by decide +kernel) rfl rfl (q_le rfl) ?_
  intro G d
  refine q_iload_n dX1_setFactor_0 rfl ?_
  refine q_if_lt (tgt := 34) dX1_setFactor_1 (by decide) (fun c_1 => ?_) (fun c_1 => ?_)
  · exact q_vret dX1_setFactor_34 rfl (by simp [k_in32, c_1]) (q_le rfl) (q_le rfl)
  · refine q_iload_n dX1_setFactor_4 rfl ?_
    refine q_aload_n dX1_setFactor_5 rfl ?_
    refine q_getf dX1_setFactor_6 fl_X1_15 (q_blk_get (j := 0) rfl) rfl ?_
    refine q_alen dX1_setFactor_9 (q_blk_get (j := 1) rfl) rfl (v := 32) rfl ?_
    refine q_icmp_ge (tgt := 34) dX1_setFactor_10 (by decide) (fun c_10 => ?_) (fun c_10 => ?_)
    · exact q_vret dX1_setFactor_34 rfl (by simp [k_in32, c_1, c_10]) (q_le rfl) (q_le rfl)
    · refine q_aload_n dX1_setFactor_13 rfl ?_
      refine q_getf dX1_setFactor_14 fl_X1_15 (q_blk_get (j := 0) rfl) rfl ?_
      refine q_iload_n dX1_setFactor_17 rfl ?_
      refine q_iload_n dX1_setFactor_18 rfl ?_
      refine q_iast dX1_setFactor_19 (q_blk_get (j := 1) rfl) (q_vq c_1 c_10 (by decide) (by decide)) ?_
      refine q_heap (q_blk_up (j := 1) (q_le rfl)) ?_
      refine q_aload_n dX1_setFactor_20 rfl ?_
      refine q_dup dX1_setFactor_21 rfl ?_
      refine q_getf dX1_setFactor_22 fl_X1_29 (q_blk_get (j := 0) rfl) rfl ?_
      refine q_iload_n dX1_setFactor_25 rfl ?_
      refine q_cS (c_J9_abs_0f7a4) dX1_setFactor_26 kl_X1_33 rfl ⟨q_le rfl, q_le rfl⟩ (q_le rfl) (q_le rfl) (q_le rfl) ?_
      refine q_i2l dX1_setFactor_29 ?_
      refine q_ladd dX1_setFactor_30 ?_
      refine q_putf dX1_setFactor_31 pl_X1_29 (q_blk_get (j := 0) rfl) (q_le rfl) rfl rfl ?_
      refine q_heap (q_blk_up (j := 0) (q_le rfl)) ?_
      exact q_vret dX1_setFactor_34 rfl (by simp [k_in32, c_1, c_10]) (q_le rfl) (q_le rfl)

def r_ix (head k : Int32) : Nat := ((head + k) &&& 31).toNatClampNeg
theorem r_in (x : Int32) : vp_in (x &&& 31) 32 := pk_andIn x (m := 31) 5 (by decide) (by decide)
theorem r_nge (x : Int32) : ¬ (32 : Int32) ≤ x &&& 31 := by
  obtain ⟨j, hj, e⟩ := pk_andE x (m := 31) 5 (by decide)
  rw [e]
  exact q_ge32 (by omega)
set_option maxHeartbeats 4000000 in
set_option maxRecDepth 100000 in
theorem c_X2_back {f : q_Hp} {n p : Nat} {wds : Nat → Int32} {rhd : Int32} {k : Int32} : Sp yX2_back uX2_back [.ref p, .int k] n (q_blk f p (rgE p wds rhd)) (some (.int (wds (r_ix rhd k))), n, q_blk f p (rgE p wds rhd)) := by
  refine Sp.ofF (by decide +kernel) rfl rfl (q_le rfl) ?_
  intro G d
  refine q_aload_n dX2_back_0 rfl ?_
  refine q_getf dX2_back_1 fl_X2_15 (q_blk_get (j := 0) rfl) rfl ?_
  refine q_iload_n dX2_back_4 rfl ?_
  refine q_iadd dX2_back_5 ?_
  refine q_bipush dX2_back_6 (v := 31) (by decide) ?_
  refine q_iand dX2_back_8 ?_
  refine q_istore_n dX2_back_9 (q_le rfl) ?_
  refine q_iload_n dX2_back_10 rfl ?_
  refine q_aload_n dX2_back_11 rfl ?_
  refine q_getf dX2_back_12 fl_X2_9 (q_blk_get (j := 0) rfl) rfl ?_
  refine q_alen dX2_back_15 (q_blk_get (j := 1) rfl) rfl (v := 32) rfl ?_
  refine q_icmp_ge (tgt := 28) dX2_back_16 (by decide) (fun h_n => absurd h_n ((r_nge _))) (fun c_16 => ?_)
  refine q_aload_n dX2_back_19 rfl ?_
  refine q_getf dX2_back_20 fl_X2_9 (q_blk_get (j := 0) rfl) rfl ?_
  refine q_iload_n dX2_back_23 rfl ?_
  refine q_sald dX2_back_24 (q_blk_get (j := 1) rfl) (r_in _) ?_
  refine q_goto (tgt := 29) dX2_back_25 (by decide) ?_
  exact q_iret dX2_back_29 rfl (rfl) (q_le rfl) (q_le rfl)

set_option maxHeartbeats 4000000 in
set_option maxRecDepth 100000 in
theorem c_X2_push {f : q_Hp} {n p : Nat} {wds : Nat → Int32} {rhd : Int32} {x : Int32} : Sp yX2_push uX2_push [.ref p, .int x] n (q_blk f p (rgE p wds rhd)) (none, n, q_blk f p (rgE p (upd wds ((rhd - 1) &&& 31).toNatClampNeg (vp_nar .short x.toInt16.toInt32)) ((rhd - 1) &&& 31))) := by
  refine Sp.ofF (by decide +kernel) rfl rfl (q_le rfl) ?_
  intro G d
  refine q_aload_n dX2_push_0 rfl ?_
  refine q_aload_n dX2_push_1 rfl ?_
  refine q_getf dX2_push_2 fl_X2_15 (q_blk_get (j := 0) rfl) rfl ?_
  refine q_iconst dX2_push_5 (v := 1) (by decide) ?_
  refine q_isub dX2_push_6 ?_
  refine q_bipush dX2_push_7 (v := 31) (by decide) ?_
  refine q_iand dX2_push_9 ?_
  refine q_putf dX2_push_10 pl_X2_15 (q_blk_get (j := 0) rfl) (q_le rfl) rfl rfl ?_
  refine q_heap (q_blk_up (j := 0) (q_le rfl)) ?_
  refine q_aload_n dX2_push_13 rfl ?_
  refine q_getf dX2_push_14 fl_X2_15 (q_blk_get (j := 0) rfl) rfl ?_
  refine q_aload_n dX2_push_17 rfl ?_
  refine q_getf dX2_push_18 fl_X2_9 (q_blk_get (j := 0) rfl) rfl ?_
  refine q_alen dX2_push_21 (q_blk_get (j := 1) rfl) rfl (v := 32) rfl ?_
  refine q_icmp_ge (tgt := 36) dX2_push_22 (by decide) (fun h_n => absurd h_n ((r_nge _))) (fun c_22 => ?_)
  refine q_aload_n dX2_push_25 rfl ?_
  refine q_getf dX2_push_26 fl_X2_9 (q_blk_get (j := 0) rfl) rfl ?_
  refine q_aload_n dX2_push_29 rfl ?_
  refine q_getf dX2_push_30 fl_X2_15 (q_blk_get (j := 0) rfl) rfl ?_
  refine q_iload_n dX2_push_33 rfl ?_
  refine q_i2s dX2_push_34 ?_
  refine q_sast dX2_push_35 (q_blk_get (j := 1) rfl) (r_in _) ?_
  refine q_heap (q_blk_up (j := 1) (q_le rfl)) ?_
  exact q_vret dX2_push_36 rfl (rfl) (q_le rfl) (q_le rfl)

abbrev rwE (p : Nat) (smp : Nat → Int32) (ln : Nat) : List q_E := [.inr (3, [.ref (p + 1), .int (nI ln)]), .inl (0, 16, .inl smp)]
def w_rm (ln : Nat) : Bool := !decide ((16 : Int32) ≤ nI ln)
set_option maxHeartbeats 4000000 in
set_option maxRecDepth 100000 in
theorem c_X3_clear {f : q_Hp} {n p : Nat} {smp : Nat → Int32} {ln : Nat} : Sp yX3_clear uX3_clear [.ref p] n (q_blk f p (rwE p smp ln)) (none, n, q_blk f p (rwE p smp 0)) := by
  refine Sp.ofF (by decide +kernel) rfl rfl (q_le rfl) ?_
  intro G d
  refine q_aload_n dX3_clear_0 rfl ?_
  refine q_iconst dX3_clear_1 (v := 0) (by decide) ?_
  refine q_putf dX3_clear_2 pl_X3_15 (q_blk_get (j := 0) rfl) (q_le rfl) rfl rfl ?_
  refine q_heap (q_blk_up (j := 0) (q_le rfl)) ?_
  exact q_vret dX3_clear_5 rfl (rfl) (q_le rfl) (q_le rfl)

set_option maxHeartbeats 4000000 in
set_option maxRecDepth 100000 in
theorem c_X3_add {f : q_Hp} {n p : Nat} {smp : Nat → Int32} {ln : Nat} {x : Int32} (hl : ln ≤ 16) : Sp yX3_add uX3_add [.ref p, .int x] n (q_blk f p (rwE p smp ln)) (none, n, q_blk f p (rwE p (bif w_rm ln then upd smp (nI ln).toNatClampNeg x else smp) (bif w_rm ln then ln + 1 else ln))) := by
  refine Sp.ofF (by decide +kernel) rfl rfl (q_le rfl) ?_
  intro G d
  refine q_aload_n dX3_add_0 rfl ?_
  refine q_getf dX3_add_1 fl_X3_15 (q_blk_get (j := 0) rfl) rfl ?_
  refine q_if_lt (tgt := 39) dX3_add_4 (by decide) (fun h_n => absurd h_n ((nI_pos (by omega)))) (fun c_4 => ?_)
  refine q_aload_n dX3_add_7 rfl ?_
  refine q_getf dX3_add_8 fl_X3_15 (q_blk_get (j := 0) rfl) rfl ?_
  refine q_aload_n dX3_add_11 rfl ?_
  refine q_getf dX3_add_12 fl_X3_9 (q_blk_get (j := 0) rfl) rfl ?_
  refine q_alen dX3_add_15 (q_blk_get (j := 1) rfl) rfl (v := 16) rfl ?_
  refine q_icmp_ge (tgt := 39) dX3_add_16 (by decide) (fun c_16 => ?_) (fun c_16 => ?_)
  · exact q_vret dX3_add_39 rfl (by simp [w_rm, c_16]) (q_le rfl) (q_le rfl)
  · refine q_aload_n dX3_add_19 rfl ?_
    refine q_getf dX3_add_20 fl_X3_9 (q_blk_get (j := 0) rfl) rfl ?_
    refine q_aload_n dX3_add_23 rfl ?_
    refine q_getf dX3_add_24 fl_X3_15 (q_blk_get (j := 0) rfl) rfl ?_
    refine q_iload_n dX3_add_27 rfl ?_
    refine q_iast dX3_add_28 (q_blk_get (j := 1) rfl) (q_vq (nI_pos (by omega)) c_16 (by decide) (by decide)) ?_
    refine q_heap (q_blk_up (j := 1) (q_le rfl)) ?_
    refine q_aload_n dX3_add_29 rfl ?_
    refine q_dup dX3_add_30 rfl ?_
    refine q_getf dX3_add_31 fl_X3_15 (q_blk_get (j := 0) rfl) rfl ?_
    refine q_iconst dX3_add_34 (v := 1) (by decide) ?_
    refine q_iadd dX3_add_35 ?_
    refine q_stk (show _ = [Value.int (nI (ln + 1)), Value.ref p] from by rw [nI_1]) ?_
    refine q_putf dX3_add_36 pl_X3_15 (q_blk_get (j := 0) rfl) (q_le rfl) rfl rfl ?_
    refine q_heap (q_blk_up (j := 0) (q_le rfl)) ?_
    exact q_vret dX3_add_39 rfl (by simp [w_rm, c_16]) (q_le rfl) (q_le rfl)

set_option maxHeartbeats 4000000 in
set_option maxRecDepth 100000 in
theorem c_X3_at {f : q_Hp} {n p : Nat} {smp : Nat → Int32} {ln : Nat} {i : Nat} (hi : i < ln) (hl : ln ≤ 16) : Sp yX3_at uX3_at [.ref p, .int (nI i)] n (q_blk f p (rwE p smp ln)) (some (.int (smp (nI i).toNatClampNeg)), n, q_blk f p (rwE p smp ln)) := by
  refine Sp.ofF (by decide +kernel) rfl rfl (q_le rfl) ?_
  intro G d
  refine q_iload_n dX3_at_0 rfl ?_
  refine q_if_lt (tgt := 30) dX3_at_1 (by decide) (fun h_n => absurd h_n ((nI_pos (by omega)))) (fun c_1 => ?_)
  refine q_iload_n dX3_at_4 rfl ?_
  refine q_aload_n dX3_at_5 rfl ?_
  refine q_getf dX3_at_6 fl_X3_15 (q_blk_get (j := 0) rfl) rfl ?_
  refine q_icmp_ge (tgt := 30) dX3_at_9 (by decide) (fun h_n => absurd h_n ((nI_ge hi (by omega)))) (fun c_9 => ?_)
  refine q_iload_n dX3_at_12 rfl ?_
  refine q_aload_n dX3_at_13 rfl ?_
  refine q_getf dX3_at_14 fl_X3_9 (q_blk_get (j := 0) rfl) rfl ?_
  refine q_alen dX3_at_17 (q_blk_get (j := 1) rfl) rfl (v := 16) rfl ?_
  refine q_icmp_ge (tgt := 30) dX3_at_18 (by decide) (fun h_n => absurd h_n ((nI_ge (b := 16) (by omega) (by decide)))) (fun c_18 => ?_)
  refine q_aload_n dX3_at_21 rfl ?_
  refine q_getf dX3_at_22 fl_X3_9 (q_blk_get (j := 0) rfl) rfl ?_
  refine q_iload_n dX3_at_25 rfl ?_
  refine q_iald dX3_at_26 (q_blk_get (j := 1) rfl) (vp_in_nI (by omega) (by decide)) ?_
  refine q_goto (tgt := 31) dX3_at_27 (by decide) ?_
  exact q_iret dX3_at_31 rfl (rfl) (q_le rfl) (q_le rfl)

def t_has (len i : Int32) : Bool := !decide (i < 0) && !decide (len ≤ i) && !decide (600 ≤ i)
set_option maxHeartbeats 4000000 in
set_option maxRecDepth 100000 in
theorem c_X5_has {f : q_Hp} {n p : Nat} {sam : Nat → Int32} {len lost : Int32} {i : Int32} : Sp yX5_has uX5_has [.ref p, .int i] n (q_blk f p (tpE p sam len lost)) (some (.int (q_b (t_has len i))), n, q_blk f p (tpE p sam len lost)) := by
  refine Sp.ofF (by decide +kernel) rfl rfl (q_le rfl) ?_
  intro G d
  refine q_iload_n dX5_has_0 rfl ?_
  refine q_if_lt (tgt := 25) dX5_has_1 (by decide) (fun c_1 => ?_) (fun c_1 => ?_)
  · refine q_iconst dX5_has_25 (v := 0) (by decide) ?_
    exact q_zret dX5_has_26 rfl rfl (by simp [t_has, q_b, c_1]) (q_le rfl) (q_le rfl)
  · refine q_iload_n dX5_has_4 rfl ?_
    refine q_aload_n dX5_has_5 rfl ?_
    refine q_getf dX5_has_6 fl_X5_15 (q_blk_get (j := 0) rfl) rfl ?_
    refine q_icmp_ge (tgt := 25) dX5_has_9 (by decide) (fun c_9 => ?_) (fun c_9 => ?_)
    · refine q_iconst dX5_has_25 (v := 0) (by decide) ?_
      exact q_zret dX5_has_26 rfl rfl (by simp [t_has, q_b, c_1, c_9]) (q_le rfl) (q_le rfl)
    · refine q_iload_n dX5_has_12 rfl ?_
      refine q_aload_n dX5_has_13 rfl ?_
      refine q_getf dX5_has_14 fl_X5_9 (q_blk_get (j := 0) rfl) rfl ?_
      refine q_alen dX5_has_17 (q_blk_get (j := 1) rfl) rfl (v := 600) rfl ?_
      refine q_icmp_ge (tgt := 25) dX5_has_18 (by decide) (fun c_18 => ?_) (fun c_18 => ?_)
      · refine q_iconst dX5_has_25 (v := 0) (by decide) ?_
        exact q_zret dX5_has_26 rfl rfl (by simp [t_has, q_b, c_1, c_9, c_18]) (q_le rfl) (q_le rfl)
      · refine q_iconst dX5_has_21 (v := 1) (by decide) ?_
        refine q_goto (tgt := 26) dX5_has_22 (by decide) ?_
        exact q_zret dX5_has_26 rfl rfl (by simp [t_has, q_b, c_1, c_9, c_18]) (q_le rfl) (q_le rfl)

