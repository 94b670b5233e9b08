theorem q_blk_push {f : q_Hp} {p j : Nat} {es : List q_E} {e : q_E} (h : es.length = j) : q_up (q_blk f p es) (p + j) e = q_blk f p (es ++ [e]) := by
  subst h
  funext q
  by_cases hq : q = p + es.length
  · subst hq
    rw [q_up_self]
    exact (q_blk_get (by rw [List.getElem?_append_right (Nat.le_refl _)]; simp)).symm
  · rw [q_up_ne _ _ hq]
    unfold q_blk
    by_cases h1 : p ≤ q ∧ q < p + es.length
    · rw [if_pos h1, if_pos ⟨h1.1, by simp; omega⟩, List.getElem?_append_left (by omega)]
    · rw [if_neg h1, if_neg (by simp; omega)]
/-- a block that grows at its end -/
theorem q_blk_ext {f : q_Hp} {p j : Nat} {es es2 : List q_E} (h1 : j ≤ es.length) (h2 : es.length ≤ j + es2.length) : q_blk (q_blk f p es) (p + j) es2 = q_blk f p (es.take j ++ es2) := by
  funext q
  by_cases h3 : p + j ≤ q ∧ q < p + j + es2.length
  · obtain ⟨i, rfl⟩ : ∃ i, q = p + j + i := ⟨q - (p + j), by omega⟩
    have hi : i < es2.length := by omega
    rw [q_blk_get (f := q_blk f p es) (p := p + j) (List.getElem?_eq_getElem hi), Nat.add_assoc]
    refine (q_blk_get ?_).symm
    rw [List.getElem?_append_right (by simp; omega)]
    rw [show j + i - (es.take j).length = i by simp; omega]
    exact List.getElem?_eq_getElem hi
  · rw [q_blk_out (f := q_blk f p es) (by omega)]
    unfold q_blk
    by_cases h4 : p ≤ q ∧ q < p + j
    · rw [if_pos ⟨h4.1, by omega⟩, if_pos ⟨h4.1, by simp; omega⟩, List.getElem?_append_left (by simp; omega), List.getElem?_take, if_pos (by omega)]
    · rw [if_neg (by omega), if_neg (by simp; omega)]
theorem q_cIg {G : q_G} {d : q_D} {u u' : q_M} {z : q_Z} {ce sl n pc : Nat} {ls : q_L} {st stk : List Value} {f : q_Hp} {y : MethodName} {as : List Value} {p j i : Nat} {n' : Nat} {es es1 es2 : List q_E} (hS : Sp y u' (.ref (p + j) :: as) n (q_blk (q_blk f p es) (p + j) es1) (none, n', q_blk (q_blk f p es) (p + j) es2)) (hd : decode u.1 pc = .ok (.invokespecial i, 3)) (hw : q_LI u.2.1 i y u' as.length) (he : stk = as.reverse ++ .ref (p + j) :: st) (hv : (es.drop j).take es1.length = es1) (hj : j ≤ es.length) (hj2 : es.length ≤ j + es2.length) (hR : q_R u' u) (hce : ce + u'.2.2.2.1.cells ≤ u.2.2.2.1.cells) (hsl : sl + u'.2.2.2.1.slots ≤ u.2.2.2.1.slots) (hst : (st.map fun v => v.category).sum ≤ 8)
    (k : J G d u z (ce + u'.2.2.2.1.cells) (sl + u'.2.2.2.1.slots) n' (pc + 3) ls st (q_blk f p (es.take j ++ es2))) : J G d u z ce sl n pc ls stk (q_blk f p es) :=
  q_heap (q_blk_view hv) (q_cI hS hd hw he hR hce hsl hst (q_heap (q_blk_ext hj hj2) k))
set_option maxHeartbeats 4000000 in
set_option maxRecDepth 100000 in
theorem c_X0_init {f : q_Hp} {p : Nat}  : Sp yX0_init uX0_init [.ref p] (p + 1) (q_blk f p (laE 0 0 0 0 0 0 0)) (none, p + 1, q_blk f p (laE 0 0 0 0 0 0 0)) := by
  refine Sp.ofF (by decide +kernel) rfl rfl (q_le rfl) ?_
  intro G d
  refine q_aload_n dX0_init_0 rfl ?_
  refine q_objInit dX0_init_1 kl_X0_3 ko_1 ko_2 (q_le rfl) (q_le rfl) ?_
  refine q_aload_n dX0_init_4 rfl ?_
  refine q_iconst dX0_init_5 (v := 0) (by decide) ?_
  refine q_putf dX0_init_6 pl_X0_9 (q_blk_get (j := 0) rfl) (q_le rfl) rfl rfl ?_
  refine q_heap (q_blk_up (j := 0) (q_le rfl)) ?_
  exact q_vret dX0_init_9 rfl (rfl) (q_le rfl) (q_le rfl)

set_option maxHeartbeats 4000000 in
set_option maxRecDepth 100000 in
theorem c_X1_init {f : q_Hp} {p : Nat}  : Sp yX1_init uX1_init [.ref p] (p + 1) (q_blk f p [.inr (1, dfX1)]) (none, p + 2, q_blk f p (plE p 0 0 0 0 0 (fun _ => 0))) := by
  refine Sp.ofF (by decide +kernel) rfl rfl (q_le rfl) ?_
  intro G d
  refine q_aload_n dX1_init_0 rfl ?_
  refine q_objInit dX1_init_1 kl_X1_3 ko_1 ko_2 (q_le rfl) (q_le rfl) ?_
  refine q_aload_n dX1_init_4 rfl ?_
  refine q_iconst dX1_init_5 (v := 0) (by decide) ?_
  refine q_putf dX1_init_6 pl_X1_9 (q_blk_get (j := 0) rfl) (q_le rfl) rfl rfl ?_
  refine q_heap (q_blk_up (j := 0) (q_le rfl)) ?_
  refine q_aload_n dX1_init_9 rfl ?_
  refine q_bipush dX1_init_10 (v := 32) (by decide) ?_
  refine q_newa (t := 0) (m := 32) (a := (32, .inl (fun _ => 0))) (ty := .int) dX1_init_12 na_int rfl rfl (fun h => h) (fun _ => rfl) (by decide) (by decide) (by decide) (q_le rfl) (q_le rfl) ?_
  refine q_heap (q_blk_push (j := 1) rfl) ?_
  refine q_putF dX1_init_14 pl_X1_15 rfl (q_blk_get (j := 0) rfl) (q_le rfl) rfl rfl ?_
  refine q_heap (q_blk_up (j := 0) (q_le rfl)) ?_
  exact q_vret dX1_init_17 rfl (rfl) (q_le rfl) (q_le rfl)

set_option maxHeartbeats 4000000 in
set_option maxRecDepth 100000 in
theorem c_X2_init {f : q_Hp} {p : Nat}  : Sp yX2_init uX2_init [.ref p] (p + 1) (q_blk f p [.inr (2, dfX2)]) (none, p + 2, q_blk f p (rgE p (fun _ => 0) 0)) := by
  refine Sp.ofF (by decide +kernel) rfl rfl (q_le rfl) ?_
  intro G d
  refine q_aload_n dX2_init_0 rfl ?_
  refine q_objInit dX2_init_1 kl_X2_3 ko_1 ko_2 (q_le rfl) (q_le rfl) ?_
  refine q_aload_n dX2_init_4 rfl ?_
  refine q_bipush dX2_init_5 (v := 32) (by decide) ?_
  refine q_newa (t := 1) (m := 32) (a := (32, .inl (fun _ => 0))) (ty := .short) dX2_init_7 na_short rfl rfl (fun h => h) (fun _ => rfl) (by decide) (by decide) (by decide) (q_le rfl) (q_le rfl) ?_
  refine q_heap (q_blk_push (j := 1) rfl) ?_
  refine q_putF dX2_init_9 pl_X2_9 rfl (q_blk_get (j := 0) rfl) (q_le rfl) rfl rfl ?_
  refine q_heap (q_blk_up (j := 0) (q_le rfl)) ?_
  refine q_aload_n dX2_init_12 rfl ?_
  refine q_iconst dX2_init_13 (v := 0) (by decide) ?_
  refine q_putf dX2_init_14 pl_X2_15 (q_blk_get (j := 0) rfl) (q_le rfl) rfl rfl ?_
  refine q_heap (q_blk_up (j := 0) (q_le rfl)) ?_
  exact q_vret dX2_init_17 rfl (rfl) (q_le rfl) (q_le rfl)

set_option maxHeartbeats 4000000 in
set_option maxRecDepth 100000 in
theorem c_X3_init {f : q_Hp} {p : Nat}  : Sp yX3_init uX3_init [.ref p] (p + 1) (q_blk f p [.inr (3, dfX3)]) (none, p + 2, q_blk f p (rwE p (fun _ => 0) 0)) := by
  refine Sp.ofF (by decide +kernel) rfl rfl (q_le rfl) ?_
  intro G d
  refine q_aload_n dX3_init_0 rfl ?_
  refine q_objInit dX3_init_1 kl_X3_3 ko_1 ko_2 (q_le rfl) (q_le rfl) ?_
  refine q_aload_n dX3_init_4 rfl ?_
  refine q_bipush dX3_init_5 (v := 16) (by decide) ?_
  refine q_newa (t := 0) (m := 16) (a := (16, .inl (fun _ => 0))) (ty := .int) dX3_init_7 na_int rfl rfl (fun h => h) (fun _ => rfl) (by decide) (by decide) (by decide) (q_le rfl) (q_le rfl) ?_
  refine q_heap (q_blk_push (j := 1) rfl) ?_
  refine q_putF dX3_init_9 pl_X3_9 rfl (q_blk_get (j := 0) rfl) (q_le rfl) rfl rfl ?_
  refine q_heap (q_blk_up (j := 0) (q_le rfl)) ?_
  refine q_aload_n dX3_init_12 rfl ?_
  refine q_iconst dX3_init_13 (v := 0) (by decide) ?_
  refine q_putf dX3_init_14 pl_X3_15 (q_blk_get (j := 0) rfl) (q_le rfl) rfl rfl ?_
  refine q_heap (q_blk_up (j := 0) (q_le rfl)) ?_
  exact q_vret dX3_init_17 rfl (rfl) (q_le rfl) (q_le rfl)

set_option maxHeartbeats 4000000 in
set_option maxRecDepth 100000 in
theorem c_X5_init {f : q_Hp} {p : Nat}  : Sp yX5_init uX5_init [.ref p] (p + 1) (q_blk f p [.inr (5, dfX5)]) (none, p + 2, q_blk f p (tpE p (fun _ => 0) 0 0)) := by
  refine Sp.ofF (by decide +kernel) rfl rfl (q_le rfl) ?_
  intro G d
  refine q_aload_n dX5_init_0 rfl ?_
  refine q_objInit dX5_init_1 kl_X5_3 ko_1 ko_2 (q_le rfl) (q_le rfl) ?_
  refine q_aload_n dX5_init_4 rfl ?_
  refine q_sipush dX5_init_5 (v := 600) (by decide) ?_
  refine q_newa (t := 1) (m := 600) (a := (600, .inl (fun _ => 0))) (ty := .short) dX5_init_8 na_short rfl rfl (fun h => h) (fun _ => rfl) (by decide) (by decide) (by decide) (q_le rfl) (q_le rfl) ?_
  refine q_heap (q_blk_push (j := 1) rfl) ?_
  refine q_putF dX5_init_10 pl_X5_9 rfl (q_blk_get (j := 0) rfl) (q_le rfl) rfl rfl ?_
  refine q_heap (q_blk_up (j := 0) (q_le rfl)) ?_
  refine q_aload_n dX5_init_13 rfl ?_
  refine q_iconst dX5_init_14 (v := 0) (by decide) ?_
  refine q_putf dX5_init_15 pl_X5_15 (q_blk_get (j := 0) rfl) (q_le rfl) rfl rfl ?_
  refine q_heap (q_blk_up (j := 0) (q_le rfl)) ?_
  refine q_aload_n dX5_init_18 rfl ?_
  refine q_iconst dX5_init_19 (v := 0) (by decide) ?_
  refine q_putf dX5_init_20 pl_X5_19 (q_blk_get (j := 0) rfl) (q_le rfl) rfl rfl ?_
  refine q_heap (q_blk_up (j := 0) (q_le rfl)) ?_
  exact q_vret dX5_init_23 rfl (rfl) (q_le rfl) (q_le rfl)

def s_new (below by_ : Int32) : q_St := (below, by_, 0, 0, 0, 0, 0, 0, 0, (fun _ => 0), 0, 0, 0, 0, 0, (fun _ => 0), 0, 0, 0, 0, 0, 0, 0, (fun _ => 0), 0)
set_option maxHeartbeats 4000000 in
set_option maxRecDepth 100000 in
theorem c_X4_init {f : q_Hp} {p : Nat} {below by_ : Int32} : Sp yX4_init uX4_init [.ref p, .int below, .int by_] (p + 1) (q_blk f p [.inr (4, dfX4)]) (none, p + 7, q_blk f p (stE p (s_new below by_))) := by
  refine Sp.ofF (by decide +kernel) rfl rfl (q_le rfl) ?_
  intro G d
  refine q_aload_n dX4_init_0 rfl ?_
  refine q_objInit dX4_init_1 kl_X4_3 ko_1 ko_2 (q_le rfl) (q_le rfl) ?_
  refine q_aload_n dX4_init_4 rfl ?_
  refine q_iload_n dX4_init_5 rfl ?_
  refine q_putF dX4_init_6 pl_X4_9 rfl (q_blk_get (j := 0) rfl) (q_le rfl) rfl rfl ?_
  refine q_heap (q_blk_up (j := 0) (q_le rfl)) ?_
  refine q_aload_n dX4_init_9 rfl ?_
  refine q_iload_n dX4_init_10 rfl ?_
  refine q_putF dX4_init_11 pl_X4_15 rfl (q_blk_get (j := 0) rfl) (q_le rfl) rfl rfl ?_
  refine q_heap (q_blk_up (j := 0) (q_le rfl)) ?_
  refine q_aload_n dX4_init_14 rfl ?_
  refine q_bipush dX4_init_15 (v := 32) (by decide) ?_
  refine q_newa (t := 0) (m := 32) (a := (32, .inl (fun _ => 0))) (ty := .int) dX4_init_17 na_int rfl rfl (fun h => h) (fun _ => rfl) (by decide) (by decide) (by decide) (q_le rfl) (q_le rfl) ?_
  refine q_heap (q_blk_push (j := 1) rfl) ?_
  refine q_putF dX4_init_19 pl_X4_18 rfl (q_blk_get (j := 0) rfl) (q_le rfl) rfl rfl ?_
  refine q_heap (q_blk_up (j := 0) (q_le rfl)) ?_
  refine q_aload_n dX4_init_22 rfl ?_
  refine q_iconst dX4_init_23 (v := 0) (by decide) ?_
  refine q_putf dX4_init_24 pl_X4_22 (q_blk_get (j := 0) rfl) (q_le rfl) rfl rfl ?_
  refine q_heap (q_blk_up (j := 0) (q_le rfl)) ?_
  refine q_aload_n dX4_init_27 rfl ?_
  refine q_iconst dX4_init_28 (v := 0) (by decide) ?_
  refine q_putf dX4_init_29 pl_X4_25 (q_blk_get (j := 0) rfl) (q_le rfl) rfl rfl ?_
  refine q_heap (q_blk_up (j := 0) (q_le rfl)) ?_
  refine q_aload_n dX4_init_32 rfl ?_
  refine q_iconst dX4_init_33 (v := 0) (by decide) ?_
  refine q_putf dX4_init_34 pl_X4_28 (q_blk_get (j := 0) rfl) (q_le rfl) rfl rfl ?_
  refine q_heap (q_blk_up (j := 0) (q_le rfl)) ?_
  refine q_aload_n dX4_init_37 rfl ?_
  refine q_new (ci := 1) (ty := tyX1) dX4_init_38 nl_X4_32 ni_X1 nz_X1 rfl iqX1 tyX1_ok (dfX1_ok d) (q_le rfl) (q_le rfl) ?_
  refine q_heap (q_blk_push (j := 2) rfl) ?_
  refine q_dup dX4_init_41 rfl ?_
  refine q_cIg (j := 2) (c_X1_init) dX4_init_42 kl_X4_34 rfl rfl (q_le rfl) (q_le rfl) ⟨q_le rfl, q_le rfl⟩ (q_le rfl) (q_le rfl) (q_le rfl) ?_
  refine q_putF dX4_init_45 pl_X4_35 rfl (q_blk_get (j := 0) rfl) (q_le rfl) rfl rfl ?_
  refine q_heap (q_blk_up (j := 0) (q_le rfl)) ?_
  refine q_aload_n dX4_init_48 rfl ?_
  refine q_new (ci := 0) (ty := tyX0) dX4_init_49 nl_X4_39 ni_X0 nz_X0 rfl iqX0 tyX0_ok (dfX0_ok d) (q_le rfl) (q_le rfl) ?_
  refine q_heap (q_blk_push (j := 4) rfl) ?_
  refine q_dup dX4_init_52 rfl ?_
  refine q_cIg (j := 4) (c_X0_init) dX4_init_53 kl_X4_41 rfl rfl (q_le rfl) (q_le rfl) ⟨q_le rfl, q_le rfl⟩ (q_le rfl) (q_le rfl) (q_le rfl) ?_
  refine q_putF dX4_init_56 pl_X4_42 rfl (q_blk_get (j := 0) rfl) (q_le rfl) rfl rfl ?_
  refine q_heap (q_blk_up (j := 0) (q_le rfl)) ?_
  refine q_aload_n dX4_init_59 rfl ?_
  refine q_new (ci := 2) (ty := tyX2) dX4_init_60 nl_X4_46 ni_X2 nz_X2 rfl iqX2 tyX2_ok (dfX2_ok d) (q_le rfl) (q_le rfl) ?_
  refine q_heap (q_blk_push (j := 5) rfl) ?_
  refine q_dup dX4_init_63 rfl ?_
  refine q_cIg (j := 5) (c_X2_init) dX4_init_64 kl_X4_48 rfl rfl (q_le rfl) (q_le rfl) ⟨q_le rfl, q_le rfl⟩ (q_le rfl) (q_le rfl) (q_le rfl) ?_
  refine q_putF dX4_init_67 pl_X4_49 rfl (q_blk_get (j := 0) rfl) (q_le rfl) rfl rfl ?_
  refine q_heap (q_blk_up (j := 0) (q_le rfl)) ?_
  exact q_vret dX4_init_70 rfl (rfl) (q_le rfl) (q_le rfl)

def l_near (rnd ex ssz : Int64) (rby below shift : Int32) : Bool := !decide ((ssz + (if rby = 0 then 2 * ((1 : Int64) <<< (shift.toInt64 &&& 63)) else if rby = 1 then 2 * ((1 : Int64) <<< (shift.toInt64 &&& 63)) else (1 : Int64) <<< (shift.toInt64 &&& 63))) * below.toInt64 < m_abs (rnd * below.toInt64 - ex) * (2 * ((1 : Int64) <<< (shift.toInt64 &&& 63))))
set_option maxHeartbeats 4000000 in
set_option maxRecDepth 100000 in
theorem c_X0_isWithinBound {f : q_Hp} {n p : Nat} {lst : Int32} {sum ex rnd : Int64} {out : Int32} {ssz : Int64} {rby : Int32} {below shift : Int32} : Sp yX0_isWithinBound uX0_isWithinBound [.ref p, .int below, .int shift] n (q_blk f p (laE lst sum ex rnd out ssz rby)) (some (.int (q_b (l_near rnd ex ssz rby below shift))), n, q_blk f p (laE lst sum ex rnd out ssz rby)) := by
  refine Sp.ofF (by decide +kernel) rfl rfl (q_le rfl) ?_
  intro G d
  refine q_aload_n dX0_isWithinBound_0 rfl ?_
  refine q_getf dX0_isWithinBound_1 fl_X0_25 (q_blk_get (j := 0) rfl) rfl ?_
  refine q_iload_n dX0_isWithinBound_4 rfl ?_
  refine q_i2l dX0_isWithinBound_5 ?_
  refine q_lmul dX0_isWithinBound_6 ?_
  refine q_aload_n dX0_isWithinBound_7 rfl ?_
  refine q_getf dX0_isWithinBound_8 fl_X0_19 (q_blk_get (j := 0) rfl) rfl ?_
  refine q_lsub dX0_isWithinBound_11 ?_
  refine q_cS (c_J9_abs_067f4) dX0_isWithinBound_12 kl_X0_35 rfl ⟨q_le rfl, q_le rfl⟩ (q_le rfl) (q_le rfl) (q_le rfl) ?_
  refine q_lstore_n dX0_isWithinBound_15 (q_le rfl) ?_
  refine q_lconst dX0_isWithinBound_16 (v := 1) (by decide) ?_
  refine q_iload_n dX0_isWithinBound_17 rfl ?_
  refine q_lshl dX0_isWithinBound_18 ?_
  refine q_lstore dX0_isWithinBound_19 (q_le rfl) ?_
  refine q_aload_n dX0_isWithinBound_21 rfl ?_
  refine q_getf dX0_isWithinBound_22 fl_X0_32 (q_blk_get (j := 0) rfl) rfl ?_
  refine q_if_eq (tgt := 36) dX0_isWithinBound_25 (by decide) (fun c_25 => ?_) (fun c_25 => ?_)
  · refine q_ldc2 dX0_isWithinBound_36 cn_X0_41 ?_
    refine q_lload dX0_isWithinBound_39 rfl ?_
    refine q_lmul dX0_isWithinBound_41 ?_
    refine q_goto (tgt := 47) dX0_isWithinBound_42 (by decide) ?_
    refine q_lstore dX0_isWithinBound_47 (q_le rfl) ?_
    refine q_lload_n dX0_isWithinBound_49 rfl ?_
    refine q_ldc2 dX0_isWithinBound_50 cn_X0_41 ?_
    refine q_lload dX0_isWithinBound_53 rfl ?_
    refine q_lmul dX0_isWithinBound_55 ?_
    refine q_lmul dX0_isWithinBound_56 ?_
    refine q_aload_n dX0_isWithinBound_57 rfl ?_
    refine q_getf dX0_isWithinBound_58 fl_X0_22 (q_blk_get (j := 0) rfl) rfl ?_
    refine q_lload dX0_isWithinBound_61 rfl ?_
    refine q_ladd dX0_isWithinBound_63 ?_
    refine q_iload_n dX0_isWithinBound_64 rfl ?_
    refine q_i2l dX0_isWithinBound_65 ?_
    refine q_lmul dX0_isWithinBound_66 ?_
    refine q_lcmp_gt (tgt := 75) dX0_isWithinBound_67 dX0_isWithinBound_68 (by decide) (fun c_67 => ?_) (fun c_67 => ?_)
    · refine q_iconst dX0_isWithinBound_75 (v := 0) (by decide) ?_
      exact q_zret dX0_isWithinBound_76 rfl rfl (by rw [show l_near rnd ex ssz rby below shift = false by simp only [l_near, c_25, if_true, if_false]; simp [c_67]]; rfl) (q_le rfl) (q_le rfl)
    · refine q_iconst dX0_isWithinBound_71 (v := 1) (by decide) ?_
      refine q_goto (tgt := 76) dX0_isWithinBound_72 (by decide) ?_
      exact q_zret dX0_isWithinBound_76 rfl rfl (by rw [show l_near rnd ex ssz rby below shift = true by simp only [l_near, c_25, if_true, if_false]; simp [c_67]]; rfl) (q_le rfl) (q_le rfl)
  · refine q_aload_n dX0_isWithinBound_28 rfl ?_
    refine q_getf dX0_isWithinBound_29 fl_X0_32 (q_blk_get (j := 0) rfl) rfl ?_
    refine q_iconst dX0_isWithinBound_32 (v := 1) (by decide) ?_
    refine q_icmp_ne (tgt := 45) dX0_isWithinBound_33 (by decide) (fun c_33 => ?_) (fun c_33 => ?_)
    · refine q_lload dX0_isWithinBound_45 rfl ?_
      refine q_lstore dX0_isWithinBound_47 (q_le rfl) ?_
      refine q_lload_n dX0_isWithinBound_49 rfl ?_
      refine q_ldc2 dX0_isWithinBound_50 cn_X0_41 ?_
      refine q_lload dX0_isWithinBound_53 rfl ?_
      refine q_lmul dX0_isWithinBound_55 ?_
      refine q_lmul dX0_isWithinBound_56 ?_
      refine q_aload_n dX0_isWithinBound_57 rfl ?_
      refine q_getf dX0_isWithinBound_58 fl_X0_22 (q_blk_get (j := 0) rfl) rfl ?_
      refine q_lload dX0_isWithinBound_61 rfl ?_
      refine q_ladd dX0_isWithinBound_63 ?_
      refine q_iload_n dX0_isWithinBound_64 rfl ?_
      refine q_i2l dX0_isWithinBound_65 ?_
      refine q_lmul dX0_isWithinBound_66 ?_
      refine q_lcmp_gt (tgt := 75) dX0_isWithinBound_67 dX0_isWithinBound_68 (by decide) (fun c_67 => ?_) (fun c_67 => ?_)
      · refine q_iconst dX0_isWithinBound_75 (v := 0) (by decide) ?_
        exact q_zret dX0_isWithinBound_76 rfl rfl (by rw [show l_near rnd ex ssz rby below shift = false by simp only [l_near, c_25, c_33, if_true, if_false]; simp [c_67]]; rfl) (q_le rfl) (q_le rfl)
      · refine q_iconst dX0_isWithinBound_71 (v := 1) (by decide) ?_
        refine q_goto (tgt := 76) dX0_isWithinBound_72 (by decide) ?_
        exact q_zret dX0_isWithinBound_76 rfl rfl (by rw [show l_near rnd ex ssz rby below shift = true by simp only [l_near, c_25, c_33, if_true, if_false]; simp [c_67]]; rfl) (q_le rfl) (q_le rfl)
    · refine q_ldc2 dX0_isWithinBound_36 cn_X0_41 ?_
      refine q_lload dX0_isWithinBound_39 rfl ?_
      refine q_lmul dX0_isWithinBound_41 ?_
      refine q_goto (tgt := 47) dX0_isWithinBound_42 (by decide) ?_
      refine q_lstore dX0_isWithinBound_47 (q_le rfl) ?_
      refine q_lload_n dX0_isWithinBound_49 rfl ?_
      refine q_ldc2 dX0_isWithinBound_50 cn_X0_41 ?_
      refine q_lload dX0_isWithinBound_53 rfl ?_
      refine q_lmul dX0_isWithinBound_55 ?_
      refine q_lmul dX0_isWithinBound_56 ?_
      refine q_aload_n dX0_isWithinBound_57 rfl ?_
      refine q_getf dX0_isWithinBound_58 fl_X0_22 (q_blk_get (j := 0) rfl) rfl ?_
      refine q_lload dX0_isWithinBound_61 rfl ?_
      refine q_ladd dX0_isWithinBound_63 ?_
      refine q_iload_n dX0_isWithinBound_64 rfl ?_
      refine q_i2l dX0_isWithinBound_65 ?_
      refine q_lmul dX0_isWithinBound_66 ?_
      refine q_lcmp_gt (tgt := 75) dX0_isWithinBound_67 dX0_isWithinBound_68 (by decide) (fun c_67 => ?_) (fun c_67 => ?_)
      · refine q_iconst dX0_isWithinBound_75 (v := 0) (by decide) ?_
        exact q_zret dX0_isWithinBound_76 rfl rfl (by rw [show l_near rnd ex ssz rby below shift = false by simp only [l_near, c_25, c_33, if_true, if_false]; simp [c_67]]; rfl) (q_le rfl) (q_le rfl)
      · refine q_iconst dX0_isWithinBound_71 (v := 1) (by decide) ?_
        refine q_goto (tgt := 76) dX0_isWithinBound_72 (by decide) ?_
        exact q_zret dX0_isWithinBound_76 rfl rfl (by rw [show l_near rnd ex ssz rby below shift = true by simp only [l_near, c_25, c_33, if_true, if_false]; simp [c_67]]; rfl) (q_le rfl) (q_le rfl)

