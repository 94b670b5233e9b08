def r_clr (wds : Nat → Int32) : Nat → Nat → Int32
  | 0 => wds
  | i + 1 => upd (r_clr wds i) (nI i).toNatClampNeg (vp_nar .short 0)
set_option maxHeartbeats 4000000 in
set_option maxRecDepth 100000 in
theorem lp_X2_clear {G : q_G} {d : q_D} {z : q_Z} {f : q_Hp} {n p : Nat} {wds : Nat → Int32} {rhd : Int32}  (hx : J G d uX2_clear z 0 0 n 24 (q_l [(0, .ref p), (1, .int (nI 32))]) [] (q_blk f p (rgE p (r_clr wds 32) rhd))) : ∀ (k i : Nat), i + k = 32 → J G d uX2_clear z 0 0 n 2 (q_l [(0, .ref p), (1, .int (nI i))]) [] (q_blk f p (rgE p (r_clr wds i) rhd)) := by
  intro k
  induction k with
  | zero =>
    intro i hi
    rw [show i = 32 by omega]
    refine q_iload_n dX2_clear_2 rfl ?_
    refine q_aload_n dX2_clear_3 rfl ?_
    refine q_getf dX2_clear_4 fl_X2_9 (q_blk_get (j := 0) rfl) rfl ?_
    refine q_alen dX2_clear_7 (q_blk_get (j := 1) rfl) rfl (v := 32) rfl ?_
    refine q_icmp_ge (tgt := 24) dX2_clear_8 (by decide) (fun c_8 => ?_) (fun h_n => absurd ((by decide)) h_n)
    exact q_lo [(0, .ref p), (1, .int (nI 32))] ⟨rfl, rfl, trivial⟩ hx
  | succ k ih =>
    intro i hi
    refine q_iload_n dX2_clear_2 rfl ?_
    refine q_aload_n dX2_clear_3 rfl ?_
    refine q_getf dX2_clear_4 fl_X2_9 (q_blk_get (j := 0) rfl) rfl ?_
    refine q_alen dX2_clear_7 (q_blk_get (j := 1) rfl) rfl (v := 32) rfl ?_
    refine q_icmp_ge (tgt := 24) dX2_clear_8 (by decide) (fun h_n => absurd h_n ((q_ge32 (by omega)))) (fun c_8 => ?_)
    refine q_aload_n dX2_clear_11 rfl ?_
    refine q_getf dX2_clear_12 fl_X2_9 (q_blk_get (j := 0) rfl) rfl ?_
    refine q_iload_n dX2_clear_15 rfl ?_
    refine q_iconst dX2_clear_16 (v := 0) (by decide) ?_
    refine q_sast dX2_clear_17 (q_blk_get (j := 1) rfl) (q_in32 (by omega)) ?_
    refine q_heap (q_blk_up (j := 1) (q_le rfl)) ?_
    refine q_iinc dX2_clear_18 rfl (v := nI (i + 1)) (nI_1 i) ?_
    refine q_goto (tgt := 2) dX2_clear_21 (by decide) ?_
    exact q_lo [(0, .ref p), (1, .int (nI (i + 1)))] ⟨rfl, rfl, trivial⟩ (ih (i + 1) (by omega))

set_option maxHeartbeats 4000000 in
set_option maxRecDepth 100000 in
theorem c_X2_clear {f : q_Hp} {n p : Nat} {wds : Nat → Int32} {rhd : Int32} : Sp yX2_clear uX2_clear [.ref p] n (q_blk f p (rgE p wds rhd)) (none, n, q_blk f p (rgE p (r_clr wds 32) 0)) := by
  refine Sp.ofF (by decide +kernel) rfl rfl (q_le rfl) ?_
  intro G d
  refine q_iconst dX2_clear_0 (v := 0) (by decide) ?_
  refine q_istore_n dX2_clear_1 (q_le rfl) ?_
  refine q_lo [(0, .ref p), (1, .int (nI 0))] ⟨rfl, rfl, trivial⟩ (lp_X2_clear ?_ 32 0 (by omega))
  refine q_aload_n dX2_clear_24 rfl ?_
  refine q_iconst dX2_clear_25 (v := 0) (by decide) ?_
  refine q_putf dX2_clear_26 pl_X2_15 (q_blk_get (j := 0) rfl) (q_le rfl) rfl rfl ?_
  refine q_heap (q_blk_up (j := 0) (q_le rfl)) ?_
  exact q_vret dX2_clear_29 rfl (rfl) (q_le rfl) (q_le rfl)

theorem t_has_in {len i : Int32} (h : t_has len i = true) : vp_in i 600 := by
  simp only [t_has, Bool.and_eq_true, Bool.not_eq_true', decide_eq_false_iff_not] at h
  exact q_vq (M := 600) h.1.1 h.2 (by decide) (by decide)
def t_at (sam : Nat → Int32) (len i : Int32) : Int32 := bif t_has len i then sam i.toNatClampNeg else 0
def t_room (len : Int32) : Bool := !decide (len < 0) && decide (len < 600)
theorem t_room_in {len : Int32} (h : ¬ len < 0) (h2 : len < 600) : vp_in len 600 := by
  refine q_vq (M := 600) h (fun e => ?_) (by decide) (by decide)
  exact Int32.lt_irrefl (Int32.lt_of_lt_of_le h2 e)
def t_mix (sam : Nat → Int32) (len : Int32) (h : Int64) : Nat → Int64
  | 0 => h
  | i + 1 => 31 * t_mix sam len h i + (t_at sam len (nI i)).toInt64
set_option maxHeartbeats 4000000 in
set_option maxRecDepth 100000 in
theorem c_X5_at {f : q_Hp} {n p : Nat} {sam : Nat → Int32} {len lost : Int32} {i : Int32} : Sp yX5_at uX5_at [.ref p, .int i] n (q_blk f p (tpE p sam len lost)) (some (.int (t_at sam len i)), n, q_blk f p (tpE p sam len lost)) := by
  refine Sp.ofF (by decide +kernel) rfl rfl (q_le rfl) ?_
  intro G d
  refine q_aload_n dX5_at_0 rfl ?_
  refine q_iload_n dX5_at_1 rfl ?_
  refine q_cW (c_X5_has) dX5_at_2 kl_X5_22 rfl (q_blk_get (j := 0) rfl) rfl ⟨q_le rfl, q_le rfl⟩ (q_le rfl) (q_le rfl) (q_le rfl) ?_
  refine q_ifeq_b (tgt := 17) dX5_at_5 (by decide) (fun c_5 => ?_) (fun c_5 => ?_)
  · refine q_iconst dX5_at_17 (v := 0) (by decide) ?_
    exact q_iret dX5_at_18 rfl (by simp [t_at, c_5]) (q_le rfl) (q_le rfl)
  · refine q_aload_n dX5_at_8 rfl ?_
    refine q_getf dX5_at_9 fl_X5_9 (q_blk_get (j := 0) rfl) rfl ?_
    refine q_iload_n dX5_at_12 rfl ?_
    refine q_sald dX5_at_13 (q_blk_get (j := 1) rfl) (t_has_in c_5) ?_
    refine q_goto (tgt := 18) dX5_at_14 (by decide) ?_
    exact q_iret dX5_at_18 rfl (by simp [t_at, c_5]) (q_le rfl) (q_le rfl)

set_option maxHeartbeats 4000000 in
set_option maxRecDepth 100000 in
theorem c_X5_add {f : q_Hp} {n p : Nat} {sam : Nat → Int32} {len lost : Int32} {x : Int32} : Sp yX5_add uX5_add [.ref p, .int x] n (q_blk f p (tpE p sam len lost)) (none, n, q_blk f p (tpE p (bif t_room len then upd sam len.toNatClampNeg (vp_nar .short x.toInt16.toInt32) else sam) (bif t_room len then len + 1 else len) (bif t_room len then lost else lost + 1))) := by
  refine Sp.ofF (by decide +kernel) rfl rfl (q_le rfl) ?_
  intro G d
  refine q_aload_n dX5_add_0 rfl ?_
  refine q_getf dX5_add_1 fl_X5_15 (q_blk_get (j := 0) rfl) rfl ?_
  refine q_if_lt (tgt := 19) dX5_add_4 (by decide) (fun c_4 => ?_) (fun c_4 => ?_)
  · refine q_aload_n dX5_add_19 rfl ?_
    refine q_dup dX5_add_20 rfl ?_
    refine q_getf dX5_add_21 fl_X5_19 (q_blk_get (j := 0) rfl) rfl ?_
    refine q_iconst dX5_add_24 (v := 1) (by decide) ?_
    refine q_iadd dX5_add_25 ?_
    refine q_putf dX5_add_26 pl_X5_19 (q_blk_get (j := 0) rfl) (q_le rfl) rfl rfl ?_
    refine q_heap (q_blk_up (j := 0) (q_le rfl)) ?_
    exact q_vret dX5_add_29 rfl (by rw [show t_room len = false by simp [t_room, c_4]]; rfl) (q_le rfl) (q_le rfl)
  · refine q_aload_n dX5_add_7 rfl ?_
    refine q_getf dX5_add_8 fl_X5_15 (q_blk_get (j := 0) rfl) rfl ?_
    refine q_aload_n dX5_add_11 rfl ?_
    refine q_getf dX5_add_12 fl_X5_9 (q_blk_get (j := 0) rfl) rfl ?_
    refine q_alen dX5_add_15 (q_blk_get (j := 1) rfl) rfl (v := 600) rfl ?_
    refine q_icmp_lt (tgt := 30) dX5_add_16 (by decide) (fun c_16 => ?_) (fun c_16 => ?_)
    · refine q_aload_n dX5_add_30 rfl ?_
      refine q_getf dX5_add_31 fl_X5_9 (q_blk_get (j := 0) rfl) rfl ?_
      refine q_aload_n dX5_add_34 rfl ?_
      refine q_getf dX5_add_35 fl_X5_15 (q_blk_get (j := 0) rfl) rfl ?_
      refine q_iload_n dX5_add_38 rfl ?_
      refine q_i2s dX5_add_39 ?_
      refine q_sast dX5_add_40 (q_blk_get (j := 1) rfl) (t_room_in c_4 c_16) ?_
      refine q_heap (q_blk_up (j := 1) (q_le rfl)) ?_
      refine q_aload_n dX5_add_41 rfl ?_
      refine q_dup dX5_add_42 rfl ?_
      refine q_getf dX5_add_43 fl_X5_15 (q_blk_get (j := 0) rfl) rfl ?_
      refine q_iconst dX5_add_46 (v := 1) (by decide) ?_
      refine q_iadd dX5_add_47 ?_
      refine q_putf dX5_add_48 pl_X5_15 (q_blk_get (j := 0) rfl) (q_le rfl) rfl rfl ?_
      refine q_heap (q_blk_up (j := 0) (q_le rfl)) ?_
      exact q_vret dX5_add_51 rfl (by rw [show t_room len = true by simp [t_room, c_4, c_16]]; rfl) (q_le rfl) (q_le rfl)
    · refine q_aload_n dX5_add_19 rfl ?_
      refine q_dup dX5_add_20 rfl ?_
      refine q_getf dX5_add_21 fl_X5_19 (q_blk_get (j := 0) rfl) rfl ?_
      refine q_iconst dX5_add_24 (v := 1) (by decide) ?_
      refine q_iadd dX5_add_25 ?_
      refine q_putf dX5_add_26 pl_X5_19 (q_blk_get (j := 0) rfl) (q_le rfl) rfl rfl ?_
      refine q_heap (q_blk_up (j := 0) (q_le rfl)) ?_
      exact q_vret dX5_add_29 rfl (by rw [show t_room len = false by simp [t_room, c_4, c_16]]; rfl) (q_le rfl) (q_le rfl)

set_option maxHeartbeats 4000000 in
set_option maxRecDepth 100000 in
theorem lp_X5_mix {G : q_G} {d : q_D} {z : q_Z} {f : q_Hp} {n p : Nat} {sam : Nat → Int32} {c : Nat} {lost : Int32} {h0 : Int64} (hc : c ≤ 600) (hx : J G d uX5_mixSamples z 0 0 n 29 (q_l [(0, .ref p), (1, .long (t_mix sam (nI c) h0 c)), (3, .int (nI c))]) [] (q_blk f p (tpE p sam (nI c) lost))) : ∀ (k i : Nat), i + k = c → J G d uX5_mixSamples z 0 0 n 2 (q_l [(0, .ref p), (1, .long (t_mix sam (nI c) h0 i)), (3, .int (nI i))]) [] (q_blk f p (tpE p sam (nI c) lost)) := by
  intro k
  induction k with
  | zero =>
    intro i hi
    rw [show i = c by omega]
    refine q_iload_n dX5_mixSamples_2 rfl ?_
    refine q_aload_n dX5_mixSamples_3 rfl ?_
    refine q_getf dX5_mixSamples_4 fl_X5_15 (q_blk_get (j := 0) rfl) rfl ?_
    refine q_icmp_ge (tgt := 29) dX5_mixSamples_7 (by decide) (fun c_7 => ?_) (fun h_n => absurd ((Int32.le_refl _)) h_n)
    exact q_lo [(0, .ref p), (1, .long (t_mix sam (nI c) h0 c)), (3, .int (nI c))] ⟨rfl, rfl, rfl, trivial⟩ hx
  | succ k ih =>
    intro i hi
    refine q_iload_n dX5_mixSamples_2 rfl ?_
    refine q_aload_n dX5_mixSamples_3 rfl ?_
    refine q_getf dX5_mixSamples_4 fl_X5_15 (q_blk_get (j := 0) rfl) rfl ?_
    refine q_icmp_ge (tgt := 29) dX5_mixSamples_7 (by decide) (fun h_n => absurd h_n ((nI_ge (by omega) (by omega)))) (fun c_7 => ?_)
    refine q_ldc2 dX5_mixSamples_10 cn_X5_26 ?_
    refine q_lload_n dX5_mixSamples_13 rfl ?_
    refine q_lmul dX5_mixSamples_14 ?_
    refine q_aload_n dX5_mixSamples_15 rfl ?_
    refine q_iload_n dX5_mixSamples_16 rfl ?_
    refine q_cW (c_X5_at) dX5_mixSamples_17 kl_X5_28 rfl (q_blk_get (j := 0) rfl) rfl ⟨q_le rfl, q_le rfl⟩ (q_le rfl) (q_le rfl) (q_le rfl) ?_
    refine q_i2l dX5_mixSamples_20 ?_
    refine q_ladd dX5_mixSamples_21 ?_
    refine q_lstore_n dX5_mixSamples_22 (q_le rfl) ?_
    refine q_iinc dX5_mixSamples_23 rfl (v := nI (i + 1)) (nI_1 i) ?_
    refine q_goto (tgt := 2) dX5_mixSamples_26 (by decide) ?_
    exact q_lo [(0, .ref p), (1, .long (t_mix sam (nI c) h0 (i + 1))), (3, .int (nI (i + 1)))] ⟨rfl, rfl, rfl, trivial⟩ (ih (i + 1) (by omega))

set_option maxHeartbeats 4000000 in
set_option maxRecDepth 100000 in
theorem c_X5_mixSamples {f : q_Hp} {n p : Nat} {sam : Nat → Int32} {c : Nat} {lost : Int32} {h0 : Int64} (hc : c ≤ 600) : Sp yX5_mixSamples uX5_mixSamples [.ref p, .long h0] n (q_blk f p (tpE p sam (nI c) lost)) (some (.long (t_mix sam (nI c) h0 c)), n, q_blk f p (tpE p sam (nI c) lost)) := by
  refine Sp.ofF (by decide +kernel) rfl rfl (q_le rfl) ?_
  intro G d
  refine q_iconst dX5_mixSamples_0 (v := 0) (by decide) ?_
  refine q_istore_n dX5_mixSamples_1 (q_le rfl) ?_
  refine q_lo [(0, .ref p), (1, .long (t_mix sam (nI c) h0 0)), (3, .int (nI 0))] ⟨rfl, rfl, rfl, trivial⟩ (lp_X5_mix hc ?_ c 0 (by omega))
  refine q_lload_n dX5_mixSamples_29 rfl ?_
  exact q_lret dX5_mixSamples_30 rfl (rfl) (q_le rfl) (q_le rfl)

set_option maxHeartbeats 4000000 in
set_option maxRecDepth 100000 in
theorem c_X4_forget {f : q_Hp} {n p : Nat} {below by_ tc way wr thin : Int32} {cin hld gst : Int64} {taps : Nat → Int32} {pst bits word shift : Int32} {psz : Int64} {fac : Nat → Int32} {lst : Int32} {sum ex rnd : Int64} {out : Int32} {ssz : Int64} {rby : Int32} {wds : Nat → Int32} {rhd : Int32} : Sp yX4_forget uX4_forget [.ref p] n (q_blk f p (stE p (below, by_, tc, way, wr, thin, cin, hld, gst, taps, pst, bits, word, shift, psz, fac, lst, sum, ex, rnd, out, ssz, rby, wds, rhd))) (none, n, q_blk f p (stE p (below, by_, tc, way, wr, 0, 0, 0, 0, taps, pst, bits, word, shift, psz, fac, lst, sum, ex, rnd, out, ssz, rby, r_clr wds 32, 0))) := by
  refine Sp.ofF (by decide +kernel) rfl rfl (q_le rfl) ?_
  intro G d
  refine q_aload_n dX4_forget_0 rfl ?_
  refine q_getf dX4_forget_1 fl_X4_49 (q_blk_get (j := 0) rfl) rfl ?_
  refine q_cV (j := 5) (c_X2_clear) dX4_forget_4 kl_X4_88 rfl rfl rfl rfl (q_le rfl) ⟨q_le rfl, q_le rfl⟩ (q_le rfl) (q_le rfl) (q_le rfl) ?_
  refine q_aload_n dX4_forget_7 rfl ?_
  refine q_iconst dX4_forget_8 (v := 0) (by decide) ?_
  refine q_putf dX4_forget_9 pl_X4_91 (q_blk_get (j := 0) rfl) (q_le rfl) rfl rfl ?_
  refine q_heap (q_blk_up (j := 0) (q_le rfl)) ?_
  refine q_aload_n dX4_forget_12 rfl ?_
  refine q_lconst dX4_forget_13 (v := 0) (by decide) ?_
  refine q_putf dX4_forget_14 pl_X4_94 (q_blk_get (j := 0) rfl) (q_le rfl) rfl rfl ?_
  refine q_heap (q_blk_up (j := 0) (q_le rfl)) ?_
  refine q_aload_n dX4_forget_17 rfl ?_
  refine q_lconst dX4_forget_18 (v := 0) (by decide) ?_
  refine q_putf dX4_forget_19 pl_X4_98 (q_blk_get (j := 0) rfl) (q_le rfl) rfl rfl ?_
  refine q_heap (q_blk_up (j := 0) (q_le rfl)) ?_
  refine q_aload_n dX4_forget_22 rfl ?_
  refine q_lconst dX4_forget_23 (v := 0) (by decide) ?_
  refine q_putf dX4_forget_24 pl_X4_101 (q_blk_get (j := 0) rfl) (q_le rfl) rfl rfl ?_
  refine q_heap (q_blk_up (j := 0) (q_le rfl)) ?_
  exact q_vret dX4_forget_27 rfl (rfl) (q_le rfl) (q_le rfl)

def s_w (wds : Nat → Int32) (rhd : Int32) (k : Nat) : Int64 := (wds (r_ix rhd (nI k))).toInt64
def s_fac (fac : Nat → Int32) (k : Int32) : Int32 := bif k_in32 k then fac k.toNatClampNeg else 0
def s_sum (fac wds : Nat → Int32) (rhd : Int32) : Nat → Int64
  | 0 => 0
  | k + 1 => s_sum fac wds rhd k + (s_fac fac (nI k)).toInt64 * s_w wds rhd k
def s_ex (tc : Int32) (taps wds : Nat → Int32) (rhd : Int32) : Nat → Int64
  | 0 => 0
  | k + 1 => s_ex tc taps wds rhd k + (s_tap tc taps (nI k)).toInt64 * s_w wds rhd k
def s_sz (wds : Nat → Int32) (rhd : Int32) : Nat → Int64
  | 0 => 0
  | k + 1 => s_sz wds rhd k + m_abs (s_w wds rhd k)
set_option maxHeartbeats 4000000 in
set_option maxRecDepth 100000 in
theorem lp_X4_take {G : q_G} {d : q_D} {z : q_Z} {f : q_Hp} {n p : Nat} {below by_ way wr thin : Int32} {cin hld gst : Int64} {taps : Nat → Int32} {pst bits word shift : Int32} {psz : Int64} {fac : Nat → Int32} {lst : Int32} {sum ex rnd : Int64} {out : Int32} {ssz : Int64} {rby : Int32} {wds : Nat → Int32} {rhd : Int32} {c : Nat} {x : Int32} (hc : c ≤ 32) (hx : J G d uX4_take z 0 0 n 87 (q_l [(0, .ref p), (2, .long (s_sum fac wds rhd c)), (4, .long (s_ex (nI c) taps wds rhd c)), (6, .long (s_sz wds rhd c))]) [] (q_blk f p (stE p (below, by_, nI c, way, wr, thin, cin, hld, gst, taps, pst, bits, word, shift, psz, fac, lst, sum, ex, rnd, out, ssz, rby, wds, rhd)))) : ∀ (k i : Nat), i + k = c → J G d uX4_take z 0 0 n 19 (q_l [(0, .ref p), (1, .int x), (2, .long (s_sum fac wds rhd i)), (4, .long (s_ex (nI c) taps wds rhd i)), (6, .long (s_sz wds rhd i)), (8, .int (nI i))]) [] (q_blk f p (stE p (below, by_, nI c, way, wr, thin, cin, hld, gst, taps, pst, bits, word, shift, psz, fac, lst, sum, ex, rnd, out, ssz, rby, wds, rhd))) := by
  intro k
  induction k with
  | zero =>
    intro i hi
    rw [show i = c by omega]
    refine q_iload dX4_take_19 rfl ?_
    refine q_aload_n dX4_take_21 rfl ?_
    refine q_getf dX4_take_22 fl_X4_22 (q_blk_get (j := 0) rfl) rfl ?_
    refine q_icmp_ge (tgt := 87) dX4_take_25 (by decide) (fun c_25 => ?_) (fun h_n => absurd ((Int32.le_refl _)) h_n)
    exact q_lo [(0, .ref p), (2, .long (s_sum fac wds rhd c)), (4, .long (s_ex (nI c) taps wds rhd c)), (6, .long (s_sz wds rhd c))] ⟨rfl, rfl, rfl, rfl, trivial⟩ hx
  | succ k ih =>
    intro i hi
    refine q_iload dX4_take_19 rfl ?_
    refine q_aload_n dX4_take_21 rfl ?_
    refine q_getf dX4_take_22 fl_X4_22 (q_blk_get (j := 0) rfl) rfl ?_
    refine q_icmp_ge (tgt := 87) dX4_take_25 (by decide) (fun h_n => absurd h_n ((nI_ge (by omega) (by omega)))) (fun c_25 => ?_)
    refine q_aload_n dX4_take_28 rfl ?_
    refine q_getf dX4_take_29 fl_X4_49 (q_blk_get (j := 0) rfl) rfl ?_
    refine q_iload dX4_take_32 rfl ?_
    refine q_cVr (j := 5) (c_X2_back) dX4_take_34 kl_X4_131 rfl rfl rfl rfl ⟨q_le rfl, q_le rfl⟩ (q_le rfl) (q_le rfl) (q_le rfl) ?_
    refine q_i2l dX4_take_37 ?_
    refine q_lstore dX4_take_38 (q_le rfl) ?_
    refine q_lload_n dX4_take_40 rfl ?_
    refine q_aload_n dX4_take_41 rfl ?_
    refine q_getf dX4_take_42 fl_X4_35 (q_blk_get (j := 0) rfl) rfl ?_
    refine q_iload dX4_take_45 rfl ?_
    refine q_cVr (j := 2) (c_X1_factor) dX4_take_47 kl_X4_134 rfl rfl rfl rfl ⟨q_le rfl, q_le rfl⟩ (q_le rfl) (q_le rfl) (q_le rfl) ?_
    refine q_i2l dX4_take_50 ?_
    refine q_lload dX4_take_51 rfl ?_
    refine q_lmul dX4_take_53 ?_
    refine q_ladd dX4_take_54 ?_
    refine q_lstore_n dX4_take_55 (q_le rfl) ?_
    refine q_lload dX4_take_56 rfl ?_
    refine q_aload_n dX4_take_58 rfl ?_
    refine q_iload dX4_take_59 rfl ?_
    refine q_cW (c_X4_tapAt) dX4_take_61 kl_X4_57 rfl (q_blk_get (j := 0) rfl) rfl ⟨q_le rfl, q_le rfl⟩ (q_le rfl) (q_le rfl) (q_le rfl) ?_
    refine q_i2l dX4_take_64 ?_
    refine q_lload dX4_take_65 rfl ?_
    refine q_lmul dX4_take_67 ?_
    refine q_ladd dX4_take_68 ?_
    refine q_lstore dX4_take_69 (q_le rfl) ?_
    refine q_lload dX4_take_71 rfl ?_
    refine q_lload dX4_take_73 rfl ?_
    refine q_cS (c_J9_abs_067f4) dX4_take_75 kl_X4_65 rfl ⟨q_le rfl, q_le rfl⟩ (q_le rfl) (q_le rfl) (q_le rfl) ?_
    refine q_ladd dX4_take_78 ?_
    refine q_lstore dX4_take_79 (q_le rfl) ?_
    refine q_iinc dX4_take_81 rfl (v := nI (i + 1)) (nI_1 i) ?_
    refine q_goto (tgt := 19) dX4_take_84 (by decide) ?_
    exact q_lo [(0, .ref p), (1, .int x), (2, .long (s_sum fac wds rhd (i + 1))), (4, .long (s_ex (nI c) taps wds rhd (i + 1))), (6, .long (s_sz wds rhd (i + 1))), (8, .int (nI (i + 1)))] ⟨rfl, rfl, rfl, rfl, rfl, rfl, trivial⟩ (ih (i + 1) (by omega))

def r_psh (wds : Nat → Int32) (rhd x : Int32) : Nat → Int32 := upd wds ((rhd - 1) &&& 31).toNatClampNeg (vp_nar .short x.toInt16.toInt32)
def r_ph (rhd : Int32) : Int32 := (rhd - 1) &&& 31
set_option maxHeartbeats 4000000 in
set_option maxRecDepth 100000 in
theorem c_X4_take {f : q_Hp} {n p : Nat} {below by_ way wr thin : Int32} {cin hld gst : Int64} {taps : Nat → Int32} {pst bits word shift : Int32} {psz : Int64} {fac : Nat → Int32} {lst : Int32} {sum ex rnd : Int64} {out : Int32} {ssz : Int64} {rby : Int32} {wds : Nat → Int32} {rhd : Int32} {c : Nat} {x : Int32} (hc : c ≤ 32) : Sp yX4_take uX4_take [.ref p, .int x] n (q_blk f p (stE p (below, by_, nI c, way, wr, thin, cin, hld, gst, taps, pst, bits, word, shift, psz, fac, lst, sum, ex, rnd, out, ssz, rby, wds, rhd))) (some (.int (s_held (s_round (s_sum fac (r_psh wds rhd x) (r_ph rhd) c) shift way) wr)), n, q_blk f p (stE p (below, by_, nI c, way, wr, thin, cin + 1, if (s_held (s_round (s_sum fac (r_psh wds rhd x) (r_ph rhd) c) shift way) wr).toInt64 = (s_round (s_sum fac (r_psh wds rhd x) (r_ph rhd) c) shift way) then hld else hld + 1, m_max gst (m_abs (s_sum fac (r_psh wds rhd x) (r_ph rhd) c)), taps, pst, bits, word, shift, psz, fac, 1, (s_sum fac (r_psh wds rhd x) (r_ph rhd) c), (s_ex (nI c) taps (r_psh wds rhd x) (r_ph rhd) c), (s_round (s_sum fac (r_psh wds rhd x) (r_ph rhd) c) shift way), (s_held (s_round (s_sum fac (r_psh wds rhd x) (r_ph rhd) c) shift way) wr), (s_sz (r_psh wds rhd x) (r_ph rhd) c), way, (r_psh wds rhd x), (r_ph rhd)))) := by
  refine Sp.ofF (by decide +kernel) rfl rfl (q_le rfl) ?_
  intro G d
  refine q_aload_n dX4_take_0 rfl ?_
  refine q_getf dX4_take_1 fl_X4_49 (q_blk_get (j := 0) rfl) rfl ?_
  refine q_iload_n dX4_take_4 rfl ?_
  refine q_cV (j := 5) (c_X2_push) dX4_take_5 kl_X4_128 rfl rfl rfl rfl (q_le rfl) ⟨q_le rfl, q_le rfl⟩ (q_le rfl) (q_le rfl) (q_le rfl) ?_
  refine q_lconst dX4_take_8 (v := 0) (by decide) ?_
  refine q_lstore_n dX4_take_9 (q_le rfl) ?_
  refine q_lconst dX4_take_10 (v := 0) (by decide) ?_
  refine q_lstore dX4_take_11 (q_le rfl) ?_
  refine q_lconst dX4_take_13 (v := 0) (by decide) ?_
  refine q_lstore dX4_take_14 (q_le rfl) ?_
  refine q_iconst dX4_take_16 (v := 0) (by decide) ?_
  refine q_istore dX4_take_17 (q_le rfl) ?_
  refine q_heap (show _ = q_blk f p (stE p (below, by_, nI c, way, wr, thin, cin, hld, gst, taps, pst, bits, word, shift, psz, fac, lst, sum, ex, rnd, out, ssz, rby, (r_psh wds rhd x), (r_ph rhd))) from rfl) ?_
  refine q_lo [(0, .ref p), (1, .int x), (2, .long (s_sum fac (r_psh wds rhd x) (r_ph rhd) 0)), (4, .long (s_ex (nI c) taps (r_psh wds rhd x) (r_ph rhd) 0)), (6, .long (s_sz (r_psh wds rhd x) (r_ph rhd) 0)), (8, .int (nI 0))] ⟨rfl, rfl, rfl, rfl, rfl, rfl, trivial⟩ (lp_X4_take hc ?_ c 0 (by omega))
  refine q_lload_n dX4_take_87 rfl ?_
  refine q_aload_n dX4_take_88 rfl ?_
  refine q_getf dX4_take_89 fl_X4_35 (q_blk_get (j := 0) rfl) rfl ?_
  refine q_getf dX4_take_92 fl_X4_137 (q_blk_get (j := 2) rfl) rfl ?_
  refine q_aload_n dX4_take_95 rfl ?_
  refine q_getf dX4_take_96 fl_X4_25 (q_blk_get (j := 0) rfl) rfl ?_
  refine q_cS (c_X4_roundedSum) dX4_take_99 kl_X4_140 rfl ⟨q_le rfl, q_le rfl⟩ (q_le rfl) (q_le rfl) (q_le rfl) ?_
  refine q_lstore dX4_take_102 (q_le rfl) ?_
  refine q_lload dX4_take_104 rfl ?_
  refine q_aload_n dX4_take_106 rfl ?_
  refine q_getf dX4_take_107 fl_X4_28 (q_blk_get (j := 0) rfl) rfl ?_
  refine q_cS (c_X4_heldNumber) dX4_take_110 kl_X4_144 rfl ⟨q_le rfl, q_le rfl⟩ (q_le rfl) (q_le rfl) (q_le rfl) ?_
  refine q_istore dX4_take_113 (q_le rfl) ?_
  refine q_aload_n dX4_take_115 rfl ?_
  refine q_getf dX4_take_116 fl_X4_42 (q_blk_get (j := 0) rfl) rfl ?_
  refine q_lload_n dX4_take_119 rfl ?_
  refine q_lload dX4_take_120 rfl ?_
  refine q_lload dX4_take_122 rfl ?_
  refine q_cV (j := 4) (c_X0_keepSums) dX4_take_124 kl_X4_148 rfl rfl rfl rfl (q_le rfl) ⟨q_le rfl, q_le rfl⟩ (q_le rfl) (q_le rfl) (q_le rfl) ?_
  refine q_aload_n dX4_take_127 rfl ?_
  refine q_getf dX4_take_128 fl_X4_42 (q_blk_get (j := 0) rfl) rfl ?_
  refine q_lload dX4_take_131 rfl ?_
  refine q_iload dX4_take_133 rfl ?_
  refine q_aload_n dX4_take_135 rfl ?_
  refine q_getf dX4_take_136 fl_X4_25 (q_blk_get (j := 0) rfl) rfl ?_
  refine q_cV (j := 4) (c_X0_keepOutput) dX4_take_139 kl_X4_152 rfl rfl rfl rfl (q_le rfl) ⟨q_le rfl, q_le rfl⟩ (q_le rfl) (q_le rfl) (q_le rfl) ?_
  refine q_aload_n dX4_take_142 rfl ?_
  refine q_dup dX4_take_143 rfl ?_
  refine q_getf dX4_take_144 fl_X4_94 (q_blk_get (j := 0) rfl) rfl ?_
  refine q_lconst dX4_take_147 (v := 1) (by decide) ?_
  refine q_ladd dX4_take_148 ?_
  refine q_putf dX4_take_149 pl_X4_94 (q_blk_get (j := 0) rfl) (q_le rfl) rfl rfl ?_
  refine q_heap (q_blk_up (j := 0) (q_le rfl)) ?_
  refine q_iload dX4_take_152 rfl ?_
  refine q_i2l dX4_take_154 ?_
  refine q_lload dX4_take_155 rfl ?_
  refine q_lcmp_eq (tgt := 171) dX4_take_157 dX4_take_158 (by decide) (fun c_157 => ?_) (fun c_157 => ?_)
  · refine q_aload_n dX4_take_171 rfl ?_
    refine q_aload_n dX4_take_172 rfl ?_
    refine q_getf dX4_take_173 fl_X4_101 (q_blk_get (j := 0) rfl) rfl ?_
    refine q_lload_n dX4_take_176 rfl ?_
    refine q_cS (c_J9_abs_067f4) dX4_take_177 kl_X4_65 rfl ⟨q_le rfl, q_le rfl⟩ (q_le rfl) (q_le rfl) (q_le rfl) ?_
    refine q_cS (c_J9_max_f86c9) dX4_take_180 kl_X4_156 rfl ⟨q_le rfl, q_le rfl⟩ (q_le rfl) (q_le rfl) (q_le rfl) ?_
    refine q_putf dX4_take_183 pl_X4_101 (q_blk_get (j := 0) rfl) (q_le rfl) rfl rfl ?_
    refine q_heap (q_blk_up (j := 0) (q_le rfl)) ?_
    refine q_iload dX4_take_186 rfl ?_
    exact q_iret dX4_take_188 rfl (by rw [if_pos c_157]; rfl) (q_le rfl) (q_le rfl)
  · refine q_aload_n dX4_take_161 rfl ?_
    refine q_dup dX4_take_162 rfl ?_
    refine q_getf dX4_take_163 fl_X4_98 (q_blk_get (j := 0) rfl) rfl ?_
    refine q_lconst dX4_take_166 (v := 1) (by decide) ?_
    refine q_ladd dX4_take_167 ?_
    refine q_putf dX4_take_168 pl_X4_98 (q_blk_get (j := 0) rfl) (q_le rfl) rfl rfl ?_
    refine q_heap (q_blk_up (j := 0) (q_le rfl)) ?_
    refine q_aload_n dX4_take_171 rfl ?_
    refine q_aload_n dX4_take_172 rfl ?_
    refine q_getf dX4_take_173 fl_X4_101 (q_blk_get (j := 0) rfl) rfl ?_
    refine q_lload_n dX4_take_176 rfl ?_
    refine q_cS (c_J9_abs_067f4) dX4_take_177 kl_X4_65 rfl ⟨q_le rfl, q_le rfl⟩ (q_le rfl) (q_le rfl) (q_le rfl) ?_
    refine q_cS (c_J9_max_f86c9) dX4_take_180 kl_X4_156 rfl ⟨q_le rfl, q_le rfl⟩ (q_le rfl) (q_le rfl) (q_le rfl) ?_
    refine q_putf dX4_take_183 pl_X4_101 (q_blk_get (j := 0) rfl) (q_le rfl) rfl rfl ?_
    refine q_heap (q_blk_up (j := 0) (q_le rfl)) ?_
    refine q_iload dX4_take_186 rfl ?_
    exact q_iret dX4_take_188 rfl (by rw [if_neg c_157]; rfl) (q_le rfl) (q_le rfl)

