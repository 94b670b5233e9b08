def x_m1 (tc : Int32) (taps : Nat → Int32) (h : Int64) : Nat → Int64
  | 0 => h
  | i + 1 => 31 * x_m1 tc taps h i + (s_tap tc taps (nI i)).toInt64
def x_m2 (fac : Nat → Int32) (h : Int64) : Nat → Int64
  | 0 => h
  | i + 1 => 31 * x_m2 fac h i + (s_fac fac (nI i)).toInt64
def x_m3 (wds : Nat → Int32) (rhd : Int32) (h : Int64) : Nat → Int64
  | 0 => h
  | i + 1 => 31 * x_m3 wds rhd h i + s_w wds rhd i
set_option maxHeartbeats 4000000 in
set_option maxRecDepth 100000 in
theorem lp_X4_mix1 {G : q_G} {d : q_D} {z : q_Z} {f : q_Hp} {n p : Nat} {below by_ way wr thin : Int32} {cin hld gst : Int64} {taps : Nat → Int32} {pst bits word shift : Int32} {psz : Int64} {fac : Nat → Int32} {lst : Int32} {sum ex rnd : Int64} {out : Int32} {ssz : Int64} {rby : Int32} {wds : Nat → Int32} {rhd : Int32} {c : Nat} {g : Int64} (hc : c ≤ 32) (hx : J G d uX4_mixRows z 0 0 n 29 (q_l [(0, .ref p), (1, .long (x_m1 (nI c) taps g c))]) [] (q_blk f p (stE p (below, by_, nI c, way, wr, thin, cin, hld, gst, taps, pst, bits, word, shift, psz, fac, lst, sum, ex, rnd, out, ssz, rby, wds, rhd)))) : ∀ (k i : Nat), i + k = c → J G d uX4_mixRows z 0 0 n 2 (q_l [(0, .ref p), (1, .long (x_m1 (nI c) taps g i)), (3, .int (nI i))]) [] (q_blk f p (stE p (below, by_, nI c, way, wr, thin, cin, hld, gst, taps, pst, bits, word, shift, psz, fac, lst, sum, ex, rnd, out, ssz, rby, wds, rhd))) := by
  intro k
  induction k with
  | zero =>
    intro i hi
    rw [show i = c by omega]
    refine q_iload_n dX4_mixRows_2 rfl ?_
    refine q_aload_n dX4_mixRows_3 rfl ?_
    refine q_getf dX4_mixRows_4 fl_X4_22 (q_blk_get (j := 0) rfl) rfl ?_
    refine q_icmp_ge (tgt := 29) dX4_mixRows_7 (by decide) (fun c_7 => ?_) (fun h_n => absurd ((Int32.le_refl _)) h_n)
    exact q_lo [(0, .ref p), (1, .long (x_m1 (nI c) taps g c))] ⟨rfl, rfl, trivial⟩ hx
  | succ k ih =>
    intro i hi
    refine q_iload_n dX4_mixRows_2 rfl ?_
    refine q_aload_n dX4_mixRows_3 rfl ?_
    refine q_getf dX4_mixRows_4 fl_X4_22 (q_blk_get (j := 0) rfl) rfl ?_
    refine q_icmp_ge (tgt := 29) dX4_mixRows_7 (by decide) (fun h_n => absurd h_n ((nI_ge (by omega) (by omega)))) (fun c_7 => ?_)
    refine q_ldc2 dX4_mixRows_10 cn_X4_160 ?_
    refine q_lload_n dX4_mixRows_13 rfl ?_
    refine q_lmul dX4_mixRows_14 ?_
    refine q_aload_n dX4_mixRows_15 rfl ?_
    refine q_iload_n dX4_mixRows_16 rfl ?_
    refine q_cW (c_X4_tapAt) dX4_mixRows_17 kl_X4_57 rfl (q_blk_get (j := 0) rfl) rfl ⟨q_le rfl, q_le rfl⟩ (q_le rfl) (q_le rfl) (q_le rfl) ?_
    refine q_i2l dX4_mixRows_20 ?_
    refine q_ladd dX4_mixRows_21 ?_
    refine q_lstore_n dX4_mixRows_22 (q_le rfl) ?_
    refine q_iinc dX4_mixRows_23 rfl (v := nI (i + 1)) (nI_1 i) ?_
    refine q_goto (tgt := 2) dX4_mixRows_26 (by decide) ?_
    exact q_lo [(0, .ref p), (1, .long (x_m1 (nI c) taps g (i + 1))), (3, .int (nI (i + 1)))] ⟨rfl, rfl, rfl, trivial⟩ (ih (i + 1) (by omega))

set_option maxHeartbeats 4000000 in
set_option maxRecDepth 100000 in
theorem lp_X4_mix2 {G : q_G} {d : q_D} {z : q_Z} {f : q_Hp} {n p : Nat} {below by_ way wr thin : Int32} {cin hld gst : Int64} {taps : Nat → Int32} {pst bits word shift : Int32} {psz : Int64} {fac : Nat → Int32} {lst : Int32} {sum ex rnd : Int64} {out : Int32} {ssz : Int64} {rby : Int32} {wds : Nat → Int32} {rhd : Int32} {c : Nat} {g : Int64} (hc : c ≤ 32) (hx : J G d uX4_mixRows z 0 0 n 73 (q_l [(0, .ref p), (1, .long (x_m2 fac g c))]) [] (q_blk f p (stE p (below, by_, nI c, way, wr, thin, cin, hld, gst, taps, pst, bits, word, shift, psz, fac, lst, sum, ex, rnd, out, ssz, rby, wds, rhd)))) : ∀ (k i : Nat), i + k = c → J G d uX4_mixRows z 0 0 n 43 (q_l [(0, .ref p), (1, .long (x_m2 fac g i)), (3, .int (nI i))]) [] (q_blk f p (stE p (below, by_, nI c, way, wr, thin, cin, hld, gst, taps, pst, bits, word, shift, psz, fac, lst, sum, ex, rnd, out, ssz, rby, wds, rhd))) := by
  intro k
  induction k with
  | zero =>
    intro i hi
    rw [show i = c by omega]
    refine q_iload_n dX4_mixRows_43 rfl ?_
    refine q_aload_n dX4_mixRows_44 rfl ?_
    refine q_getf dX4_mixRows_45 fl_X4_22 (q_blk_get (j := 0) rfl) rfl ?_
    refine q_icmp_ge (tgt := 73) dX4_mixRows_48 (by decide) (fun c_48 => ?_) (fun h_n => absurd ((Int32.le_refl _)) h_n)
    exact q_lo [(0, .ref p), (1, .long (x_m2 fac g c))] ⟨rfl, rfl, trivial⟩ hx
  | succ k ih =>
    intro i hi
    refine q_iload_n dX4_mixRows_43 rfl ?_
    refine q_aload_n dX4_mixRows_44 rfl ?_
    refine q_getf dX4_mixRows_45 fl_X4_22 (q_blk_get (j := 0) rfl) rfl ?_
    refine q_icmp_ge (tgt := 73) dX4_mixRows_48 (by decide) (fun h_n => absurd h_n ((nI_ge (by omega) (by omega)))) (fun c_48 => ?_)
    refine q_ldc2 dX4_mixRows_51 cn_X4_160 ?_
    refine q_lload_n dX4_mixRows_54 rfl ?_
    refine q_lmul dX4_mixRows_55 ?_
    refine q_aload_n dX4_mixRows_56 rfl ?_
    refine q_getf dX4_mixRows_57 fl_X4_35 (q_blk_get (j := 0) rfl) rfl ?_
    refine q_iload_n dX4_mixRows_60 rfl ?_
    refine q_cVr (j := 2) (c_X1_factor) dX4_mixRows_61 kl_X4_134 rfl rfl rfl rfl ⟨q_le rfl, q_le rfl⟩ (q_le rfl) (q_le rfl) (q_le rfl) ?_
    refine q_i2l dX4_mixRows_64 ?_
    refine q_ladd dX4_mixRows_65 ?_
    refine q_lstore_n dX4_mixRows_66 (q_le rfl) ?_
    refine q_iinc dX4_mixRows_67 rfl (v := nI (i + 1)) (nI_1 i) ?_
    refine q_goto (tgt := 43) dX4_mixRows_70 (by decide) ?_
    exact q_lo [(0, .ref p), (1, .long (x_m2 fac g (i + 1))), (3, .int (nI (i + 1)))] ⟨rfl, rfl, rfl, trivial⟩ (ih (i + 1) (by omega))

set_option maxHeartbeats 4000000 in
set_option maxRecDepth 100000 in
theorem lp_X4_mix3 {G : q_G} {d : q_D} {z : q_Z} {f : q_Hp} {n p : Nat} {below by_ way wr thin : Int32} {cin hld gst : Int64} {taps : Nat → Int32} {pst bits word shift : Int32} {psz : Int64} {fac : Nat → Int32} {lst : Int32} {sum ex rnd : Int64} {out : Int32} {ssz : Int64} {rby : Int32} {wds : Nat → Int32} {rhd : Int32} {c : Nat} {g : Int64} (hc : c ≤ 32) (hx : J G d uX4_mixRows z 0 0 n 105 (q_l [(0, .ref p), (1, .long (x_m3 wds rhd g c))]) [] (q_blk f p (stE p (below, by_, nI c, way, wr, thin, cin, hld, gst, taps, pst, bits, word, shift, psz, fac, lst, sum, ex, rnd, out, ssz, rby, wds, rhd)))) : ∀ (k i : Nat), i + k = c → J G d uX4_mixRows z 0 0 n 75 (q_l [(0, .ref p), (1, .long (x_m3 wds rhd g i)), (3, .int (nI i))]) [] (q_blk f p (stE p (below, by_, nI c, way, wr, thin, cin, hld, gst, taps, pst, bits, word, shift, psz, fac, lst, sum, ex, rnd, out, ssz, rby, wds, rhd))) := by
  intro k
  induction k with
  | zero =>
    intro i hi
    rw [show i = c by omega]
    refine q_iload_n dX4_mixRows_75 rfl ?_
    refine q_aload_n dX4_mixRows_76 rfl ?_
    refine q_getf dX4_mixRows_77 fl_X4_22 (q_blk_get (j := 0) rfl) rfl ?_
    refine q_icmp_ge (tgt := 105) dX4_mixRows_80 (by decide) (fun c_80 => ?_) (fun h_n => absurd ((Int32.le_refl _)) h_n)
    exact q_lo [(0, .ref p), (1, .long (x_m3 wds rhd g c))] ⟨rfl, rfl, trivial⟩ hx
  | succ k ih =>
    intro i hi
    refine q_iload_n dX4_mixRows_75 rfl ?_
    refine q_aload_n dX4_mixRows_76 rfl ?_
    refine q_getf dX4_mixRows_77 fl_X4_22 (q_blk_get (j := 0) rfl) rfl ?_
    refine q_icmp_ge (tgt := 105) dX4_mixRows_80 (by decide) (fun h_n => absurd h_n ((nI_ge (by omega) (by omega)))) (fun c_80 => ?_)
    refine q_ldc2 dX4_mixRows_83 cn_X4_160 ?_
    refine q_lload_n dX4_mixRows_86 rfl ?_
    refine q_lmul dX4_mixRows_87 ?_
    refine q_aload_n dX4_mixRows_88 rfl ?_
    refine q_getf dX4_mixRows_89 fl_X4_49 (q_blk_get (j := 0) rfl) rfl ?_
    refine q_iload_n dX4_mixRows_92 rfl ?_
    refine q_cVr (j := 5) (c_X2_back) dX4_mixRows_93 kl_X4_131 rfl rfl rfl rfl ⟨q_le rfl, q_le rfl⟩ (q_le rfl) (q_le rfl) (q_le rfl) ?_
    refine q_i2l dX4_mixRows_96 ?_
    refine q_ladd dX4_mixRows_97 ?_
    refine q_lstore_n dX4_mixRows_98 (q_le rfl) ?_
    refine q_iinc dX4_mixRows_99 rfl (v := nI (i + 1)) (nI_1 i) ?_
    refine q_goto (tgt := 75) dX4_mixRows_102 (by decide) ?_
    exact q_lo [(0, .ref p), (1, .long (x_m3 wds rhd g (i + 1))), (3, .int (nI (i + 1)))] ⟨rfl, rfl, rfl, trivial⟩ (ih (i + 1) (by omega))

set_option maxHeartbeats 4000000 in
set_option maxRecDepth 100000 in
theorem c_X4_mixRows {f : q_Hp} {n p : Nat} {below by_ way wr thin : Int32} {cin hld gst : Int64} {taps : Nat → Int32} {pst bits word shift : Int32} {psz : Int64} {fac : Nat → Int32} {lst : Int32} {sum ex rnd : Int64} {out : Int32} {ssz : Int64} {rby : Int32} {wds : Nat → Int32} {rhd : Int32} {c : Nat} {g : Int64} (hc : c ≤ 32) : Sp yX4_mixRows uX4_mixRows [.ref p, .long g] n (q_blk f p (stE p (below, by_, nI c, way, wr, thin, cin, hld, gst, taps, pst, bits, word, shift, psz, fac, lst, sum, ex, rnd, out, ssz, rby, wds, rhd))) (some (.long (if pst = 0 then (x_m1 (nI c) taps g c) else (x_m3 wds rhd (x_m2 fac (x_m1 (nI c) taps g c) c) c))), n, q_blk f p (stE p (below, by_, nI c, way, wr, thin, cin, hld, gst, taps, pst, bits, word, shift, psz, fac, lst, sum, ex, rnd, out, ssz, rby, wds, rhd))) := by
  refine Sp.ofF (by decide +kernel) rfl rfl (q_le rfl) ?_
  intro G d
  refine q_iconst dX4_mixRows_0 (v := 0) (by decide) ?_
  refine q_istore_n dX4_mixRows_1 (q_le rfl) ?_
  refine q_lo [(0, .ref p), (1, .long (x_m1 (nI c) taps g 0)), (3, .int (nI 0))] ⟨rfl, rfl, rfl, trivial⟩ (lp_X4_mix1 hc ?_ c 0 (by omega))
  refine q_aload_n dX4_mixRows_29 rfl ?_
  refine q_getf dX4_mixRows_30 fl_X4_35 (q_blk_get (j := 0) rfl) rfl ?_
  refine q_getf dX4_mixRows_33 fl_X4_87 (q_blk_get (j := 2) rfl) rfl ?_
  refine q_if_ne (tgt := 41) dX4_mixRows_36 (by decide) (fun c_36 => ?_) (fun c_36 => ?_)
  · refine q_iconst dX4_mixRows_41 (v := 0) (by decide) ?_
    refine q_istore_n dX4_mixRows_42 (q_le rfl) ?_
    refine q_lo [(0, .ref p), (1, .long (x_m2 fac (x_m1 (nI c) taps g c) 0)), (3, .int (nI 0))] ⟨rfl, rfl, rfl, trivial⟩ (lp_X4_mix2 hc ?_ c 0 (by omega))
    refine q_iconst dX4_mixRows_73 (v := 0) (by decide) ?_
    refine q_istore_n dX4_mixRows_74 (q_le rfl) ?_
    refine q_lo [(0, .ref p), (1, .long (x_m3 wds rhd (x_m2 fac (x_m1 (nI c) taps g c) c) 0)), (3, .int (nI 0))] ⟨rfl, rfl, rfl, trivial⟩ (lp_X4_mix3 hc ?_ c 0 (by omega))
    refine q_lload_n dX4_mixRows_105 rfl ?_
    exact q_lret dX4_mixRows_106 rfl (by rw [if_neg c_36]) (q_le rfl) (q_le rfl)
  · refine q_lload_n dX4_mixRows_39 rfl ?_
    exact q_lret dX4_mixRows_40 rfl (by rw [if_pos c_36]) (q_le rfl) (q_le rfl)

def s_safe (mc ms : Int64) (tc below : Int32) (taps : Nat → Int32) (ss : Int32) : Nat → Nat → Int64 → Bool
  | 0, _, acc => !decide (tc ≤ 0) && !decide (ms < acc * 32768)
  | k + 1, i, acc => if m_abs (s_near (s_tap tc taps (nI i)) below ss) ≤ mc then s_safe mc ms tc below taps ss k (i + 1) (acc + m_abs (s_near (s_tap tc taps (nI i)) below ss)) else false
set_option maxHeartbeats 4000000 in
set_option maxRecDepth 100000 in
theorem lp_X4_isSafe {G : q_G} {d : q_D} {f : q_Hp} {n p : Nat} {below by_ way wr thin : Int32} {cin hld gst : Int64} {taps : Nat → Int32} {pst bits word shift : Int32} {psz : Int64} {fac : Nat → Int32} {lst : Int32} {sum ex rnd : Int64} {out : Int32} {ssz : Int64} {rby : Int32} {wds : Nat → Int32} {rhd : Int32} {c : Nat} {mc ms : Int64} {ss : Int32} (hc : c ≤ 32) : ∀ (k i : Nat) (acc : Int64), i + k = c → J G d uX4_isSafe (some (.int (q_b (s_safe mc ms (nI c) below taps ss k i acc))), n, q_blk f p (stE p (below, by_, nI c, way, wr, thin, cin, hld, gst, taps, pst, bits, word, shift, psz, fac, lst, sum, ex, rnd, out, ssz, rby, wds, rhd))) 0 0 n 24 (q_l [(0, .ref p), (3, .int ss), (4, .long mc), (6, .long ms), (8, .long acc), (10, .int (nI i))]) [] (q_blk f p (stE p (below, by_, nI c, way, wr, thin, cin, hld, gst, taps, pst, bits, word, shift, psz, fac, lst, sum, ex, rnd, out, ssz, rby, wds, rhd))) := by
  intro k
  induction k with
  | zero =>
    intro i acc hi
    rw [show i = c by omega]
    refine q_iload dX4_isSafe_24 rfl ?_
    refine q_aload_n dX4_isSafe_26 rfl ?_
    refine q_getf dX4_isSafe_27 fl_X4_22 (q_blk_get (j := 0) rfl) rfl ?_
    refine q_icmp_ge (tgt := 75) dX4_isSafe_30 (by decide) (fun c_30 => ?_) (fun h_n => absurd ((Int32.le_refl _)) h_n)
    refine q_aload_n dX4_isSafe_75 rfl ?_
    refine q_getf dX4_isSafe_76 fl_X4_22 (q_blk_get (j := 0) rfl) rfl ?_
    refine q_if_le (tgt := 98) dX4_isSafe_79 (by decide) (fun c_79 => ?_) (fun c_79 => ?_)
    · refine q_iconst dX4_isSafe_98 (v := 0) (by decide) ?_
      exact q_zret dX4_isSafe_99 rfl rfl (by simp [s_safe, q_b, c_79]) (q_le rfl) (q_le rfl)
    · refine q_lload dX4_isSafe_82 rfl ?_
      refine q_ldc2 dX4_isSafe_84 cn_X4_71 ?_
      refine q_lmul dX4_isSafe_87 ?_
      refine q_lload dX4_isSafe_88 rfl ?_
      refine q_lcmp_gt (tgt := 98) dX4_isSafe_90 dX4_isSafe_91 (by decide) (fun c_90 => ?_) (fun c_90 => ?_)
      · refine q_iconst dX4_isSafe_98 (v := 0) (by decide) ?_
        exact q_zret dX4_isSafe_99 rfl rfl (by simp [s_safe, q_b, c_79, c_90]) (q_le rfl) (q_le rfl)
      · refine q_iconst dX4_isSafe_94 (v := 1) (by decide) ?_
        refine q_goto (tgt := 99) dX4_isSafe_95 (by decide) ?_
        exact q_zret dX4_isSafe_99 rfl rfl (by simp [s_safe, q_b, c_79, c_90]) (q_le rfl) (q_le rfl)
  | succ k ih =>
    intro i acc hi
    refine q_iload dX4_isSafe_24 rfl ?_
    refine q_aload_n dX4_isSafe_26 rfl ?_
    refine q_getf dX4_isSafe_27 fl_X4_22 (q_blk_get (j := 0) rfl) rfl ?_
    refine q_icmp_ge (tgt := 75) dX4_isSafe_30 (by decide) (fun h_n => absurd h_n ((nI_ge (by omega) (by omega)))) (fun c_30 => ?_)
    refine q_aload_n dX4_isSafe_33 rfl ?_
    refine q_iload dX4_isSafe_34 rfl ?_
    refine q_cW (c_X4_tapAt) dX4_isSafe_36 kl_X4_57 rfl (q_blk_get (j := 0) rfl) rfl ⟨q_le rfl, q_le rfl⟩ (q_le rfl) (q_le rfl) (q_le rfl) ?_
    refine q_aload_n dX4_isSafe_39 rfl ?_
    refine q_getf dX4_isSafe_40 fl_X4_9 (q_blk_get (j := 0) rfl) rfl ?_
    refine q_iload_n dX4_isSafe_43 rfl ?_
    refine q_cS (c_X4_nearest) dX4_isSafe_44 kl_X4_61 rfl ⟨q_le rfl, q_le rfl⟩ (q_le rfl) (q_le rfl) (q_le rfl) ?_
    refine q_cS (c_J9_abs_067f4) dX4_isSafe_47 kl_X4_65 rfl ⟨q_le rfl, q_le rfl⟩ (q_le rfl) (q_le rfl) (q_le rfl) ?_
    refine q_lstore dX4_isSafe_50 (q_le rfl) ?_
    refine q_lload dX4_isSafe_52 rfl ?_
    refine q_lload dX4_isSafe_54 rfl ?_
    refine q_lcmp_le (tgt := 62) dX4_isSafe_56 dX4_isSafe_57 (by decide) (fun c_56 => ?_) (fun c_56 => ?_)
    · refine q_lload dX4_isSafe_62 rfl ?_
      refine q_lload dX4_isSafe_64 rfl ?_
      refine q_ladd dX4_isSafe_66 ?_
      refine q_lstore dX4_isSafe_67 (q_le rfl) ?_
      refine q_iinc dX4_isSafe_69 rfl (v := nI (i + 1)) (nI_1 i) ?_
      refine q_goto (tgt := 24) dX4_isSafe_72 (by decide) ?_
      exact q_zz (z' := (some (.int (q_b (s_safe mc ms (nI c) below taps ss k (i + 1) (acc + (m_abs (s_near (s_tap (nI c) taps (nI i)) below ss)))))), n, q_blk f p (stE p (below, by_, nI c, way, wr, thin, cin, hld, gst, taps, pst, bits, word, shift, psz, fac, lst, sum, ex, rnd, out, ssz, rby, wds, rhd)))) (by simp [s_safe, c_56]) (q_lo [(0, .ref p), (3, .int ss), (4, .long mc), (6, .long ms), (8, .long (acc + (m_abs (s_near (s_tap (nI c) taps (nI i)) below ss)))), (10, .int (nI (i + 1)))] ⟨rfl, rfl, rfl, rfl, rfl, rfl, trivial⟩ (ih (i + 1) _ (by omega)))
    · refine q_iconst dX4_isSafe_60 (v := 0) (by decide) ?_
      exact q_zret dX4_isSafe_61 rfl rfl (by simp [s_safe, q_b, c_56]) (q_le rfl) (q_le rfl)

def s_lim (b : Int32) : Int64 := 1 <<< ((b - 1).toInt64 &&& 63) - 1
def s_isSafe (tc below : Int32) (taps : Nat → Int32) (c : Nat) (bb ww ss : Int32) : Bool := s_safe (s_lim bb) (s_lim ww) tc below taps ss c 0 0
set_option maxHeartbeats 4000000 in
set_option maxRecDepth 100000 in
theorem c_X4_isSafe {f : q_Hp} {n p : Nat} {below by_ way wr thin : Int32} {cin hld gst : Int64} {taps : Nat → Int32} {pst bits word shift : Int32} {psz : Int64} {fac : Nat → Int32} {lst : Int32} {sum ex rnd : Int64} {out : Int32} {ssz : Int64} {rby : Int32} {wds : Nat → Int32} {rhd : Int32} {c : Nat} {bb ww ss : Int32} (hc : c ≤ 32) : Sp yX4_isSafe uX4_isSafe [.ref p, .int bb, .int ww, .int ss] n (q_blk f p (stE p (below, by_, nI c, way, wr, thin, cin, hld, gst, taps, pst, bits, word, shift, psz, fac, lst, sum, ex, rnd, out, ssz, rby, wds, rhd))) (some (.int (q_b (s_isSafe (nI c) below taps c bb ww ss))), n, q_blk f p (stE p (below, by_, nI c, way, wr, thin, cin, hld, gst, taps, pst, bits, word, shift, psz, fac, lst, sum, ex, rnd, out, ssz, rby, wds, rhd))) := by
  refine Sp.ofF (by decide +kernel) rfl rfl (q_le rfl) ?_
  intro G d
  refine q_lconst dX4_isSafe_0 (v := 1) (by decide) ?_
  refine q_iload_n dX4_isSafe_1 rfl ?_
  refine q_iconst dX4_isSafe_2 (v := 1) (by decide) ?_
  refine q_isub dX4_isSafe_3 ?_
  refine q_lshl dX4_isSafe_4 ?_
  refine q_lconst dX4_isSafe_5 (v := 1) (by decide) ?_
  refine q_lsub dX4_isSafe_6 ?_
  refine q_lstore dX4_isSafe_7 (q_le rfl) ?_
  refine q_lconst dX4_isSafe_9 (v := 1) (by decide) ?_
  refine q_iload_n dX4_isSafe_10 rfl ?_
  refine q_iconst dX4_isSafe_11 (v := 1) (by decide) ?_
  refine q_isub dX4_isSafe_12 ?_
  refine q_lshl dX4_isSafe_13 ?_
  refine q_lconst dX4_isSafe_14 (v := 1) (by decide) ?_
  refine q_lsub dX4_isSafe_15 ?_
  refine q_lstore dX4_isSafe_16 (q_le rfl) ?_
  refine q_lconst dX4_isSafe_18 (v := 0) (by decide) ?_
  refine q_lstore dX4_isSafe_19 (q_le rfl) ?_
  refine q_iconst dX4_isSafe_21 (v := 0) (by decide) ?_
  refine q_istore dX4_isSafe_22 (q_le rfl) ?_
  exact q_lo [(0, .ref p), (3, .int ss), (4, .long (s_lim bb)), (6, .long (s_lim ww)), (8, .long 0), (10, .int (nI 0))] ⟨rfl, rfl, rfl, rfl, rfl, rfl, trivial⟩ (lp_X4_isSafe hc c 0 0 (by omega))

def s_v (tc below : Int32) (taps : Nat → Int32) (ss : Int32) (i : Nat) : Int32 := (s_near (s_tap tc taps (nI i)) below ss).toInt32
def s_pf (tc below : Int32) (taps : Nat → Int32) (ss : Int32) (fac : Nat → Int32) : Nat → Nat → Int32
  | 0 => fac
  | i + 1 => bif k_in32 (nI i) then upd (s_pf tc below taps ss fac i) (nI i).toNatClampNeg (s_v tc below taps ss i) else s_pf tc below taps ss fac i
def s_pz (tc below : Int32) (taps : Nat → Int32) (ss : Int32) : Nat → Int64
  | 0 => 0
  | i + 1 => bif k_in32 (nI i) then s_pz tc below taps ss i + (m_absI (s_v tc below taps ss i)).toInt64 else s_pz tc below taps ss i
set_option maxHeartbeats 4000000 in
set_option maxRecDepth 100000 in
theorem lp_X4_setPlan {G : q_G} {d : q_D} {z : q_Z} {f : q_Hp} {n p : Nat} {below by_ way wr thin : Int32} {cin hld gst : Int64} {taps : Nat → Int32} {fac : Nat → Int32} {lst : Int32} {sum ex rnd : Int64} {out : Int32} {ssz : Int64} {rby : Int32} {wds : Nat → Int32} {rhd : Int32} {c : Nat} {bb ww ss : Int32} (hc : c ≤ 32) (hx : J G d uX4_setPlan z 0 0 n 52 (q_l [(0, .ref p)]) [] (q_blk f p (stE p (below, by_, nI c, way, wr, thin, cin, hld, gst, taps, 1, bb, ww, ss, (s_pz (nI c) below taps ss c), (s_pf (nI c) below taps ss fac c), lst, sum, ex, rnd, out, ssz, rby, wds, rhd)))) : ∀ (k i : Nat), i + k = c → J G d uX4_setPlan z 0 0 n 13 (q_l [(0, .ref p), (3, .int ss), (4, .int (nI i))]) [] (q_blk f p (stE p (below, by_, nI c, way, wr, thin, cin, hld, gst, taps, 1, bb, ww, ss, (s_pz (nI c) below taps ss i), (s_pf (nI c) below taps ss fac i), lst, sum, ex, rnd, out, ssz, rby, wds, rhd))) := by
  intro k
  induction k with
  | zero =>
    intro i hi
    rw [show i = c by omega]
    refine q_iload dX4_setPlan_13 rfl ?_
    refine q_aload_n dX4_setPlan_15 rfl ?_
    refine q_getf dX4_setPlan_16 fl_X4_22 (q_blk_get (j := 0) rfl) rfl ?_
    refine q_icmp_ge (tgt := 52) dX4_setPlan_19 (by decide) (fun c_19 => ?_) (fun h_n => absurd ((Int32.le_refl _)) h_n)
    exact q_lo [(0, .ref p)] ⟨rfl, trivial⟩ hx
  | succ k ih =>
    intro i hi
    refine q_iload dX4_setPlan_13 rfl ?_
    refine q_aload_n dX4_setPlan_15 rfl ?_
    refine q_getf dX4_setPlan_16 fl_X4_22 (q_blk_get (j := 0) rfl) rfl ?_
    refine q_icmp_ge (tgt := 52) dX4_setPlan_19 (by decide) (fun h_n => absurd h_n ((nI_ge (by omega) (by omega)))) (fun c_19 => ?_)
    refine q_aload_n dX4_setPlan_22 rfl ?_
    refine q_getf dX4_setPlan_23 fl_X4_35 (q_blk_get (j := 0) rfl) rfl ?_
    refine q_iload dX4_setPlan_26 rfl ?_
    refine q_aload_n dX4_setPlan_28 rfl ?_
    refine q_iload dX4_setPlan_29 rfl ?_
    refine q_cW (c_X4_tapAt) dX4_setPlan_31 kl_X4_57 rfl (q_blk_get (j := 0) rfl) rfl ⟨q_le rfl, q_le rfl⟩ (q_le rfl) (q_le rfl) (q_le rfl) ?_
    refine q_aload_n dX4_setPlan_34 rfl ?_
    refine q_getf dX4_setPlan_35 fl_X4_9 (q_blk_get (j := 0) rfl) rfl ?_
    refine q_iload_n dX4_setPlan_38 rfl ?_
    refine q_cS (c_X4_nearest) dX4_setPlan_39 kl_X4_61 rfl ⟨q_le rfl, q_le rfl⟩ (q_le rfl) (q_le rfl) (q_le rfl) ?_
    refine q_l2i dX4_setPlan_42 ?_
    refine q_cV (j := 2) (c_X1_setFactor) dX4_setPlan_43 kl_X4_77 rfl rfl rfl rfl (q_le rfl) ⟨q_le rfl, q_le rfl⟩ (q_le rfl) (q_le rfl) (q_le rfl) ?_
    refine q_iinc dX4_setPlan_46 rfl (v := nI (i + 1)) (nI_1 i) ?_
    refine q_goto (tgt := 13) dX4_setPlan_49 (by decide) ?_
    exact q_lo [(0, .ref p), (3, .int ss), (4, .int (nI (i + 1)))] ⟨rfl, rfl, rfl, trivial⟩ (ih (i + 1) (by omega))

set_option maxHeartbeats 4000000 in
set_option maxRecDepth 100000 in
theorem c_X4_setPlan {f : q_Hp} {n p : Nat} {below by_ way wr thin : Int32} {cin hld gst : Int64} {taps : Nat → Int32} {pst bits word shift : Int32} {psz : Int64} {fac : Nat → Int32} {lst : Int32} {sum ex rnd : Int64} {out : Int32} {ssz : Int64} {rby : Int32} {wds : Nat → Int32} {rhd : Int32} {c : Nat} {bb ww ss : Int32} (hc : c ≤ 32) : Sp yX4_setPlan uX4_setPlan [.ref p, .int bb, .int ww, .int ss] n (q_blk f p (stE p (below, by_, nI c, way, wr, thin, cin, hld, gst, taps, pst, bits, word, shift, psz, fac, lst, sum, ex, rnd, out, ssz, rby, wds, rhd))) (none, n, q_blk f p (stE p (below, by_, nI c, way, wr, 0, 0, 0, 0, taps, 1, bb, ww, ss, (s_pz (nI c) below taps ss c), (s_pf (nI c) below taps ss fac c), 0, sum, ex, rnd, out, ssz, rby, r_clr wds 32, 0))) := by
  refine Sp.ofF (by decide +kernel) rfl rfl (q_le rfl) ?_
  intro G d
  refine q_aload_n dX4_setPlan_0 rfl ?_
  refine q_getf dX4_setPlan_1 fl_X4_35 (q_blk_get (j := 0) rfl) rfl ?_
  refine q_iload_n dX4_setPlan_4 rfl ?_
  refine q_iload_n dX4_setPlan_5 rfl ?_
  refine q_iload_n dX4_setPlan_6 rfl ?_
  refine q_cV (j := 2) (c_X1_begin) dX4_setPlan_7 kl_X4_73 rfl rfl rfl rfl (q_le rfl) ⟨q_le rfl, q_le rfl⟩ (q_le rfl) (q_le rfl) (q_le rfl) ?_
  refine q_iconst dX4_setPlan_10 (v := 0) (by decide) ?_
  refine q_istore dX4_setPlan_11 (q_le rfl) ?_
  refine q_lo [(0, .ref p), (3, .int ss), (4, .int (nI 0))] ⟨rfl, rfl, rfl, trivial⟩ (lp_X4_setPlan hc ?_ c 0 (by omega))
  refine q_aload_n dX4_setPlan_52 rfl ?_
  refine q_getf dX4_setPlan_53 fl_X4_42 (q_blk_get (j := 0) rfl) rfl ?_
  refine q_iconst dX4_setPlan_56 (v := 0) (by decide) ?_
  refine q_putf dX4_setPlan_57 pl_X4_81 (q_blk_get (j := 4) rfl) (q_le rfl) rfl rfl ?_
  refine q_heap (q_blk_up (j := 4) (q_le rfl)) ?_
  refine q_aload_n dX4_setPlan_60 rfl ?_
  refine q_cW (c_X4_forget) dX4_setPlan_61 kl_X4_84 rfl (q_blk_get (j := 0) rfl) rfl ⟨q_le rfl, q_le rfl⟩ (q_le rfl) (q_le rfl) (q_le rfl) ?_
  exact q_vret dX4_setPlan_64 rfl (rfl) (q_le rfl) (q_le rfl)

def s_al (tc : Int32) (taps : Nat → Int32) : Nat → Bool
  | 0 => true
  | i + 1 => s_al tc taps i && decide (s_tap tc taps (nI i) = s_tap tc taps (tc - 1 - nI i))
def s_tu (tc : Int32) (taps : Nat → Int32) : Nat → Bool
  | 0 => true
  | i + 1 => s_tu tc taps i && decide (s_tap tc taps (nI i) = -s_tap tc taps (tc - 1 - nI i))
def s_sym (tc : Int32) (taps : Nat → Int32) (c : Nat) : Int32 := (bif s_al tc taps c then 1 else 0) + (bif s_tu tc taps c then 2 else 0)
set_option maxHeartbeats 4000000 in
set_option maxRecDepth 100000 in
theorem lp_X4_sym {G : q_G} {d : q_D} {z : q_Z} {f : q_Hp} {n p : Nat} {below by_ way wr thin : Int32} {cin hld gst : Int64} {taps : Nat → Int32} {pst bits word shift : Int32} {psz : Int64} {fac : Nat → Int32} {lst : Int32} {sum ex rnd : Int64} {out : Int32} {ssz : Int64} {rby : Int32} {wds : Nat → Int32} {rhd : Int32} {c : Nat} (hc : c ≤ 32) (hx : J G d uX4_symmetry z 0 0 n 76 (q_l [(0, .ref p), (1, .int (q_b (s_al (nI c) taps c))), (2, .int (q_b (s_tu (nI c) taps c)))]) [] (q_blk f p (stE p (below, by_, nI c, way, wr, thin, cin, hld, gst, taps, pst, bits, word, shift, psz, fac, lst, sum, ex, rnd, out, ssz, rby, wds, rhd)))) : ∀ (k i : Nat), i + k = c → J G d uX4_symmetry z 0 0 n 6 (q_l [(0, .ref p), (1, .int (q_b (s_al (nI c) taps i))), (2, .int (q_b (s_tu (nI c) taps i))), (3, .int (nI i))]) [] (q_blk f p (stE p (below, by_, nI c, way, wr, thin, cin, hld, gst, taps, pst, bits, word, shift, psz, fac, lst, sum, ex, rnd, out, ssz, rby, wds, rhd))) := by
  intro k
  induction k with
  | zero =>
    intro i hi
    rw [show i = c by omega]
    refine q_iload_n dX4_symmetry_6 rfl ?_
    refine q_aload_n dX4_symmetry_7 rfl ?_
    refine q_getf dX4_symmetry_8 fl_X4_22 (q_blk_get (j := 0) rfl) rfl ?_
    refine q_icmp_ge (tgt := 76) dX4_symmetry_11 (by decide) (fun c_11 => ?_) (fun h_n => absurd ((Int32.le_refl _)) h_n)
    exact q_lo [(0, .ref p), (1, .int (q_b (s_al (nI c) taps c))), (2, .int (q_b (s_tu (nI c) taps c)))] ⟨rfl, rfl, rfl, trivial⟩ hx
  | succ k ih =>
    intro i hi
    refine q_iload_n dX4_symmetry_6 rfl ?_
    refine q_aload_n dX4_symmetry_7 rfl ?_
    refine q_getf dX4_symmetry_8 fl_X4_22 (q_blk_get (j := 0) rfl) rfl ?_
    refine q_icmp_ge (tgt := 76) dX4_symmetry_11 (by decide) (fun h_n => absurd h_n ((nI_ge (by omega) (by omega)))) (fun c_11 => ?_)
    refine q_aload_n dX4_symmetry_14 rfl ?_
    refine q_iload_n dX4_symmetry_15 rfl ?_
    refine q_cW (c_X4_tapAt) dX4_symmetry_16 kl_X4_57 rfl (q_blk_get (j := 0) rfl) rfl ⟨q_le rfl, q_le rfl⟩ (q_le rfl) (q_le rfl) (q_le rfl) ?_
    refine q_istore dX4_symmetry_19 (q_le rfl) ?_
    refine q_aload_n dX4_symmetry_21 rfl ?_
    refine q_aload_n dX4_symmetry_22 rfl ?_
    refine q_getf dX4_symmetry_23 fl_X4_22 (q_blk_get (j := 0) rfl) rfl ?_
    refine q_iconst dX4_symmetry_26 (v := 1) (by decide) ?_
    refine q_isub dX4_symmetry_27 ?_
    refine q_iload_n dX4_symmetry_28 rfl ?_
    refine q_isub dX4_symmetry_29 ?_
    refine q_cW (c_X4_tapAt) dX4_symmetry_30 kl_X4_57 rfl (q_blk_get (j := 0) rfl) rfl ⟨q_le rfl, q_le rfl⟩ (q_le rfl) (q_le rfl) (q_le rfl) ?_
    refine q_istore dX4_symmetry_33 (q_le rfl) ?_
    refine q_iload_n dX4_symmetry_35 rfl ?_
    refine q_ifeq_b (tgt := 50) dX4_symmetry_36 (by decide) (fun c_36 => ?_) (fun c_36 => ?_)
    · refine q_iconst dX4_symmetry_50 (v := 0) (by decide) ?_
      refine q_istore_n dX4_symmetry_51 (q_le rfl) ?_
      refine q_iload_n dX4_symmetry_52 rfl ?_
      refine q_ifeq_b (tgt := 68) dX4_symmetry_53 (by decide) (fun c_53 => ?_) (fun c_53 => ?_)
      · refine q_iconst dX4_symmetry_68 (v := 0) (by decide) ?_
        refine q_istore_n dX4_symmetry_69 (q_le rfl) ?_
        refine q_iinc dX4_symmetry_70 rfl (v := nI (i + 1)) (nI_1 i) ?_
        refine q_goto (tgt := 6) dX4_symmetry_73 (by decide) ?_
        exact q_lo [(0, .ref p), (1, .int (q_b (s_al (nI c) taps (i + 1)))), (2, .int (q_b (s_tu (nI c) taps (i + 1)))), (3, .int (nI (i + 1)))] ⟨rfl, (by rw [show s_al (nI c) taps (i + 1) = false by simp [s_al, c_36]]; rfl), (by rw [show s_tu (nI c) taps (i + 1) = false by simp [s_tu, c_53]]; rfl), rfl, trivial⟩ (ih (i + 1) (by omega))
      · refine q_iload dX4_symmetry_56 rfl ?_
        refine q_iload dX4_symmetry_58 rfl ?_
        refine q_ineg dX4_symmetry_60 ?_
        refine q_icmp_ne (tgt := 68) dX4_symmetry_61 (by decide) (fun c_61 => ?_) (fun c_61 => ?_)
        · refine q_iconst dX4_symmetry_68 (v := 0) (by decide) ?_
          refine q_istore_n dX4_symmetry_69 (q_le rfl) ?_
          refine q_iinc dX4_symmetry_70 rfl (v := nI (i + 1)) (nI_1 i) ?_
          refine q_goto (tgt := 6) dX4_symmetry_73 (by decide) ?_
          exact q_lo [(0, .ref p), (1, .int (q_b (s_al (nI c) taps (i + 1)))), (2, .int (q_b (s_tu (nI c) taps (i + 1)))), (3, .int (nI (i + 1)))] ⟨rfl, (by rw [show s_al (nI c) taps (i + 1) = false by simp [s_al, c_36]]; rfl), (by rw [show s_tu (nI c) taps (i + 1) = false by simp [s_tu, c_53, c_61]]; rfl), rfl, trivial⟩ (ih (i + 1) (by omega))
        · refine q_iconst dX4_symmetry_64 (v := 1) (by decide) ?_
          refine q_goto (tgt := 69) dX4_symmetry_65 (by decide) ?_
          refine q_istore_n dX4_symmetry_69 (q_le rfl) ?_
          refine q_iinc dX4_symmetry_70 rfl (v := nI (i + 1)) (nI_1 i) ?_
          refine q_goto (tgt := 6) dX4_symmetry_73 (by decide) ?_
          exact q_lo [(0, .ref p), (1, .int (q_b (s_al (nI c) taps (i + 1)))), (2, .int (q_b (s_tu (nI c) taps (i + 1)))), (3, .int (nI (i + 1)))] ⟨rfl, (by rw [show s_al (nI c) taps (i + 1) = false by simp [s_al, c_36]]; rfl), (by rw [show s_tu (nI c) taps (i + 1) = true by simp [s_tu, c_53, c_61]]; rfl), rfl, trivial⟩ (ih (i + 1) (by omega))
    · refine q_iload dX4_symmetry_39 rfl ?_
      refine q_iload dX4_symmetry_41 rfl ?_
      refine q_icmp_ne (tgt := 50) dX4_symmetry_43 (by decide) (fun c_43 => ?_) (fun c_43 => ?_)
      · refine q_iconst dX4_symmetry_50 (v := 0) (by decide) ?_
        refine q_istore_n dX4_symmetry_51 (q_le rfl) ?_
        refine q_iload_n dX4_symmetry_52 rfl ?_
        refine q_ifeq_b (tgt := 68) dX4_symmetry_53 (by decide) (fun c_53 => ?_) (fun c_53 => ?_)
        · refine q_iconst dX4_symmetry_68 (v := 0) (by decide) ?_
          refine q_istore_n dX4_symmetry_69 (q_le rfl) ?_
          refine q_iinc dX4_symmetry_70 rfl (v := nI (i + 1)) (nI_1 i) ?_
          refine q_goto (tgt := 6) dX4_symmetry_73 (by decide) ?_
          exact q_lo [(0, .ref p), (1, .int (q_b (s_al (nI c) taps (i + 1)))), (2, .int (q_b (s_tu (nI c) taps (i + 1)))), (3, .int (nI (i + 1)))] ⟨rfl, (by rw [show s_al (nI c) taps (i + 1) = false by simp [s_al, c_36, c_43]]; rfl), (by rw [show s_tu (nI c) taps (i + 1) = false by simp [s_tu, c_53]]; rfl), rfl, trivial⟩ (ih (i + 1) (by omega))
        · refine q_iload dX4_symmetry_56 rfl ?_
          refine q_iload dX4_symmetry_58 rfl ?_
          refine q_ineg dX4_symmetry_60 ?_
          refine q_icmp_ne (tgt := 68) dX4_symmetry_61 (by decide) (fun c_61 => ?_) (fun c_61 => ?_)
          · refine q_iconst dX4_symmetry_68 (v := 0) (by decide) ?_
            refine q_istore_n dX4_symmetry_69 (q_le rfl) ?_
            refine q_iinc dX4_symmetry_70 rfl (v := nI (i + 1)) (nI_1 i) ?_
            refine q_goto (tgt := 6) dX4_symmetry_73 (by decide) ?_
            exact q_lo [(0, .ref p), (1, .int (q_b (s_al (nI c) taps (i + 1)))), (2, .int (q_b (s_tu (nI c) taps (i + 1)))), (3, .int (nI (i + 1)))] ⟨rfl, (by rw [show s_al (nI c) taps (i + 1) = false by simp [s_al, c_36, c_43]]; rfl), (by rw [show s_tu (nI c) taps (i + 1) = false by simp [s_tu, c_53, c_61]]; rfl), rfl, trivial⟩ (ih (i + 1) (by omega))
          · refine q_iconst dX4_symmetry_64 (v := 1) (by decide) ?_
            refine q_goto (tgt := 69) dX4_symmetry_65 (by decide) ?_
            refine q_istore_n dX4_symmetry_69 (q_le rfl) ?_
            refine q_iinc dX4_symmetry_70 rfl (v := nI (i + 1)) (nI_1 i) ?_
            refine q_goto (tgt := 6) dX4_symmetry_73 (by decide) ?_
            exact q_lo [(0, .ref p), (1, .int (q_b (s_al (nI c) taps (i + 1)))), (2, .int (q_b (s_tu (nI c) taps (i + 1)))), (3, .int (nI (i + 1)))] ⟨rfl, (by rw [show s_al (nI c) taps (i + 1) = false by simp [s_al, c_36, c_43]]; rfl), (by rw [show s_tu (nI c) taps (i + 1) = true by simp [s_tu, c_53, c_61]]; rfl), rfl, trivial⟩ (ih (i + 1) (by omega))
      · refine q_iconst dX4_symmetry_46 (v := 1) (by decide) ?_
        refine q_goto (tgt := 51) dX4_symmetry_47 (by decide) ?_
        refine q_istore_n dX4_symmetry_51 (q_le rfl) ?_
        refine q_iload_n dX4_symmetry_52 rfl ?_
        refine q_ifeq_b (tgt := 68) dX4_symmetry_53 (by decide) (fun c_53 => ?_) (fun c_53 => ?_)
        · refine q_iconst dX4_symmetry_68 (v := 0) (by decide) ?_
          refine q_istore_n dX4_symmetry_69 (q_le rfl) ?_
          refine q_iinc dX4_symmetry_70 rfl (v := nI (i + 1)) (nI_1 i) ?_
          refine q_goto (tgt := 6) dX4_symmetry_73 (by decide) ?_
          exact q_lo [(0, .ref p), (1, .int (q_b (s_al (nI c) taps (i + 1)))), (2, .int (q_b (s_tu (nI c) taps (i + 1)))), (3, .int (nI (i + 1)))] ⟨rfl, (by rw [show s_al (nI c) taps (i + 1) = true by simp [s_al, c_36, c_43]]; rfl), (by rw [show s_tu (nI c) taps (i + 1) = false by simp [s_tu, c_53]]; rfl), rfl, trivial⟩ (ih (i + 1) (by omega))
        · refine q_iload dX4_symmetry_56 rfl ?_
          refine q_iload dX4_symmetry_58 rfl ?_
          refine q_ineg dX4_symmetry_60 ?_
          refine q_icmp_ne (tgt := 68) dX4_symmetry_61 (by decide) (fun c_61 => ?_) (fun c_61 => ?_)
          · refine q_iconst dX4_symmetry_68 (v := 0) (by decide) ?_
            refine q_istore_n dX4_symmetry_69 (q_le rfl) ?_
            refine q_iinc dX4_symmetry_70 rfl (v := nI (i + 1)) (nI_1 i) ?_
            refine q_goto (tgt := 6) dX4_symmetry_73 (by decide) ?_
            exact q_lo [(0, .ref p), (1, .int (q_b (s_al (nI c) taps (i + 1)))), (2, .int (q_b (s_tu (nI c) taps (i + 1)))), (3, .int (nI (i + 1)))] ⟨rfl, (by rw [show s_al (nI c) taps (i + 1) = true by simp [s_al, c_36, c_43]]; rfl), (by rw [show s_tu (nI c) taps (i + 1) = false by simp [s_tu, c_53, c_61]]; rfl), rfl, trivial⟩ (ih (i + 1) (by omega))
          · refine q_iconst dX4_symmetry_64 (v := 1) (by decide) ?_
            refine q_goto (tgt := 69) dX4_symmetry_65 (by decide) ?_
            refine q_istore_n dX4_symmetry_69 (q_le rfl) ?_
            refine q_iinc dX4_symmetry_70 rfl (v := nI (i + 1)) (nI_1 i) ?_
            refine q_goto (tgt := 6) dX4_symmetry_73 (by decide) ?_
            exact q_lo [(0, .ref p), (1, .int (q_b (s_al (nI c) taps (i + 1)))), (2, .int (q_b (s_tu (nI c) taps (i + 1)))), (3, .int (nI (i + 1)))] ⟨rfl, (by rw [show s_al (nI c) taps (i + 1) = true by simp [s_al, c_36, c_43]]; rfl), (by rw [show s_tu (nI c) taps (i + 1) = true by simp [s_tu, c_53, c_61]]; rfl), rfl, trivial⟩ (ih (i + 1) (by omega))

set_option maxHeartbeats 4000000 in
set_option maxRecDepth 100000 in
theorem c_X4_symmetry {f : q_Hp} {n p : Nat} {below by_ way wr thin : Int32} {cin hld gst : Int64} {taps : Nat → Int32} {pst bits word shift : Int32} {psz : Int64} {fac : Nat → Int32} {lst : Int32} {sum ex rnd : Int64} {out : Int32} {ssz : Int64} {rby : Int32} {wds : Nat → Int32} {rhd : Int32} {c : Nat} (hc : c ≤ 32) : Sp yX4_symmetry uX4_symmetry [.ref p] n (q_blk f p (stE p (below, by_, nI c, way, wr, thin, cin, hld, gst, taps, pst, bits, word, shift, psz, fac, lst, sum, ex, rnd, out, ssz, rby, wds, rhd))) (some (.int (s_sym (nI c) taps c)), n, q_blk f p (stE p (below, by_, nI c, way, wr, thin, cin, hld, gst, taps, pst, bits, word, shift, psz, fac, lst, sum, ex, rnd, out, ssz, rby, wds, rhd))) := by
  refine Sp.ofF (by decide +kernel) rfl rfl (q_le rfl) ?_
  intro G d
  refine q_iconst dX4_symmetry_0 (v := 1) (by decide) ?_
  refine q_istore_n dX4_symmetry_1 (q_le rfl) ?_
  refine q_iconst dX4_symmetry_2 (v := 1) (by decide) ?_
  refine q_istore_n dX4_symmetry_3 (q_le rfl) ?_
  refine q_iconst dX4_symmetry_4 (v := 0) (by decide) ?_
  refine q_istore_n dX4_symmetry_5 (q_le rfl) ?_
  refine q_lo [(0, .ref p), (1, .int (q_b (s_al (nI c) taps 0))), (2, .int (q_b (s_tu (nI c) taps 0))), (3, .int (nI 0))] ⟨rfl, rfl, rfl, rfl, trivial⟩ (lp_X4_sym hc ?_ c 0 (by omega))
  refine q_iload_n dX4_symmetry_76 rfl ?_
  refine q_ifeq_b (tgt := 84) dX4_symmetry_77 (by decide) (fun c_77 => ?_) (fun c_77 => ?_)
  · refine q_iconst dX4_symmetry_84 (v := 0) (by decide) ?_
    refine q_iload_n dX4_symmetry_85 rfl ?_
    refine q_ifeq_b (tgt := 93) dX4_symmetry_86 (by decide) (fun c_86 => ?_) (fun c_86 => ?_)
    · refine q_iconst dX4_symmetry_93 (v := 0) (by decide) ?_
      refine q_iadd dX4_symmetry_94 ?_
      exact q_iret dX4_symmetry_95 rfl (by simp [s_sym, c_77, c_86]) (q_le rfl) (q_le rfl)
    · refine q_iconst dX4_symmetry_89 (v := 2) (by decide) ?_
      refine q_goto (tgt := 94) dX4_symmetry_90 (by decide) ?_
      refine q_iadd dX4_symmetry_94 ?_
      exact q_iret dX4_symmetry_95 rfl (by simp [s_sym, c_77, c_86]) (q_le rfl) (q_le rfl)
  · refine q_iconst dX4_symmetry_80 (v := 1) (by decide) ?_
    refine q_goto (tgt := 85) dX4_symmetry_81 (by decide) ?_
    refine q_iload_n dX4_symmetry_85 rfl ?_
    refine q_ifeq_b (tgt := 93) dX4_symmetry_86 (by decide) (fun c_86 => ?_) (fun c_86 => ?_)
    · refine q_iconst dX4_symmetry_93 (v := 0) (by decide) ?_
      refine q_iadd dX4_symmetry_94 ?_
      exact q_iret dX4_symmetry_95 rfl (by simp [s_sym, c_77, c_86]) (q_le rfl) (q_le rfl)
    · refine q_iconst dX4_symmetry_89 (v := 2) (by decide) ?_
      refine q_goto (tgt := 94) dX4_symmetry_90 (by decide) ?_
      refine q_iadd dX4_symmetry_94 ?_
      exact q_iret dX4_symmetry_95 rfl (by simp [s_sym, c_77, c_86]) (q_le rfl) (q_le rfl)

