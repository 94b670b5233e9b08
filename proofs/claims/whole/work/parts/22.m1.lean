def mE (o cnt cl tn : Nat) (lost : Int32) (be by_ tc ta wa wr pl bi wo sh fa ca ph : Nat → Int32) (cm km gr : Nat → Int64) (kp : Nat → Int32) (su ro : Nat → Int64) (ou : Nat → Int32) (ex sz : Nat → Int64) (ww ch tp ir ow : Nat → Int32) : List q_E :=
  [.inr (7, [.int (nI cnt), .ref (o + 1), .ref (o + 2), .ref (o + 3), .ref (o + 4), .ref (o + 5), .ref (o + 6), .ref (o + 7), .ref (o + 8), .ref (o + 9), .ref (o + 10), .ref (o + 11), .ref (o + 12), .ref (o + 13), .ref (o + 14), .ref (o + 15), .ref (o + 16), .ref (o + 17), .ref (o + 18), .ref (o + 19), .ref (o + 20), .ref (o + 21), .ref (o + 22), .ref (o + 23), .int (nI cl), .ref (o + 24), .int (nI tn), .ref (o + 25), .int lost, .ref (o + 26), .ref (o + 27)]), .inl (0, 8, .inl be), .inl (0, 8, .inl by_), .inl (0, 8, .inl tc), .inl (0, 256, .inl ta), .inl (0, 8, .inl wa), .inl (2, 8, .inl wr), .inl (2, 8, .inl pl), .inl (0, 8, .inl bi), .inl (0, 8, .inl wo), .inl (0, 8, .inl sh), .inl (0, 256, .inl fa), .inl (0, 256, .inl ca), .inl (0, 8, .inl ph), .inl (3, 8, .inr (.inl cm)), .inl (3, 8, .inr (.inl km)), .inl (3, 8, .inr (.inl gr)), .inl (2, 8, .inl kp), .inl (3, 8, .inr (.inl su)), .inl (3, 8, .inr (.inl ro)), .inl (0, 8, .inl ou), .inl (3, 8, .inr (.inl ex)), .inl (3, 8, .inr (.inl sz)), .inl (0, 8, .inl ww), .inl (0, 8, .inl ch), .inl (0, 600, .inl tp), .inl (0, 64, .inl ir), .inl (0, 64, .inl ow)]
section JROWSN
variable {G : q_G} {d : q_D} {u : q_M} {z : q_Z} {ce sl n pc : Nat} {ls : q_L} {st : List Value} {f : q_Hp}
theorem q_ialdN {q m : Nat} {g : Nat → Int32} {ix : Int32} (hd : decode u.1 pc = .ok (.iaload, 1)) (hc : f q = some (.inl (0, m, .inl g))) {k : Nat} (he : ix = nI k) (hk : k < m) (hm : m < 2 ^ 31) (kk : J G d u z ce sl n (pc + 1) ls (.int (g k) :: st) f) : J G d u z ce sl n pc ls (.int ix :: .ref q :: st) f := by
  subst he
  refine q_iald hd hc (vp_in_nI hk hm) ?_
  rw [nI_clamp (by omega)]
  exact kk
theorem q_zaldN {q m : Nat} {g : Nat → Int32} {ix : Int32} (hd : decode u.1 pc = .ok (.baload, 1)) (hc : f q = some (.inl (2, m, .inl g))) {k : Nat} (he : ix = nI k) (hk : k < m) (hm : m < 2 ^ 31) (kk : J G d u z ce sl n (pc + 1) ls (.int (g k) :: st) f) : J G d u z ce sl n pc ls (.int ix :: .ref q :: st) f := by
  subst he
  refine q_zald hd hc (vp_in_nI hk hm) ?_
  rw [nI_clamp (by omega)]
  exact kk
theorem q_laldN {q m : Nat} {g : Nat → Int64} {ix : Int32} (hd : decode u.1 pc = .ok (.laload, 1)) (hc : f q = some (.inl (3, m, .inr (.inl g)))) {k : Nat} (he : ix = nI k) (hk : k < m) (hm : m < 2 ^ 31) (kk : J G d u z ce sl n (pc + 1) ls (.long (g k) :: st) f) : J G d u z ce sl n pc ls (.int ix :: .ref q :: st) f := by
  subst he
  refine q_lald hd hc (vp_in_nI hk hm) ?_
  rw [nI_clamp (by omega)]
  exact kk
theorem q_iastN {q m : Nat} {g : Nat → Int32} {ix : Int32} {x : Int32} (hd : decode u.1 pc = .ok (.iastore, 1)) (hc : f q = some (.inl (0, m, .inl g))) {k : Nat} (he : ix = nI k) (hk : k < m) (hm : m < 2 ^ 31) (kk : J G d u z ce sl n (pc + 1) ls st (q_up f q (.inl (0, m, .inl (upd g k x))))) : J G d u z ce sl n pc ls (.int x :: .int ix :: .ref q :: st) f := by
  subst he
  refine q_iast hd hc (vp_in_nI hk hm) ?_
  rw [nI_clamp (by omega)]
  exact kk
theorem q_lastN {q m : Nat} {g : Nat → Int64} {ix : Int32} {x : Int64} (hd : decode u.1 pc = .ok (.lastore, 1)) (hc : f q = some (.inl (3, m, .inr (.inl g)))) {k : Nat} (he : ix = nI k) (hk : k < m) (hm : m < 2 ^ 31) (kk : J G d u z ce sl n (pc + 1) ls st (q_up f q (.inl (3, m, .inr (.inl (vp_updL g k x)))))) : J G d u z ce sl n pc ls (.long x :: .int ix :: .ref q :: st) f := by
  subst he
  refine q_last hd hc (vp_in_nI hk hm) ?_
  rw [nI_clamp (by omega)]
  exact kk
theorem q_zastN {q m : Nat} {g : Nat → Int32} {ix : Int32} {x : Int32} (hd : decode u.1 pc = .ok (.bastore, 1)) (hc : f q = some (.inl (2, m, .inl g))) {k : Nat} (he : ix = nI k) (hk : k < m) (hm : m < 2 ^ 31) (hx : vp_nar .boolean x = x) (kk : J G d u z ce sl n (pc + 1) ls st (q_up f q (.inl (2, m, .inl (upd g k x))))) : J G d u z ce sl n pc ls (.int x :: .int ix :: .ref q :: st) f := by
  subst he
  refine q_zast hd hc (vp_in_nI hk hm) ?_
  rw [nI_clamp (by omega), hx]
  exact kk
end JROWSN
def m_in (v lo up : Int64) : Bool := !decide (v < lo) && !decide (up < v)
theorem i64_lt (x y : Int32) : x.toInt64 < y.toInt64 ↔ x < y := by
  rw [Int64.lt_iff_toInt_lt, Int32.lt_iff_toInt_lt, Int32.toInt_toInt64, Int32.toInt_toInt64]
theorem m_in_x (v lo up : Int32) : m_in v.toInt64 lo.toInt64 up.toInt64 = x_in v lo up := by
  unfold m_in x_in
  simp only [i64_lt]
theorem m_ix (i t : Nat) : (32 : Int32) * nI i + nI t = nI (32 * i + t) := by
  rw [show (32 : Int32) = nI 32 from rfl, pk_mul, nI_add]
theorem m_ix0 (i : Nat) : (32 : Int32) * nI i = nI (32 * i) := by
  rw [show (32 : Int32) = nI 32 from rfl, pk_mul]
theorem x_in_ok {i cnt : Nat} (hi : i < cnt) (hcnt : cnt ≤ 8) : x_in (nI i) 0 (nI cnt - 1) = true := by
  rw [x_pred (by omega)]
  unfold x_in
  have h1 : ¬ nI i < 0 := nI_pos (by omega)
  have h2 : ¬ nI (cnt - 1) < nI i := nI_nlt (by omega) (by omega)
  simp [h1, h2]
theorem x_in_no {k : Int32} {cnt : Nat} (hcnt : cnt ≤ 8) (hk : k < 0 ∨ nI cnt ≤ k) : x_in k 0 (nI cnt - 1) = false := by
  unfold x_in
  rcases hk with h | h
  · simp [h]
  · have h3 : nI cnt - 1 < k := by
      rw [Int32.lt_iff_toInt_lt]
      have h4 : (nI cnt - 1).toInt = (cnt : Int) - 1 := by
        rcases Nat.eq_zero_or_pos cnt with e | e
        · subst e; decide
        · rw [x_pred e, nI_toInt (by omega)]
          omega
      have h5 := Int32.le_iff_toInt_le.mp h
      rw [nI_toInt (by omega)] at h5
      omega
    simp [h3]
set_option maxHeartbeats 4000000 in
set_option maxRecDepth 100000 in
theorem c_X7_in {f : q_Hp} {n : Nat} {v lo up : Int64} : Sp yX7_in uX7_in [.long v, .long lo, .long up] n f (some (.int (q_b (m_in v lo up))), n, f) := by
  refine Sp.ofF (by decide +kernel) rfl rfl (q_le rfl) ?_
  intro G d
  refine q_lload_n dX7_in_0 rfl ?_
  refine q_lload_n dX7_in_1 rfl ?_
  refine q_lcmp_lt (tgt := 17) dX7_in_2 dX7_in_3 (by decide) (fun c_2 => ?_) (fun c_2 => ?_)
  · refine q_iconst dX7_in_17 (v := 0) (by decide) ?_
    exact q_zret dX7_in_18 rfl rfl (by simp [m_in, q_b, c_2]) (q_le rfl) (q_le rfl)
  · refine q_lload_n dX7_in_6 rfl ?_
    refine q_lload dX7_in_7 rfl ?_
    refine q_lcmp_gt (tgt := 17) dX7_in_9 dX7_in_10 (by decide) (fun c_9 => ?_) (fun c_9 => ?_)
    · refine q_iconst dX7_in_17 (v := 0) (by decide) ?_
      exact q_zret dX7_in_18 rfl rfl (by simp [m_in, q_b, c_2, c_9]) (q_le rfl) (q_le rfl)
    · refine q_iconst dX7_in_13 (v := 1) (by decide) ?_
      refine q_goto (tgt := 18) dX7_in_14 (by decide) ?_
      exact q_zret dX7_in_18 rfl rfl (by simp [m_in, q_b, c_2, c_9]) (q_le rfl) (q_le rfl)

theorem c_in_x {f : q_Hp} {n : Nat} {v : Int32} (lo up : Int32) {L U : Int64} (hL : lo.toInt64 = L) (hU : up.toInt64 = U) : Sp yX7_in uX7_in [.long v.toInt64, .long L, .long U] n f (some (.int (q_b (x_in v lo up))), n, f) := by
  subst hL
  subst hU
  rw [← m_in_x]
  exact c_X7_in
set_option maxHeartbeats 4000000 in
set_option maxRecDepth 100000 in
theorem c_X7_size {f : q_Hp} {n : Nat} {x : Int64} : Sp yX7_size uX7_size [.long x] n f (some (.long (m_abs x)), n, f) := by
  refine Sp.ofF (by decide +kernel) rfl rfl (q_le rfl) ?_
  intro G d
  refine q_lload_n dX7_size_0 rfl ?_
  refine q_lconst dX7_size_1 (v := 0) (by decide) ?_
  refine q_lcmp_ge (tgt := 11) dX7_size_2 dX7_size_3 (by decide) (fun c_2 => ?_) (fun c_2 => ?_)
  · refine q_lload_n dX7_size_11 rfl ?_
    exact q_lret dX7_size_12 rfl (by simp [m_abs, c_2]) (q_le rfl) (q_le rfl)
  · refine q_lload_n dX7_size_6 rfl ?_
    refine q_lneg dX7_size_7 ?_
    refine q_goto (tgt := 12) dX7_size_8 (by decide) ?_
    exact q_lret dX7_size_12 rfl (by simp [m_abs, c_2]) (q_le rfl) (q_le rfl)

set_option maxHeartbeats 4000000 in
set_option maxRecDepth 100000 in
theorem c_X7_isTap {f : q_Hp} {n : Nat} {v : Int32} : Sp yX7_isTap uX7_isTap [.int v] n f (some (.int (q_b (x_in v (-1000000) 1000000))), n, f) := by
  refine Sp.ofF (by decide +kernel) rfl rfl (q_le rfl) ?_
  intro G d
  refine q_iload_n dX7_isTap_0 rfl ?_
  refine q_i2l dX7_isTap_1 ?_
  refine q_ldc2 dX7_isTap_2 cn_X7_116 ?_
  refine q_ldc2 dX7_isTap_5 cn_X7_101 ?_
  refine q_cS (c_in_x (-1000000) 1000000 rfl rfl) dX7_isTap_8 kl_X7_97 rfl ⟨q_le rfl, q_le rfl⟩ (q_le rfl) (q_le rfl) (q_le rfl) ?_
  exact q_zret dX7_isTap_11 rfl (q_nb _) (rfl) (q_le rfl) (q_le rfl)

set_option maxHeartbeats 4000000 in
set_option maxRecDepth 100000 in
theorem c_X7_isSample {f : q_Hp} {n : Nat} {v : Int32} : Sp yX7_isSample uX7_isSample [.int v] n f (some (.int (q_b (x_in v (-32768) 32767))), n, f) := by
  refine Sp.ofF (by decide +kernel) rfl rfl (q_le rfl) ?_
  intro G d
  refine q_iload_n dX7_isSample_0 rfl ?_
  refine q_i2l dX7_isSample_1 ?_
  refine q_ldc2 dX7_isSample_2 cn_X7_191 ?_
  refine q_ldc2 dX7_isSample_5 cn_X7_193 ?_
  refine q_cS (c_in_x (-32768) 32767 rfl rfl) dX7_isSample_8 kl_X7_97 rfl ⟨q_le rfl, q_le rfl⟩ (q_le rfl) (q_le rfl) (q_le rfl) ?_
  exact q_zret dX7_isSample_11 rfl (q_nb _) (rfl) (q_le rfl) (q_le rfl)

def m_down (v w : Int64) : Int64 := if 0 ≤ v - v / w * w then v / w else v / w - 1
def m_near (v w : Int64) : Int64 := if w < 2 * (v - m_down v w * w) then m_down v w + 1 else if 2 * (v - m_down v w * w) = w then (if m_down v w &&& 1 = 1 then m_down v w + 1 else m_down v w) else m_down v w
set_option maxHeartbeats 4000000 in
set_option maxRecDepth 100000 in
theorem c_X7_down {f : q_Hp} {n : Nat} {v w : Int64} (hw : ¬ w = 0) : Sp yX7_down uX7_down [.long v, .long w] n f (some (.long (m_down v w)), n, f) := by
  refine Sp.ofF (by decide +kernel) rfl rfl (q_le rfl) ?_
  intro G d
  refine q_lload_n dX7_down_0 rfl ?_
  refine q_lload_n dX7_down_1 rfl ?_
  refine q_ldiv dX7_down_2 hw ?_
  refine q_lstore dX7_down_3 (q_le rfl) ?_
  refine q_lload_n dX7_down_5 rfl ?_
  refine q_lload_n dX7_down_6 rfl ?_
  refine q_lrem dX7_down_7 hw ?_
  refine q_lconst dX7_down_8 (v := 0) (by decide) ?_
  refine q_lcmp_ge (tgt := 20) dX7_down_9 dX7_down_10 (by decide) (fun c_9 => ?_) (fun c_9 => ?_)
  · refine q_lload dX7_down_20 rfl ?_
    exact q_lret dX7_down_22 rfl (by simp [m_down, c_9]) (q_le rfl) (q_le rfl)
  · refine q_lload dX7_down_13 rfl ?_
    refine q_lconst dX7_down_15 (v := 1) (by decide) ?_
    refine q_lsub dX7_down_16 ?_
    refine q_goto (tgt := 22) dX7_down_17 (by decide) ?_
    exact q_lret dX7_down_22 rfl (by simp [m_down, c_9]) (q_le rfl) (q_le rfl)

set_option maxHeartbeats 4000000 in
set_option maxRecDepth 100000 in
theorem c_X7_nearest {f : q_Hp} {n : Nat} {v w : Int64} (hw : ¬ w = 0) : Sp yX7_nearest uX7_nearest [.long v, .long w] n f (some (.long (m_near v w)), n, f) := by
  refine Sp.ofF (by decide +kernel) rfl rfl (q_le rfl) ?_
  intro G d
  refine q_lload_n dX7_nearest_0 rfl ?_
  refine q_lload_n dX7_nearest_1 rfl ?_
  refine q_cS (c_X7_down hw) dX7_nearest_2 kl_X7_132 rfl ⟨q_le rfl, q_le rfl⟩ (q_le rfl) (q_le rfl) (q_le rfl) ?_
  refine q_lstore dX7_nearest_5 (q_le rfl) ?_
  refine q_ldc2 dX7_nearest_7 cn_X7_136 ?_
  refine q_lload_n dX7_nearest_10 rfl ?_
  refine q_lload dX7_nearest_11 rfl ?_
  refine q_lload_n dX7_nearest_13 rfl ?_
  refine q_lmul dX7_nearest_14 ?_
  refine q_lsub dX7_nearest_15 ?_
  refine q_lmul dX7_nearest_16 ?_
  refine q_lstore dX7_nearest_17 (q_le rfl) ?_
  refine q_lload dX7_nearest_19 rfl ?_
  refine q_lload_n dX7_nearest_21 rfl ?_
  refine q_lcmp_gt (tgt := 42) dX7_nearest_22 dX7_nearest_23 (by decide) (fun c_22 => ?_) (fun c_22 => ?_)
  · refine q_lload dX7_nearest_42 rfl ?_
    refine q_lconst dX7_nearest_44 (v := 1) (by decide) ?_
    refine q_ladd dX7_nearest_45 ?_
    refine q_goto (tgt := 51) dX7_nearest_46 (by decide) ?_
    exact q_lret dX7_nearest_51 rfl (by simp [m_near, c_22]) (q_le rfl) (q_le rfl)
  · refine q_lload dX7_nearest_26 rfl ?_
    refine q_lload_n dX7_nearest_28 rfl ?_
    refine q_lcmp_ne (tgt := 49) dX7_nearest_29 dX7_nearest_30 (by decide) (fun c_29 => ?_) (fun c_29 => ?_)
    · refine q_lload dX7_nearest_49 rfl ?_
      exact q_lret dX7_nearest_51 rfl (by simp [m_near, c_22, c_29]) (q_le rfl) (q_le rfl)
    · refine q_lload dX7_nearest_33 rfl ?_
      refine q_lconst dX7_nearest_35 (v := 1) (by decide) ?_
      refine q_land dX7_nearest_36 ?_
      refine q_lconst dX7_nearest_37 (v := 1) (by decide) ?_
      refine q_lcmp_ne (tgt := 49) dX7_nearest_38 dX7_nearest_39 (by decide) (fun c_38 => ?_) (fun c_38 => ?_)
      · refine q_lload dX7_nearest_49 rfl ?_
        exact q_lret dX7_nearest_51 rfl (by simp [m_near, c_22, c_29, c_38]) (q_le rfl) (q_le rfl)
      · refine q_lload dX7_nearest_42 rfl ?_
        refine q_lconst dX7_nearest_44 (v := 1) (by decide) ?_
        refine q_ladd dX7_nearest_45 ?_
        refine q_goto (tgt := 51) dX7_nearest_46 (by decide) ?_
        exact q_lret dX7_nearest_51 rfl (by simp [m_near, c_22, c_29, c_38]) (q_le rfl) (q_le rfl)

abbrev m_one (sh : Int32) : Int64 := (1 : Int64) <<< (sh.toInt64 &&& 63)
def m_round (v : Int64) (sh way : Int32) : Int64 := if way = 0 then m_down v (m_one sh) else if way = 1 then v / m_one sh else if way = 2 then m_down (2 * v + m_one sh) (2 * m_one sh) else m_near v (m_one sh)
set_option maxHeartbeats 4000000 in
set_option maxRecDepth 100000 in
theorem c_X7_round {f : q_Hp} {n : Nat} {v : Int64} {sh way : Int32} (h1 : ¬ m_one sh = 0) (h2 : ¬ 2 * m_one sh = 0) : Sp yX7_round uX7_round [.long v, .int sh, .int way] n f (some (.long (m_round v sh way)), n, f) := by
  refine Sp.ofF (by decide +kernel) rfl rfl (q_le rfl) ?_
  intro G d
  refine q_lconst dX7_round_0 (v := 1) (by decide) ?_
  refine q_iload_n dX7_round_1 rfl ?_
  refine q_lshl dX7_round_2 ?_
  refine q_lstore dX7_round_3 (q_le rfl) ?_
  refine q_iload_n dX7_round_5 rfl ?_
  by_cases s_6_0 : way = 0
  · refine q_tblIn (off := 26) (tgt := 32) dX7_round_6 (by rw [s_6_0]; decide) (by rw [s_6_0]; decide) (by rw [s_6_0]; rfl) (by decide) ?_
    refine q_lload_n dX7_round_32 rfl ?_
    refine q_lload dX7_round_33 rfl ?_
    refine q_cS (c_X7_down h1) dX7_round_35 kl_X7_132 rfl ⟨q_le rfl, q_le rfl⟩ (q_le rfl) (q_le rfl) (q_le rfl) ?_
    exact q_lret dX7_round_38 rfl (by unfold m_round; rw [if_pos s_6_0] <;> rfl) (q_le rfl) (q_le rfl)
  by_cases s_6_1 : way = 1
  · refine q_tblIn (off := 33) (tgt := 39) dX7_round_6 (by rw [s_6_1]; decide) (by rw [s_6_1]; decide) (by rw [s_6_1]; rfl) (by decide) ?_
    refine q_lload_n dX7_round_39 rfl ?_
    refine q_lload dX7_round_40 rfl ?_
    refine q_ldiv dX7_round_42 h1 ?_
    exact q_lret dX7_round_43 rfl (by unfold m_round; rw [if_neg s_6_0, if_pos s_6_1] <;> rfl) (q_le rfl) (q_le rfl)
  by_cases s_6_2 : way = 2
  · refine q_tblIn (off := 38) (tgt := 44) dX7_round_6 (by rw [s_6_2]; decide) (by rw [s_6_2]; decide) (by rw [s_6_2]; rfl) (by decide) ?_
    refine q_ldc2 dX7_round_44 cn_X7_136 ?_
    refine q_lload_n dX7_round_47 rfl ?_
    refine q_lmul dX7_round_48 ?_
    refine q_lload dX7_round_49 rfl ?_
    refine q_ladd dX7_round_51 ?_
    refine q_ldc2 dX7_round_52 cn_X7_136 ?_
    refine q_lload dX7_round_55 rfl ?_
    refine q_lmul dX7_round_57 ?_
    refine q_cS (c_X7_down h2) dX7_round_58 kl_X7_132 rfl ⟨q_le rfl, q_le rfl⟩ (q_le rfl) (q_le rfl) (q_le rfl) ?_
    exact q_lret dX7_round_61 rfl (by unfold m_round; rw [if_neg s_6_0, if_neg s_6_1, if_pos s_6_2] <;> rfl) (q_le rfl) (q_le rfl)
  have is_6_0 := q_ne s_6_0 (i := 0) (by decide)
  have is_6_1 := q_ne s_6_1 (i := 1) (by decide)
  have is_6_2 := q_ne s_6_2 (i := 2) (by decide)
  refine q_tblOut (tgt := 62) dX7_round_6 (by omega) (by decide) ?_
  refine q_lload_n dX7_round_62 rfl ?_
  refine q_lload dX7_round_63 rfl ?_
  refine q_cS (c_X7_nearest h1) dX7_round_65 kl_X7_138 rfl ⟨q_le rfl, q_le rfl⟩ (q_le rfl) (q_le rfl) (q_le rfl) ?_
  exact q_lret dX7_round_68 rfl (by unfold m_round; rw [if_neg s_6_0, if_neg s_6_1, if_neg s_6_2] <;> rfl) (q_le rfl) (q_le rfl)

set_option maxHeartbeats 4000000 in
set_option maxRecDepth 100000 in
theorem c_isS_ok {f : q_Hp} {n o cnt cl tn : Nat} {lost : Int32} {be by_ tc ta wa wr pl bi wo sh fa ca ph : Nat → Int32} {cm km gr : Nat → Int64} {kp : Nat → Int32} {su ro : Nat → Int64} {ou : Nat → Int32} {ex sz : Nat → Int64} {ww ch tp ir ow : Nat → Int32} {i : Nat} (hcnt : cnt ≤ 8) (hi : i < cnt) : Sp yX7_isStage uX7_isStage [.ref o, .int (nI i)] n (q_blk f o (mE o cnt cl tn lost be by_ tc ta wa wr pl bi wo sh fa ca ph cm km gr kp su ro ou ex sz ww ch tp ir ow)) (some (.int (q_b true)), n, (q_blk f o (mE o cnt cl tn lost be by_ tc ta wa wr pl bi wo sh fa ca ph cm km gr kp su ro ou ex sz ww ch tp ir ow))) := by
  refine Sp.ofF (by decide +kernel) rfl rfl (q_le rfl) ?_
  intro G d
  refine q_iload_n dX7_isStage_0 rfl ?_
  refine q_i2l dX7_isStage_1 ?_
  refine q_lconst dX7_isStage_2 (v := 0) (by decide) ?_
  refine q_aload_n dX7_isStage_3 rfl ?_
  refine q_getf dX7_isStage_4 fl_X7_93 (q_blk_get (j := 0) rfl) rfl ?_
  refine q_iconst dX7_isStage_7 (v := 1) (by decide) ?_
  refine q_isub dX7_isStage_8 ?_
  refine q_i2l dX7_isStage_9 ?_
  refine q_cS (c_in_x 0 (nI cnt - 1) rfl rfl) dX7_isStage_10 kl_X7_97 rfl ⟨q_le rfl, q_le rfl⟩ (q_le rfl) (q_le rfl) (q_le rfl) ?_
  rw [x_in_ok hi hcnt]
  exact q_zret dX7_isStage_13 rfl (q_nb _) (rfl) (q_le rfl) (q_le rfl)

set_option maxHeartbeats 4000000 in
set_option maxRecDepth 100000 in
theorem c_isS_no {f : q_Hp} {n o cnt cl tn : Nat} {lost : Int32} {be by_ tc ta wa wr pl bi wo sh fa ca ph : Nat → Int32} {cm km gr : Nat → Int64} {kp : Nat → Int32} {su ro : Nat → Int64} {ou : Nat → Int32} {ex sz : Nat → Int64} {ww ch tp ir ow : Nat → Int32} {k : Int32} (hcnt : cnt ≤ 8) (hk : k < 0 ∨ nI cnt ≤ k) : Sp yX7_isStage uX7_isStage [.ref o, .int k] n (q_blk f o (mE o cnt cl tn lost be by_ tc ta wa wr pl bi wo sh fa ca ph cm km gr kp su ro ou ex sz ww ch tp ir ow)) (some (.int (q_b false)), n, (q_blk f o (mE o cnt cl tn lost be by_ tc ta wa wr pl bi wo sh fa ca ph cm km gr kp su ro ou ex sz ww ch tp ir ow))) := by
  refine Sp.ofF (by decide +kernel) rfl rfl (q_le rfl) ?_
  intro G d
  refine q_iload_n dX7_isStage_0 rfl ?_
  refine q_i2l dX7_isStage_1 ?_
  refine q_lconst dX7_isStage_2 (v := 0) (by decide) ?_
  refine q_aload_n dX7_isStage_3 rfl ?_
  refine q_getf dX7_isStage_4 fl_X7_93 (q_blk_get (j := 0) rfl) rfl ?_
  refine q_iconst dX7_isStage_7 (v := 1) (by decide) ?_
  refine q_isub dX7_isStage_8 ?_
  refine q_i2l dX7_isStage_9 ?_
  refine q_cS (c_in_x 0 (nI cnt - 1) rfl rfl) dX7_isStage_10 kl_X7_97 rfl ⟨q_le rfl, q_le rfl⟩ (q_le rfl) (q_le rfl) (q_le rfl) ?_
  rw [x_in_no hcnt hk]
  exact q_zret dX7_isStage_13 rfl (q_nb _) (rfl) (q_le rfl) (q_le rfl)

