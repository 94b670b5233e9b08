theorem x_in_okc {t c : Nat} (h : t < c) (hc : c ≤ 1000) : x_in (nI t) 0 (nI c - 1) = true := by
  rw [x_pred (by omega)]
  unfold x_in
  have h1 : ¬ nI t < 0 := nI_pos (by omega)
  have h2 : ¬ nI (c - 1) < nI t := nI_nlt (by omega) (by omega)
  simp [h1, h2]
theorem x_in_noc {k : Int32} {c : Nat} (hc : c ≤ 1000) (hk : k < 0 ∨ nI c ≤ k) : x_in k 0 (nI c - 1) = false := by
  unfold x_in
  rcases hk with h | h
  · simp [h]
  · have h3 : nI c - 1 < k := by
      rw [Int32.lt_iff_toInt_lt]
      have h4 : (nI c - 1).toInt = (c : Int) - 1 := by
        rcases Nat.eq_zero_or_pos c with e | e
        · subst e; decide
        · rw [x_pred e, nI_toInt (by omega)]
          omega
      have h5 := Int32.le_iff_toInt_le.mp h
      rw [nI_toInt (by omega)] at h5
      omega
    simp [h3]
def m_fd (ch : Nat → Int32) (v : Int32) : Nat → Nat → Option Nat
  | 0, _ => none
  | k + 1, i => if ch i = v then some i else m_fd ch v k (i + 1)
theorem m_fd_lt {ch : Nat → Int32} {v : Int32} : ∀ {k i a : Nat}, m_fd ch v k i = some a → i ≤ a ∧ a < i + k
  | 0, i, a, h => by cases h
  | k + 1, i, a, h => by
    unfold m_fd at h
    by_cases h1 : ch i = v
    · rw [if_pos h1] at h
      cases h
      omega
    · rw [if_neg h1] at h
      have := m_fd_lt h
      omega
def m_sh : (Nat → Int32) → Nat → Nat → Nat → Int32
  | ch, 0, _ => ch
  | ch, k + 1, i => m_sh (upd ch i (ch (i + 1))) k (i + 1)
def m_un (ch : Nat → Int32) (cl : Nat) (v : Int32) : (Nat → Int32) × Nat := match m_fd ch v cl 0 with
  | none => (ch, cl)
  | some a => (m_sh ch (cl - 1 - a) a, cl - 1)
theorem nI_ne {a b : Nat} (h : a ≠ b) (ha : a < 2 ^ 31) (hb : b < 2 ^ 31) : ¬ nI a = nI b := fun e => h ((nI_eq ha hb).mp e)
set_option maxHeartbeats 4000000 in
set_option maxRecDepth 100000 in
theorem lp_m_place {G : q_G} {d : q_D} {f : q_Hp} {n o cnt cl tn : Nat} {lost : Int32} {be by_ tc ta wa wr pl bi wo sh fa ca ph : Nat → Int32} {cm km gr : Nat → Int64} {kp : Nat → Int32} {su ro : Nat → Int64} {ou : Nat → Int32} {ex sz : Nat → Int64} {ww ch tp ir ow : Nat → Int32} {v : Int32} (hcl : cl ≤ 8) : ∀ (k i : Nat), i + k = cl → J G d uX7_placeOf (some (.int ((m_fd ch v k i).elim (-1) nI)), n, q_blk f o (mE o cnt cl tn lost be by_ tc ta wa wr pl bi wo sh fa ca ph cm km gr kp su ro ou ex sz ww ch tp ir ow)) 0 0 n 2 (q_l [(0, .ref o), (1, .int v), (2, .int (nI i))]) [] (q_blk f o (mE o cnt cl tn lost be by_ tc ta wa wr pl bi wo sh fa ca ph cm km gr kp su ro ou ex sz ww ch tp ir ow)) := by
  intro k
  induction k with
  | zero =>
    intro i hi
    rw [show i = cl by omega]
    refine q_iload_n dX7_placeOf_2 rfl ?_
    refine q_aload_n dX7_placeOf_3 rfl ?_
    refine q_getf dX7_placeOf_4 fl_X7_109 (q_blk_get (j := 0) rfl) rfl ?_
    refine q_icmp_ge (tgt := 28) dX7_placeOf_7 (by decide) (fun c_7 => ?_) (fun h_n => absurd ((Int32.le_refl _)) h_n)
    refine q_iconst dX7_placeOf_28 (v := (-1)) (by decide) ?_
    exact q_iret dX7_placeOf_29 rfl (rfl) (q_le rfl) (q_le rfl)
  | succ k ih =>
    intro i hi
    refine q_iload_n dX7_placeOf_2 rfl ?_
    refine q_aload_n dX7_placeOf_3 rfl ?_
    refine q_getf dX7_placeOf_4 fl_X7_109 (q_blk_get (j := 0) rfl) rfl ?_
    refine q_icmp_ge (tgt := 28) dX7_placeOf_7 (by decide) (fun h_n => absurd h_n ((nI_ge (by omega) (by omega)))) (fun c_7 => ?_)
    refine q_aload_n dX7_placeOf_10 rfl ?_
    refine q_getf dX7_placeOf_11 fl_X7_81 (q_blk_get (j := 0) rfl) rfl ?_
    refine q_iload_n dX7_placeOf_14 rfl ?_
    refine q_ialdN dX7_placeOf_15 (q_blk_get (j := 24) rfl) (k := i) rfl (by omega) (by decide) ?_
    refine q_iload_n dX7_placeOf_16 rfl ?_
    refine q_icmp_ne (tgt := 22) dX7_placeOf_17 (by decide) (fun c_17 => ?_) (fun c_17 => ?_)
    · refine q_iinc dX7_placeOf_22 rfl (v := nI (i + 1)) (nI_1 i) ?_
      refine q_goto (tgt := 2) dX7_placeOf_25 (by decide) ?_
      exact q_zz (z' := (some (.int ((m_fd ch v k (i + 1)).elim (-1) nI)), n, q_blk f o (mE o cnt cl tn lost be by_ tc ta wa wr pl bi wo sh fa ca ph cm km gr kp su ro ou ex sz ww ch tp ir ow))) (by simp [m_fd, c_17]) (q_lo [(0, .ref o), (1, .int v), (2, .int (nI (i + 1)))] ⟨rfl, rfl, rfl, trivial⟩ (ih (i + 1) (by omega)))
    · refine q_iload_n dX7_placeOf_20 rfl ?_
      exact q_iret dX7_placeOf_21 rfl (by simp [m_fd, c_17]) (q_le rfl) (q_le rfl)

set_option maxHeartbeats 4000000 in
set_option maxRecDepth 100000 in
theorem m_placeOf {f : q_Hp} {n o cnt cl tn : Nat} {lost : Int32} {be by_ tc ta wa wr pl bi wo sh fa ca ph : Nat → Int32} {cm km gr : Nat → Int64} {kp : Nat → Int32} {su ro : Nat → Int64} {ou : Nat → Int32} {ex sz : Nat → Int64} {ww ch tp ir ow : Nat → Int32} {v : Int32} (hcnt : cnt ≤ 8) (hcl : cl ≤ 8) : Sp yX7_placeOf uX7_placeOf [.ref o, .int v] n (q_blk f o (mE o cnt cl tn lost be by_ tc ta wa wr pl bi wo sh fa ca ph cm km gr kp su ro ou ex sz ww ch tp ir ow)) (some (.int ((m_fd ch v cl 0).elim (-1) nI)), n, (q_blk f o (mE o cnt cl tn lost be by_ tc ta wa wr pl bi wo sh fa ca ph cm km gr kp su ro ou ex sz ww ch tp ir ow))) := by
  refine Sp.ofF (by decide +kernel) rfl rfl (q_le rfl) ?_
  intro G d
  refine q_iconst dX7_placeOf_0 (v := 0) (by decide) ?_
  refine q_istore_n dX7_placeOf_1 (q_le rfl) ?_
  exact q_lo [(0, .ref o), (1, .int v), (2, .int (nI 0))] ⟨rfl, rfl, rfl, trivial⟩ (lp_m_place hcl cl 0 (by omega))

set_option maxHeartbeats 4000000 in
set_option maxRecDepth 100000 in
theorem lp_m_unplan {G : q_G} {d : q_D} {f : q_Hp} {n o cnt cl tn : Nat} {lost : Int32} {be by_ tc ta wa wr pl bi wo sh fa ca ph : Nat → Int32} {cm km gr : Nat → Int64} {kp : Nat → Int32} {su ro : Nat → Int64} {ou : Nat → Int32} {ex sz : Nat → Int64} {ww tp ir ow : Nat → Int32} {a : Nat} (ha : a < 8) (hcl : cl ≤ 8) : ∀ (k i : Nat) (ch : Nat → Int32), i + k + 1 = cl → J G d uX7_unplan (none, n, q_blk f o (mE o cnt (cl - 1) tn lost be by_ tc ta wa wr pl bi wo sh fa ca ph cm km gr kp su ro ou ex sz ww (m_sh ch k i) tp ir ow)) 0 0 n 15 (q_l [(0, .ref o), (2, .int (nI a)), (3, .int (nI i))]) [] (q_blk f o (mE o cnt cl tn lost be by_ tc ta wa wr pl bi wo sh fa ca ph cm km gr kp su ro ou ex sz ww ch tp ir ow)) := by
  intro k
  induction k with
  | zero =>
    intro i ch hi
    refine q_iload_n dX7_unplan_15 rfl ?_
    refine q_iconst dX7_unplan_16 (v := (-1)) (by decide) ?_
    refine q_icmp_eq (tgt := 50) dX7_unplan_17 (by decide) (fun h_n => absurd h_n ((x_nm1 (by omega)))) (fun c_17 => ?_)
    refine q_iload_n dX7_unplan_20 rfl ?_
    refine q_aload_n dX7_unplan_21 rfl ?_
    refine q_getf dX7_unplan_22 fl_X7_109 (q_blk_get (j := 0) rfl) rfl ?_
    refine q_iconst dX7_unplan_25 (v := 1) (by decide) ?_
    refine q_isub dX7_unplan_26 ?_
    refine q_icmp_ge (tgt := 50) dX7_unplan_27 (by decide) (fun c_27 => ?_) (fun h_n => absurd ((by rw [x_pred (by omega)]; exact nI_le (by omega) (by omega))) h_n)
    refine q_aload_n dX7_unplan_50 rfl ?_
    refine q_dup dX7_unplan_51 rfl ?_
    refine q_getf dX7_unplan_52 fl_X7_109 (q_blk_get (j := 0) rfl) rfl ?_
    refine q_iload_n dX7_unplan_55 rfl ?_
    refine q_iconst dX7_unplan_56 (v := (-1)) (by decide) ?_
    refine q_icmp_ne (tgt := 64) dX7_unplan_57 (by decide) (fun c_57 => ?_) (fun h_n => absurd h_n ((x_nm1 (by omega))))
    refine q_iconst dX7_unplan_64 (v := 1) (by decide) ?_
    refine q_isub dX7_unplan_65 ?_
    refine q_stk (show _ = [Value.int (nI (cl - 1)), Value.ref o] from by rw [x_pred (by omega)]) ?_
    refine q_putf dX7_unplan_66 pl_X7_109 (q_blk_get (j := 0) rfl) (q_le rfl) rfl rfl ?_
    refine q_heap (q_blk_up (j := 0) (q_le rfl)) ?_
    exact q_vret dX7_unplan_69 rfl (rfl) (q_le rfl) (q_le rfl)
  | succ k ih =>
    intro i ch hi
    refine q_iload_n dX7_unplan_15 rfl ?_
    refine q_iconst dX7_unplan_16 (v := (-1)) (by decide) ?_
    refine q_icmp_eq (tgt := 50) dX7_unplan_17 (by decide) (fun h_n => absurd h_n ((x_nm1 (by omega)))) (fun c_17 => ?_)
    refine q_iload_n dX7_unplan_20 rfl ?_
    refine q_aload_n dX7_unplan_21 rfl ?_
    refine q_getf dX7_unplan_22 fl_X7_109 (q_blk_get (j := 0) rfl) rfl ?_
    refine q_iconst dX7_unplan_25 (v := 1) (by decide) ?_
    refine q_isub dX7_unplan_26 ?_
    refine q_icmp_ge (tgt := 50) dX7_unplan_27 (by decide) (fun h_n => absurd h_n ((by rw [x_pred (by omega)]; exact nI_ge (by omega) (by omega)))) (fun c_27 => ?_)
    refine q_aload_n dX7_unplan_30 rfl ?_
    refine q_getf dX7_unplan_31 fl_X7_81 (q_blk_get (j := 0) rfl) rfl ?_
    refine q_iload_n dX7_unplan_34 rfl ?_
    refine q_aload_n dX7_unplan_35 rfl ?_
    refine q_getf dX7_unplan_36 fl_X7_81 (q_blk_get (j := 0) rfl) rfl ?_
    refine q_iload_n dX7_unplan_39 rfl ?_
    refine q_iconst dX7_unplan_40 (v := 1) (by decide) ?_
    refine q_iadd dX7_unplan_41 ?_
    refine q_ialdN dX7_unplan_42 (q_blk_get (j := 24) rfl) (k := i + 1) (nI_1 i) (by omega) (by decide) ?_
    refine q_iastN dX7_unplan_43 (q_blk_get (j := 24) rfl) (k := i) rfl (by omega) (by decide) ?_
    refine q_heap (q_blk_up (j := 24) (q_le rfl)) ?_
    refine q_iinc dX7_unplan_44 rfl (v := nI (i + 1)) (nI_1 i) ?_
    refine q_goto (tgt := 15) dX7_unplan_47 (by decide) ?_
    exact q_lo [(0, .ref o), (2, .int (nI a)), (3, .int (nI (i + 1)))] ⟨rfl, rfl, rfl, trivial⟩ (ih (i + 1) _ (by omega))

set_option maxHeartbeats 4000000 in
set_option maxRecDepth 100000 in
theorem m_unplan {f : q_Hp} {n o cnt cl tn : Nat} {lost : Int32} {be by_ tc ta wa wr pl bi wo sh fa ca ph : Nat → Int32} {cm km gr : Nat → Int64} {kp : Nat → Int32} {su ro : Nat → Int64} {ou : Nat → Int32} {ex sz : Nat → Int64} {ww ch tp ir ow : Nat → Int32} {i : Nat} (hcnt : cnt ≤ 8) (hi : i < cnt) (hcl : cl ≤ 8) : Sp yX7_unplan uX7_unplan [.ref o, .int (nI i)] n (q_blk f o (mE o cnt cl tn lost be by_ tc ta wa wr pl bi wo sh fa ca ph cm km gr kp su ro ou ex sz ww ch tp ir ow)) (none, n, (q_blk f o (mE o cnt ((m_un ch cl (nI i)).2) tn lost be by_ tc ta wa wr (upd pl i 0) bi wo sh fa ca ph cm km gr kp su ro ou ex sz ww ((m_un ch cl (nI i)).1) tp ir ow))) := by
  refine Sp.ofF (by decide +kernel) rfl rfl (q_le rfl) ?_
  intro G d
  cases hfd : m_fd ch (nI i) cl 0 with
  | none =>
    have hun : m_un ch cl (nI i) = (ch, cl) := by unfold m_un; rw [hfd]
    refine q_aload_n dX7_unplan_0 rfl ?_
    refine q_getf dX7_unplan_1 fl_X7_29 (q_blk_get (j := 0) rfl) rfl ?_
    refine q_iload_n dX7_unplan_4 rfl ?_
    refine q_iconst dX7_unplan_5 (v := 0) (by decide) ?_
    refine q_zastN dX7_unplan_6 (q_blk_get (j := 7) rfl) (k := i) rfl (by omega) (by decide) (by decide) ?_
    refine q_heap (q_blk_up (j := 7) (q_le rfl)) ?_
    refine q_aload_n dX7_unplan_7 rfl ?_
    refine q_iload_n dX7_unplan_8 rfl ?_
    refine q_cW (m_placeOf hcnt hcl) dX7_unplan_9 kl_X7_112 rfl (q_blk_get (j := 0) rfl) rfl ⟨q_le rfl, q_le rfl⟩ (q_le rfl) (q_le rfl) (q_le rfl) ?_
    rw [hfd]
    refine q_istore_n dX7_unplan_12 (q_le rfl) ?_
    refine q_iload_n dX7_unplan_13 rfl ?_
    refine q_istore_n dX7_unplan_14 (q_le rfl) ?_
    refine q_iload_n dX7_unplan_15 rfl ?_
    refine q_iconst dX7_unplan_16 (v := (-1)) (by decide) ?_
    refine q_icmp_eq (tgt := 50) dX7_unplan_17 (by decide) (fun c_17 => ?_) (fun h_n => absurd (rfl) h_n)
    refine q_aload_n dX7_unplan_50 rfl ?_
    refine q_dup dX7_unplan_51 rfl ?_
    refine q_getf dX7_unplan_52 fl_X7_109 (q_blk_get (j := 0) rfl) rfl ?_
    refine q_iload_n dX7_unplan_55 rfl ?_
    refine q_iconst dX7_unplan_56 (v := (-1)) (by decide) ?_
    refine q_icmp_ne (tgt := 64) dX7_unplan_57 (by decide) (fun h_n => absurd (rfl) h_n) (fun c_57 => ?_)
    refine q_iconst dX7_unplan_60 (v := 0) (by decide) ?_
    refine q_goto (tgt := 65) dX7_unplan_61 (by decide) ?_
    refine q_isub dX7_unplan_65 ?_
    refine q_stk (show _ = [Value.int (nI cl), Value.ref o] from by rw [Int32.sub_zero]; rfl) ?_
    refine q_putf dX7_unplan_66 pl_X7_109 (q_blk_get (j := 0) rfl) (q_le rfl) rfl rfl ?_
    refine q_heap (q_blk_up (j := 0) (q_le rfl)) ?_
    exact q_vret dX7_unplan_69 rfl (by rw [hun]; rfl) (q_le rfl) (q_le rfl)
  | some a =>
    have ha := m_fd_lt hfd
    have hun : m_un ch cl (nI i) = (m_sh ch (cl - 1 - a) a, cl - 1) := by unfold m_un; rw [hfd]
    refine q_aload_n dX7_unplan_0 rfl ?_
    refine q_getf dX7_unplan_1 fl_X7_29 (q_blk_get (j := 0) rfl) rfl ?_
    refine q_iload_n dX7_unplan_4 rfl ?_
    refine q_iconst dX7_unplan_5 (v := 0) (by decide) ?_
    refine q_zastN dX7_unplan_6 (q_blk_get (j := 7) rfl) (k := i) rfl (by omega) (by decide) (by decide) ?_
    refine q_heap (q_blk_up (j := 7) (q_le rfl)) ?_
    refine q_aload_n dX7_unplan_7 rfl ?_
    refine q_iload_n dX7_unplan_8 rfl ?_
    refine q_cW (m_placeOf hcnt hcl) dX7_unplan_9 kl_X7_112 rfl (q_blk_get (j := 0) rfl) rfl ⟨q_le rfl, q_le rfl⟩ (q_le rfl) (q_le rfl) (q_le rfl) ?_
    rw [hfd]
    refine q_istore_n dX7_unplan_12 (q_le rfl) ?_
    refine q_iload_n dX7_unplan_13 rfl ?_
    refine q_istore_n dX7_unplan_14 (q_le rfl) ?_
    exact q_zz (by rw [hun]) (q_lo [(0, .ref o), (2, .int (nI a)), (3, .int (nI a))] ⟨rfl, rfl, rfl, trivial⟩ (lp_m_unplan (by omega) hcl (cl - 1 - a) a ch (by omega)))

set_option maxHeartbeats 4000000 in
set_option maxRecDepth 100000 in
theorem m_tap_bad {f : q_Hp} {n o cnt cl tn : Nat} {lost : Int32} {be by_ tc ta wa wr pl bi wo sh fa ca ph : Nat → Int32} {cm km gr : Nat → Int64} {kp : Nat → Int32} {su ro : Nat → Int64} {ou : Nat → Int32} {ex sz : Nat → Int64} {ww ch tp ir ow : Nat → Int32} {k t : Int32} (hcnt : cnt ≤ 8) (hk : k < 0 ∨ nI cnt ≤ k) : Sp yX7_tap uX7_tap [.ref o, .int k, .int t] n (q_blk f o (mE o cnt cl tn lost be by_ tc ta wa wr pl bi wo sh fa ca ph cm km gr kp su ro ou ex sz ww ch tp ir ow)) (some (.int (-2)), n, (q_blk f o (mE o cnt cl tn lost be by_ tc ta wa wr pl bi wo sh fa ca ph cm km gr kp su ro ou ex sz ww ch tp ir ow))) := by
  refine Sp.ofF (by decide +kernel) rfl rfl (q_le rfl) ?_
  intro G d
  refine q_aload_n dX7_tap_0 rfl ?_
  refine q_iload_n dX7_tap_1 rfl ?_
  refine q_cW (c_isS_no hcnt hk) dX7_tap_2 kl_X7_118 rfl (q_blk_get (j := 0) rfl) rfl ⟨q_le rfl, q_le rfl⟩ (q_le rfl) (q_le rfl) (q_le rfl) ?_
  refine q_ifeq_b (tgt := 15) dX7_tap_5 (by decide) (fun c_5 => ?_) (fun h_n => absurd (h_n.symm.trans (rfl)) (by decide))
  refine q_bipush dX7_tap_15 (v := (-2)) (by decide) ?_
  exact q_iret dX7_tap_17 rfl (rfl) (q_le rfl) (q_le rfl)

set_option maxHeartbeats 4000000 in
set_option maxRecDepth 100000 in
theorem m_tap_rng {f : q_Hp} {n o cnt cl tn : Nat} {lost : Int32} {be by_ tc ta wa wr pl bi wo sh fa ca ph : Nat → Int32} {cm km gr : Nat → Int64} {kp : Nat → Int32} {su ro : Nat → Int64} {ou : Nat → Int32} {ex sz : Nat → Int64} {ww ch tp ir ow : Nat → Int32} {i : Nat} {t : Int32} (hcnt : cnt ≤ 8) (hi : i < cnt) (hx : x_in t (-1000000) 1000000 = false) : Sp yX7_tap uX7_tap [.ref o, .int (nI i), .int t] n (q_blk f o (mE o cnt cl tn lost be by_ tc ta wa wr pl bi wo sh fa ca ph cm km gr kp su ro ou ex sz ww ch tp ir ow)) (some (.int (-2)), n, (q_blk f o (mE o cnt cl tn lost be by_ tc ta wa wr pl bi wo sh fa ca ph cm km gr kp su ro ou ex sz ww ch tp ir ow))) := by
  refine Sp.ofF (by decide +kernel) rfl rfl (q_le rfl) ?_
  intro G d
  refine q_aload_n dX7_tap_0 rfl ?_
  refine q_iload_n dX7_tap_1 rfl ?_
  refine q_cW (c_isS_ok hcnt hi) dX7_tap_2 kl_X7_118 rfl (q_blk_get (j := 0) rfl) rfl ⟨q_le rfl, q_le rfl⟩ (q_le rfl) (q_le rfl) (q_le rfl) ?_
  refine q_ifeq_b (tgt := 15) dX7_tap_5 (by decide) (fun h_n => absurd (h_n.symm.trans (rfl)) (by decide)) (fun c_5 => ?_)
  refine q_iload_n dX7_tap_8 rfl ?_
  refine q_cS (c_X7_isTap) dX7_tap_9 kl_X7_122 rfl ⟨q_le rfl, q_le rfl⟩ (q_le rfl) (q_le rfl) (q_le rfl) ?_
  refine q_ifne_b (tgt := 18) dX7_tap_12 (by decide) (fun h_n => absurd (h_n.symm.trans (hx)) (by decide)) (fun c_12 => ?_)
  refine q_bipush dX7_tap_15 (v := (-2)) (by decide) ?_
  exact q_iret dX7_tap_17 rfl (rfl) (q_le rfl) (q_le rfl)

set_option maxHeartbeats 4000000 in
set_option maxRecDepth 100000 in
theorem m_tap_full {f : q_Hp} {n o cnt cl tn : Nat} {lost : Int32} {be by_ tc ta wa wr pl bi wo sh fa ca ph : Nat → Int32} {cm km gr : Nat → Int64} {kp : Nat → Int32} {su ro : Nat → Int64} {ou : Nat → Int32} {ex sz : Nat → Int64} {ww ch tp ir ow : Nat → Int32} {i : Nat} {t : Int32} (hcnt : cnt ≤ 8) (hi : i < cnt) (hx : x_in t (-1000000) 1000000 = true) (htc : tc i = nI 32) : Sp yX7_tap uX7_tap [.ref o, .int (nI i), .int t] n (q_blk f o (mE o cnt cl tn lost be by_ tc ta wa wr pl bi wo sh fa ca ph cm km gr kp su ro ou ex sz ww ch tp ir ow)) (some (.int (-4)), n, (q_blk f o (mE o cnt cl tn lost be by_ tc ta wa wr pl bi wo sh fa ca ph cm km gr kp su ro ou ex sz ww ch tp ir ow))) := by
  refine Sp.ofF (by decide +kernel) rfl rfl (q_le rfl) ?_
  intro G d
  refine q_aload_n dX7_tap_0 rfl ?_
  refine q_iload_n dX7_tap_1 rfl ?_
  refine q_cW (c_isS_ok hcnt hi) dX7_tap_2 kl_X7_118 rfl (q_blk_get (j := 0) rfl) rfl ⟨q_le rfl, q_le rfl⟩ (q_le rfl) (q_le rfl) (q_le rfl) ?_
  refine q_ifeq_b (tgt := 15) dX7_tap_5 (by decide) (fun h_n => absurd (h_n.symm.trans (rfl)) (by decide)) (fun c_5 => ?_)
  refine q_iload_n dX7_tap_8 rfl ?_
  refine q_cS (c_X7_isTap) dX7_tap_9 kl_X7_122 rfl ⟨q_le rfl, q_le rfl⟩ (q_le rfl) (q_le rfl) (q_le rfl) ?_
  refine q_ifne_b (tgt := 18) dX7_tap_12 (by decide) (fun c_12 => ?_) (fun h_n => absurd (h_n.symm.trans (hx)) (by decide))
  refine q_aload_n dX7_tap_18 rfl ?_
  refine q_getf dX7_tap_19 fl_X7_16 (q_blk_get (j := 0) rfl) rfl ?_
  refine q_iload_n dX7_tap_22 rfl ?_
  refine q_ialdN dX7_tap_23 (q_blk_get (j := 3) rfl) (k := i) rfl (by omega) (by decide) ?_
  refine q_bipush dX7_tap_24 (v := 32) (by decide) ?_
  refine q_icmp_ne (tgt := 32) dX7_tap_26 (by decide) (fun h_n => absurd ((htc.trans rfl)) h_n) (fun c_26 => ?_)
  refine q_bipush dX7_tap_29 (v := (-4)) (by decide) ?_
  exact q_iret dX7_tap_31 rfl (rfl) (q_le rfl) (q_le rfl)

set_option maxHeartbeats 4000000 in
set_option maxRecDepth 100000 in
theorem m_tap_ok {f : q_Hp} {n o cnt cl tn : Nat} {lost : Int32} {be by_ tc ta wa wr pl bi wo sh fa ca ph : Nat → Int32} {cm km gr : Nat → Int64} {kp : Nat → Int32} {su ro : Nat → Int64} {ou : Nat → Int32} {ex sz : Nat → Int64} {ww ch tp ir ow : Nat → Int32} {i : Nat} {t : Int32} {c : Nat} (hcnt : cnt ≤ 8) (hi : i < cnt) (hcl : cl ≤ 8) (hx : x_in t (-1000000) 1000000 = true) (htc : tc i = nI c) (hc : c < 32) : Sp yX7_tap uX7_tap [.ref o, .int (nI i), .int t] n (q_blk f o (mE o cnt cl tn lost be by_ tc ta wa wr pl bi wo sh fa ca ph cm km gr kp su ro ou ex sz ww ch tp ir ow)) (some (.int (tc i + 1)), n, (q_blk f o (mE o cnt ((m_un ch cl (nI i)).2) tn lost be by_ (upd tc i (tc i + 1)) (upd ta (32 * i + c) t) wa wr (upd pl i 0) bi wo sh fa ca ph cm km gr kp su ro ou ex sz ww ((m_un ch cl (nI i)).1) tp ir ow))) := by
  refine Sp.ofF (by decide +kernel) rfl rfl (q_le rfl) ?_
  intro G d
  refine q_aload_n dX7_tap_0 rfl ?_
  refine q_iload_n dX7_tap_1 rfl ?_
  refine q_cW (c_isS_ok hcnt hi) dX7_tap_2 kl_X7_118 rfl (q_blk_get (j := 0) rfl) rfl ⟨q_le rfl, q_le rfl⟩ (q_le rfl) (q_le rfl) (q_le rfl) ?_
  refine q_ifeq_b (tgt := 15) dX7_tap_5 (by decide) (fun h_n => absurd (h_n.symm.trans (rfl)) (by decide)) (fun c_5 => ?_)
  refine q_iload_n dX7_tap_8 rfl ?_
  refine q_cS (c_X7_isTap) dX7_tap_9 kl_X7_122 rfl ⟨q_le rfl, q_le rfl⟩ (q_le rfl) (q_le rfl) (q_le rfl) ?_
  refine q_ifne_b (tgt := 18) dX7_tap_12 (by decide) (fun c_12 => ?_) (fun h_n => absurd (h_n.symm.trans (hx)) (by decide))
  refine q_aload_n dX7_tap_18 rfl ?_
  refine q_getf dX7_tap_19 fl_X7_16 (q_blk_get (j := 0) rfl) rfl ?_
  refine q_iload_n dX7_tap_22 rfl ?_
  refine q_ialdN dX7_tap_23 (q_blk_get (j := 3) rfl) (k := i) rfl (by omega) (by decide) ?_
  refine q_bipush dX7_tap_24 (v := 32) (by decide) ?_
  refine q_icmp_ne (tgt := 32) dX7_tap_26 (by decide) (fun c_26 => ?_) (fun h_n => absurd h_n ((by rw [htc]; exact nI_ne (b := 32) (by omega) (by omega) (by decide))))
  refine q_aload_n dX7_tap_32 rfl ?_
  refine q_getf dX7_tap_33 fl_X7_19 (q_blk_get (j := 0) rfl) rfl ?_
  refine q_bipush dX7_tap_36 (v := 32) (by decide) ?_
  refine q_iload_n dX7_tap_38 rfl ?_
  refine q_imul dX7_tap_39 ?_
  refine q_aload_n dX7_tap_40 rfl ?_
  refine q_getf dX7_tap_41 fl_X7_16 (q_blk_get (j := 0) rfl) rfl ?_
  refine q_iload_n dX7_tap_44 rfl ?_
  refine q_ialdN dX7_tap_45 (q_blk_get (j := 3) rfl) (k := i) rfl (by omega) (by decide) ?_
  refine q_iadd dX7_tap_46 ?_
  refine q_iload_n dX7_tap_47 rfl ?_
  refine q_iastN dX7_tap_48 (q_blk_get (j := 4) rfl) (k := 32 * i + c) (by rw [htc]; exact m_ix i c) (by omega) (by decide) ?_
  refine q_heap (q_blk_up (j := 4) (q_le rfl)) ?_
  refine q_aload_n dX7_tap_49 rfl ?_
  refine q_getf dX7_tap_50 fl_X7_16 (q_blk_get (j := 0) rfl) rfl ?_
  refine q_iload_n dX7_tap_53 rfl ?_
  refine q_dup2_11 dX7_tap_54 rfl rfl ?_
  refine q_ialdN dX7_tap_55 (q_blk_get (j := 3) rfl) (k := i) rfl (by omega) (by decide) ?_
  refine q_iconst dX7_tap_56 (v := 1) (by decide) ?_
  refine q_iadd dX7_tap_57 ?_
  refine q_iastN dX7_tap_58 (q_blk_get (j := 3) rfl) (k := i) rfl (by omega) (by decide) ?_
  refine q_heap (q_blk_up (j := 3) (q_le rfl)) ?_
  refine q_aload_n dX7_tap_59 rfl ?_
  refine q_iload_n dX7_tap_60 rfl ?_
  refine q_cW (m_unplan hcnt hi hcl) dX7_tap_61 kl_X7_125 rfl (q_blk_get (j := 0) rfl) rfl ⟨q_le rfl, q_le rfl⟩ (q_le rfl) (q_le rfl) (q_le rfl) ?_
  refine q_aload_n dX7_tap_64 rfl ?_
  refine q_getf dX7_tap_65 fl_X7_16 (q_blk_get (j := 0) rfl) rfl ?_
  refine q_iload_n dX7_tap_68 rfl ?_
  refine q_ialdN dX7_tap_69 (q_blk_get (j := 3) rfl) (k := i) rfl (by omega) (by decide) ?_
  exact q_iret dX7_tap_70 rfl (by rw [pk_us]) (q_le rfl) (q_le rfl)

set_option maxHeartbeats 4000000 in
set_option maxRecDepth 100000 in
theorem m_change_bad {f : q_Hp} {n o cnt cl tn : Nat} {lost : Int32} {be by_ tc ta wa wr pl bi wo sh fa ca ph : Nat → Int32} {cm km gr : Nat → Int64} {kp : Nat → Int32} {su ro : Nat → Int64} {ou : Nat → Int32} {ex sz : Nat → Int64} {ww ch tp ir ow : Nat → Int32} {k k2 t : Int32} (hcnt : cnt ≤ 8) (hk : k < 0 ∨ nI cnt ≤ k) : Sp yX7_change uX7_change [.ref o, .int k, .int k2, .int t] n (q_blk f o (mE o cnt cl tn lost be by_ tc ta wa wr pl bi wo sh fa ca ph cm km gr kp su ro ou ex sz ww ch tp ir ow)) (some (.int 2000000000), n, (q_blk f o (mE o cnt cl tn lost be by_ tc ta wa wr pl bi wo sh fa ca ph cm km gr kp su ro ou ex sz ww ch tp ir ow))) := by
  refine Sp.ofF (by decide +kernel) rfl rfl (q_le rfl) ?_
  intro G d
  refine q_aload_n dX7_change_0 rfl ?_
  refine q_iload_n dX7_change_1 rfl ?_
  refine q_cW (c_isS_no hcnt hk) dX7_change_2 kl_X7_118 rfl (q_blk_get (j := 0) rfl) rfl ⟨q_le rfl, q_le rfl⟩ (q_le rfl) (q_le rfl) (q_le rfl) ?_
  refine q_ifeq_b (tgt := 33) dX7_change_5 (by decide) (fun c_5 => ?_) (fun h_n => absurd (h_n.symm.trans (rfl)) (by decide))
  refine q_ldc dX7_change_33 cn_X7_129 ?_
  exact q_iret dX7_change_35 rfl (rfl) (q_le rfl) (q_le rfl)

set_option maxHeartbeats 4000000 in
set_option maxRecDepth 100000 in
theorem m_change_no {f : q_Hp} {n o cnt cl tn : Nat} {lost : Int32} {be by_ tc ta wa wr pl bi wo sh fa ca ph : Nat → Int32} {cm km gr : Nat → Int64} {kp : Nat → Int32} {su ro : Nat → Int64} {ou : Nat → Int32} {ex sz : Nat → Int64} {ww ch tp ir ow : Nat → Int32} {i : Nat} {k t : Int32} (hcnt : cnt ≤ 8) (hi : i < cnt) (hx : x_in k 0 (tc i - 1) = false) : Sp yX7_change uX7_change [.ref o, .int (nI i), .int k, .int t] n (q_blk f o (mE o cnt cl tn lost be by_ tc ta wa wr pl bi wo sh fa ca ph cm km gr kp su ro ou ex sz ww ch tp ir ow)) (some (.int 2000000000), n, (q_blk f o (mE o cnt cl tn lost be by_ tc ta wa wr pl bi wo sh fa ca ph cm km gr kp su ro ou ex sz ww ch tp ir ow))) := by
  refine Sp.ofF (by decide +kernel) rfl rfl (q_le rfl) ?_
  intro G d
  refine q_aload_n dX7_change_0 rfl ?_
  refine q_iload_n dX7_change_1 rfl ?_
  refine q_cW (c_isS_ok hcnt hi) dX7_change_2 kl_X7_118 rfl (q_blk_get (j := 0) rfl) rfl ⟨q_le rfl, q_le rfl⟩ (q_le rfl) (q_le rfl) (q_le rfl) ?_
  refine q_ifeq_b (tgt := 33) dX7_change_5 (by decide) (fun h_n => absurd (h_n.symm.trans (rfl)) (by decide)) (fun c_5 => ?_)
  refine q_iload_n dX7_change_8 rfl ?_
  refine q_i2l dX7_change_9 ?_
  refine q_lconst dX7_change_10 (v := 0) (by decide) ?_
  refine q_aload_n dX7_change_11 rfl ?_
  refine q_getf dX7_change_12 fl_X7_16 (q_blk_get (j := 0) rfl) rfl ?_
  refine q_iload_n dX7_change_15 rfl ?_
  refine q_ialdN dX7_change_16 (q_blk_get (j := 3) rfl) (k := i) rfl (by omega) (by decide) ?_
  refine q_iconst dX7_change_17 (v := 1) (by decide) ?_
  refine q_isub dX7_change_18 ?_
  refine q_i2l dX7_change_19 ?_
  refine q_cS (c_in_x 0 (tc i - 1) rfl rfl) dX7_change_20 kl_X7_97 rfl ⟨q_le rfl, q_le rfl⟩ (q_le rfl) (q_le rfl) (q_le rfl) ?_
  refine q_ifeq_b (tgt := 33) dX7_change_23 (by decide) (fun c_23 => ?_) (fun h_n => absurd (h_n.symm.trans (hx)) (by decide))
  refine q_ldc dX7_change_33 cn_X7_129 ?_
  exact q_iret dX7_change_35 rfl (rfl) (q_le rfl) (q_le rfl)

set_option maxHeartbeats 4000000 in
set_option maxRecDepth 100000 in
theorem m_change_rng {f : q_Hp} {n o cnt cl tn : Nat} {lost : Int32} {be by_ tc ta wa wr pl bi wo sh fa ca ph : Nat → Int32} {cm km gr : Nat → Int64} {kp : Nat → Int32} {su ro : Nat → Int64} {ou : Nat → Int32} {ex sz : Nat → Int64} {ww ch tp ir ow : Nat → Int32} {i : Nat} {k t : Int32} (hcnt : cnt ≤ 8) (hi : i < cnt) (hx : x_in k 0 (tc i - 1) = true) (hr : x_in t (-1000000) 1000000 = false) : Sp yX7_change uX7_change [.ref o, .int (nI i), .int k, .int t] n (q_blk f o (mE o cnt cl tn lost be by_ tc ta wa wr pl bi wo sh fa ca ph cm km gr kp su ro ou ex sz ww ch tp ir ow)) (some (.int 2000000000), n, (q_blk f o (mE o cnt cl tn lost be by_ tc ta wa wr pl bi wo sh fa ca ph cm km gr kp su ro ou ex sz ww ch tp ir ow))) := by
  refine Sp.ofF (by decide +kernel) rfl rfl (q_le rfl) ?_
  intro G d
  refine q_aload_n dX7_change_0 rfl ?_
  refine q_iload_n dX7_change_1 rfl ?_
  refine q_cW (c_isS_ok hcnt hi) dX7_change_2 kl_X7_118 rfl (q_blk_get (j := 0) rfl) rfl ⟨q_le rfl, q_le rfl⟩ (q_le rfl) (q_le rfl) (q_le rfl) ?_
  refine q_ifeq_b (tgt := 33) dX7_change_5 (by decide) (fun h_n => absurd (h_n.symm.trans (rfl)) (by decide)) (fun c_5 => ?_)
  refine q_iload_n dX7_change_8 rfl ?_
  refine q_i2l dX7_change_9 ?_
  refine q_lconst dX7_change_10 (v := 0) (by decide) ?_
  refine q_aload_n dX7_change_11 rfl ?_
  refine q_getf dX7_change_12 fl_X7_16 (q_blk_get (j := 0) rfl) rfl ?_
  refine q_iload_n dX7_change_15 rfl ?_
  refine q_ialdN dX7_change_16 (q_blk_get (j := 3) rfl) (k := i) rfl (by omega) (by decide) ?_
  refine q_iconst dX7_change_17 (v := 1) (by decide) ?_
  refine q_isub dX7_change_18 ?_
  refine q_i2l dX7_change_19 ?_
  refine q_cS (c_in_x 0 (tc i - 1) rfl rfl) dX7_change_20 kl_X7_97 rfl ⟨q_le rfl, q_le rfl⟩ (q_le rfl) (q_le rfl) (q_le rfl) ?_
  refine q_ifeq_b (tgt := 33) dX7_change_23 (by decide) (fun h_n => absurd (h_n.symm.trans (hx)) (by decide)) (fun c_23 => ?_)
  refine q_iload_n dX7_change_26 rfl ?_
  refine q_cS (c_X7_isTap) dX7_change_27 kl_X7_122 rfl ⟨q_le rfl, q_le rfl⟩ (q_le rfl) (q_le rfl) (q_le rfl) ?_
  refine q_ifne_b (tgt := 36) dX7_change_30 (by decide) (fun h_n => absurd (h_n.symm.trans (hr)) (by decide)) (fun c_30 => ?_)
  refine q_ldc dX7_change_33 cn_X7_129 ?_
  exact q_iret dX7_change_35 rfl (rfl) (q_le rfl) (q_le rfl)

set_option maxHeartbeats 4000000 in
set_option maxRecDepth 100000 in
theorem m_change_ok {f : q_Hp} {n o cnt cl tn : Nat} {lost : Int32} {be by_ tc ta wa wr pl bi wo sh fa ca ph : Nat → Int32} {cm km gr : Nat → Int64} {kp : Nat → Int32} {su ro : Nat → Int64} {ou : Nat → Int32} {ex sz : Nat → Int64} {ww ch tp ir ow : Nat → Int32} {i kk : Nat} {t : Int32} (hcnt : cnt ≤ 8) (hi : i < cnt) (hcl : cl ≤ 8) (hk : kk < 32) (hx : x_in (nI kk) 0 (tc i - 1) = true) (hr : x_in t (-1000000) 1000000 = true) : Sp yX7_change uX7_change [.ref o, .int (nI i), .int (nI kk), .int t] n (q_blk f o (mE o cnt cl tn lost be by_ tc ta wa wr pl bi wo sh fa ca ph cm km gr kp su ro ou ex sz ww ch tp ir ow)) (some (.int (ta (32 * i + kk))), n, (q_blk f o (mE o cnt ((m_un ch cl (nI i)).2) tn lost be by_ tc (upd ta (32 * i + kk) t) wa wr (upd pl i 0) bi wo sh fa ca ph cm km gr kp su ro ou ex sz ww ((m_un ch cl (nI i)).1) tp ir ow))) := by
  refine Sp.ofF (by decide +kernel) rfl rfl (q_le rfl) ?_
  intro G d
  refine q_aload_n dX7_change_0 rfl ?_
  refine q_iload_n dX7_change_1 rfl ?_
  refine q_cW (c_isS_ok hcnt hi) dX7_change_2 kl_X7_118 rfl (q_blk_get (j := 0) rfl) rfl ⟨q_le rfl, q_le rfl⟩ (q_le rfl) (q_le rfl) (q_le rfl) ?_
  refine q_ifeq_b (tgt := 33) dX7_change_5 (by decide) (fun h_n => absurd (h_n.symm.trans (rfl)) (by decide)) (fun c_5 => ?_)
  refine q_iload_n dX7_change_8 rfl ?_
  refine q_i2l dX7_change_9 ?_
  refine q_lconst dX7_change_10 (v := 0) (by decide) ?_
  refine q_aload_n dX7_change_11 rfl ?_
  refine q_getf dX7_change_12 fl_X7_16 (q_blk_get (j := 0) rfl) rfl ?_
  refine q_iload_n dX7_change_15 rfl ?_
  refine q_ialdN dX7_change_16 (q_blk_get (j := 3) rfl) (k := i) rfl (by omega) (by decide) ?_
  refine q_iconst dX7_change_17 (v := 1) (by decide) ?_
  refine q_isub dX7_change_18 ?_
  refine q_i2l dX7_change_19 ?_
  refine q_cS (c_in_x 0 (tc i - 1) rfl rfl) dX7_change_20 kl_X7_97 rfl ⟨q_le rfl, q_le rfl⟩ (q_le rfl) (q_le rfl) (q_le rfl) ?_
  refine q_ifeq_b (tgt := 33) dX7_change_23 (by decide) (fun h_n => absurd (h_n.symm.trans (hx)) (by decide)) (fun c_23 => ?_)
  refine q_iload_n dX7_change_26 rfl ?_
  refine q_cS (c_X7_isTap) dX7_change_27 kl_X7_122 rfl ⟨q_le rfl, q_le rfl⟩ (q_le rfl) (q_le rfl) (q_le rfl) ?_
  refine q_ifne_b (tgt := 36) dX7_change_30 (by decide) (fun c_30 => ?_) (fun h_n => absurd (h_n.symm.trans (hr)) (by decide))
  refine q_aload_n dX7_change_36 rfl ?_
  refine q_getf dX7_change_37 fl_X7_19 (q_blk_get (j := 0) rfl) rfl ?_
  refine q_bipush dX7_change_40 (v := 32) (by decide) ?_
  refine q_iload_n dX7_change_42 rfl ?_
  refine q_imul dX7_change_43 ?_
  refine q_iload_n dX7_change_44 rfl ?_
  refine q_iadd dX7_change_45 ?_
  refine q_ialdN dX7_change_46 (q_blk_get (j := 4) rfl) (k := 32 * i + kk) (m_ix i kk) (by omega) (by decide) ?_
  refine q_istore dX7_change_47 (q_le rfl) ?_
  refine q_aload_n dX7_change_49 rfl ?_
  refine q_getf dX7_change_50 fl_X7_19 (q_blk_get (j := 0) rfl) rfl ?_
  refine q_bipush dX7_change_53 (v := 32) (by decide) ?_
  refine q_iload_n dX7_change_55 rfl ?_
  refine q_imul dX7_change_56 ?_
  refine q_iload_n dX7_change_57 rfl ?_
  refine q_iadd dX7_change_58 ?_
  refine q_iload_n dX7_change_59 rfl ?_
  refine q_iastN dX7_change_60 (q_blk_get (j := 4) rfl) (k := 32 * i + kk) (m_ix i kk) (by omega) (by decide) ?_
  refine q_heap (q_blk_up (j := 4) (q_le rfl)) ?_
  refine q_aload_n dX7_change_61 rfl ?_
  refine q_iload_n dX7_change_62 rfl ?_
  refine q_cW (m_unplan hcnt hi hcl) dX7_change_63 kl_X7_125 rfl (q_blk_get (j := 0) rfl) rfl ⟨q_le rfl, q_le rfl⟩ (q_le rfl) (q_le rfl) (q_le rfl) ?_
  refine q_iload dX7_change_66 rfl ?_
  exact q_iret dX7_change_68 rfl (rfl) (q_le rfl) (q_le rfl)

set_option maxHeartbeats 4000000 in
set_option maxRecDepth 100000 in
theorem m_way_bad {f : q_Hp} {n o cnt cl tn : Nat} {lost : Int32} {be by_ tc ta wa wr pl bi wo sh fa ca ph : Nat → Int32} {cm km gr : Nat → Int64} {kp : Nat → Int32} {su ro : Nat → Int64} {ou : Nat → Int32} {ex sz : Nat → Int64} {ww ch tp ir ow : Nat → Int32} {k v w : Int32} (hcnt : cnt ≤ 8) (hk : k < 0 ∨ nI cnt ≤ k) : Sp yX7_way uX7_way [.ref o, .int k, .int v, .int w] n (q_blk f o (mE o cnt cl tn lost be by_ tc ta wa wr pl bi wo sh fa ca ph cm km gr kp su ro ou ex sz ww ch tp ir ow)) (some (.int (-2)), n, (q_blk f o (mE o cnt cl tn lost be by_ tc ta wa wr pl bi wo sh fa ca ph cm km gr kp su ro ou ex sz ww ch tp ir ow))) := by
  refine Sp.ofF (by decide +kernel) rfl rfl (q_le rfl) ?_
  intro G d
  refine q_aload_n dX7_way_0 rfl ?_
  refine q_iload_n dX7_way_1 rfl ?_
  refine q_cW (c_isS_no hcnt hk) dX7_way_2 kl_X7_118 rfl (q_blk_get (j := 0) rfl) rfl ⟨q_le rfl, q_le rfl⟩ (q_le rfl) (q_le rfl) (q_le rfl) ?_
  refine q_ifeq_b (tgt := 20) dX7_way_5 (by decide) (fun c_5 => ?_) (fun h_n => absurd (h_n.symm.trans (rfl)) (by decide))
  refine q_bipush dX7_way_20 (v := (-2)) (by decide) ?_
  exact q_iret dX7_way_22 rfl (rfl) (q_le rfl) (q_le rfl)

set_option maxHeartbeats 4000000 in
set_option maxRecDepth 100000 in
theorem m_way_rng {f : q_Hp} {n o cnt cl tn : Nat} {lost : Int32} {be by_ tc ta wa wr pl bi wo sh fa ca ph : Nat → Int32} {cm km gr : Nat → Int64} {kp : Nat → Int32} {su ro : Nat → Int64} {ou : Nat → Int32} {ex sz : Nat → Int64} {ww ch tp ir ow : Nat → Int32} {i : Nat} {v w : Int32} (hcnt : cnt ≤ 8) (hi : i < cnt) (hx : x_in v 0 3 = false) : Sp yX7_way uX7_way [.ref o, .int (nI i), .int v, .int w] n (q_blk f o (mE o cnt cl tn lost be by_ tc ta wa wr pl bi wo sh fa ca ph cm km gr kp su ro ou ex sz ww ch tp ir ow)) (some (.int (-2)), n, (q_blk f o (mE o cnt cl tn lost be by_ tc ta wa wr pl bi wo sh fa ca ph cm km gr kp su ro ou ex sz ww ch tp ir ow))) := by
  refine Sp.ofF (by decide +kernel) rfl rfl (q_le rfl) ?_
  intro G d
  refine q_aload_n dX7_way_0 rfl ?_
  refine q_iload_n dX7_way_1 rfl ?_
  refine q_cW (c_isS_ok hcnt hi) dX7_way_2 kl_X7_118 rfl (q_blk_get (j := 0) rfl) rfl ⟨q_le rfl, q_le rfl⟩ (q_le rfl) (q_le rfl) (q_le rfl) ?_
  refine q_ifeq_b (tgt := 20) dX7_way_5 (by decide) (fun h_n => absurd (h_n.symm.trans (rfl)) (by decide)) (fun c_5 => ?_)
  refine q_iload_n dX7_way_8 rfl ?_
  refine q_i2l dX7_way_9 ?_
  refine q_lconst dX7_way_10 (v := 0) (by decide) ?_
  refine q_ldc2 dX7_way_11 cn_X7_130 ?_
  refine q_cS (c_in_x 0 3 rfl rfl) dX7_way_14 kl_X7_97 rfl ⟨q_le rfl, q_le rfl⟩ (q_le rfl) (q_le rfl) (q_le rfl) ?_
  refine q_ifne_b (tgt := 23) dX7_way_17 (by decide) (fun h_n => absurd (h_n.symm.trans (hx)) (by decide)) (fun c_17 => ?_)
  refine q_bipush dX7_way_20 (v := (-2)) (by decide) ?_
  exact q_iret dX7_way_22 rfl (rfl) (q_le rfl) (q_le rfl)

set_option maxHeartbeats 4000000 in
set_option maxRecDepth 100000 in
theorem m_way_ok {f : q_Hp} {n o cnt cl tn : Nat} {lost : Int32} {be by_ tc ta wa wr pl bi wo sh fa ca ph : Nat → Int32} {cm km gr : Nat → Int64} {kp : Nat → Int32} {su ro : Nat → Int64} {ou : Nat → Int32} {ex sz : Nat → Int64} {ww ch tp ir ow : Nat → Int32} {i : Nat} {v w : Int32} (hcnt : cnt ≤ 8) (hi : i < cnt) (hx : x_in v 0 3 = true) (hw : w = 0 ∨ w = 1) : Sp yX7_way uX7_way [.ref o, .int (nI i), .int v, .int w] n (q_blk f o (mE o cnt cl tn lost be by_ tc ta wa wr pl bi wo sh fa ca ph cm km gr kp su ro ou ex sz ww ch tp ir ow)) (some (.int (wa i)), n, (q_blk f o (mE o cnt cl tn lost be by_ tc ta (upd wa i v) (upd wr i w) pl bi wo sh fa ca ph cm km gr kp su ro ou ex sz ww ch tp ir ow))) := by
  refine Sp.ofF (by decide +kernel) rfl rfl (q_le rfl) ?_
  intro G d
  refine q_aload_n dX7_way_0 rfl ?_
  refine q_iload_n dX7_way_1 rfl ?_
  refine q_cW (c_isS_ok hcnt hi) dX7_way_2 kl_X7_118 rfl (q_blk_get (j := 0) rfl) rfl ⟨q_le rfl, q_le rfl⟩ (q_le rfl) (q_le rfl) (q_le rfl) ?_
  refine q_ifeq_b (tgt := 20) dX7_way_5 (by decide) (fun h_n => absurd (h_n.symm.trans (rfl)) (by decide)) (fun c_5 => ?_)
  refine q_iload_n dX7_way_8 rfl ?_
  refine q_i2l dX7_way_9 ?_
  refine q_lconst dX7_way_10 (v := 0) (by decide) ?_
  refine q_ldc2 dX7_way_11 cn_X7_130 ?_
  refine q_cS (c_in_x 0 3 rfl rfl) dX7_way_14 kl_X7_97 rfl ⟨q_le rfl, q_le rfl⟩ (q_le rfl) (q_le rfl) (q_le rfl) ?_
  refine q_ifne_b (tgt := 23) dX7_way_17 (by decide) (fun c_17 => ?_) (fun h_n => absurd (h_n.symm.trans (hx)) (by decide))
  refine q_aload_n dX7_way_23 rfl ?_
  refine q_getf dX7_way_24 fl_X7_22 (q_blk_get (j := 0) rfl) rfl ?_
  refine q_iload_n dX7_way_27 rfl ?_
  refine q_ialdN dX7_way_28 (q_blk_get (j := 5) rfl) (k := i) rfl (by omega) (by decide) ?_
  refine q_istore dX7_way_29 (q_le rfl) ?_
  refine q_aload_n dX7_way_31 rfl ?_
  refine q_getf dX7_way_32 fl_X7_22 (q_blk_get (j := 0) rfl) rfl ?_
  refine q_iload_n dX7_way_35 rfl ?_
  refine q_iload_n dX7_way_36 rfl ?_
  refine q_iastN dX7_way_37 (q_blk_get (j := 5) rfl) (k := i) rfl (by omega) (by decide) ?_
  refine q_heap (q_blk_up (j := 5) (q_le rfl)) ?_
  refine q_aload_n dX7_way_38 rfl ?_
  refine q_getf dX7_way_39 fl_X7_25 (q_blk_get (j := 0) rfl) rfl ?_
  refine q_iload_n dX7_way_42 rfl ?_
  refine q_iload_n dX7_way_43 rfl ?_
  refine q_zastN dX7_way_44 (q_blk_get (j := 6) rfl) (k := i) rfl (by omega) (by decide) (by rcases hw with rfl | rfl <;> decide) ?_
  refine q_heap (q_blk_up (j := 6) (q_le rfl)) ?_
  refine q_iload dX7_way_45 rfl ?_
  exact q_iret dX7_way_47 rfl (rfl) (q_le rfl) (q_le rfl)

def m_fac (ta be : Nat → Int32) (i t : Nat) (mv : Int32) : Int64 := m_near ((ta (32 * i + t)).toInt64 <<< (mv.toInt64 &&& 63)) (be i).toInt64
set_option maxHeartbeats 4000000 in
set_option maxRecDepth 100000 in
theorem m_factorAt {f : q_Hp} {n o cnt cl tn : Nat} {lost : Int32} {be by_ tc ta wa wr pl bi wo sh fa ca ph : Nat → Int32} {cm km gr : Nat → Int64} {kp : Nat → Int32} {su ro : Nat → Int64} {ou : Nat → Int32} {ex sz : Nat → Int64} {ww ch tp ir ow : Nat → Int32} {i t : Nat} {mv : Int32} (hcnt : cnt ≤ 8) (hi : i < cnt) (ht : t < 32) (hb : 1 ≤ be i) : Sp yX7_factorAt uX7_factorAt [.ref o, .int (nI i), .int (nI t), .int mv] n (q_blk f o (mE o cnt cl tn lost be by_ tc ta wa wr pl bi wo sh fa ca ph cm km gr kp su ro ou ex sz ww ch tp ir ow)) (some (.long (m_fac ta be i t mv)), n, (q_blk f o (mE o cnt cl tn lost be by_ tc ta wa wr pl bi wo sh fa ca ph cm km gr kp su ro ou ex sz ww ch tp ir ow))) := by
  refine Sp.ofF (by decide +kernel) rfl rfl (q_le rfl) ?_
  intro G d
  refine q_aload_n dX7_factorAt_0 rfl ?_
  refine q_getf dX7_factorAt_1 fl_X7_19 (q_blk_get (j := 0) rfl) rfl ?_
  refine q_bipush dX7_factorAt_4 (v := 32) (by decide) ?_
  refine q_iload_n dX7_factorAt_6 rfl ?_
  refine q_imul dX7_factorAt_7 ?_
  refine q_iload_n dX7_factorAt_8 rfl ?_
  refine q_iadd dX7_factorAt_9 ?_
  refine q_ialdN dX7_factorAt_10 (q_blk_get (j := 4) rfl) (k := 32 * i + t) (m_ix i t) (by omega) (by decide) ?_
  refine q_i2l dX7_factorAt_11 ?_
  refine q_iload_n dX7_factorAt_12 rfl ?_
  refine q_lshl dX7_factorAt_13 ?_
  refine q_aload_n dX7_factorAt_14 rfl ?_
  refine q_getf dX7_factorAt_15 fl_X7_7 (q_blk_get (j := 0) rfl) rfl ?_
  refine q_iload_n dX7_factorAt_18 rfl ?_
  refine q_ialdN dX7_factorAt_19 (q_blk_get (j := 1) rfl) (k := i) rfl (by omega) (by decide) ?_
  refine q_i2l dX7_factorAt_20 ?_
  refine q_cS (c_X7_nearest (i64_ne0 hb)) dX7_factorAt_21 kl_X7_138 rfl ⟨q_le rfl, q_le rfl⟩ (q_le rfl) (q_le rfl) (q_le rfl) ?_
  exact q_lret dX7_factorAt_24 rfl (rfl) (q_le rfl) (q_le rfl)

def m_safe (mc ms : Int64) (ta be : Nat → Int32) (j : Nat) (mv : Int32) : Nat → Nat → Int64 → Bool
  | 0, _, acc => !decide (ms < acc * 32768)
  | k + 1, t, acc => if m_abs (m_fac ta be j t mv) ≤ mc then m_safe mc ms ta be j mv k (t + 1) (acc + m_abs (m_fac ta be j t mv)) else false
set_option maxHeartbeats 4000000 in
set_option maxRecDepth 100000 in
theorem lp_m_isSafe {G : q_G} {d : q_D} {f : q_Hp} {n o cnt cl tn : Nat} {lost : Int32} {be by_ tc ta wa wr pl bi wo sh fa ca ph : Nat → Int32} {cm km gr : Nat → Int64} {kp : Nat → Int32} {su ro : Nat → Int64} {ou : Nat → Int32} {ex sz : Nat → Int64} {ww ch tp ir ow : Nat → Int32} {j c : Nat} {mc : Int64} {ww0 mv : Int32} (hcnt : cnt ≤ 8) (hj : j < cnt) (hc : c ≤ 32) (htc : tc j = nI c) (hb : 1 ≤ be j) : ∀ (k i : Nat) (acc : Int64), i + k = c → J G d uX7_isSafe (some (.int (q_b (m_safe mc (s_lim ww0) ta be j mv k i acc))), n, q_blk f o (mE o cnt cl tn lost be by_ tc ta wa wr pl bi wo sh fa ca ph cm km gr kp su ro ou ex sz ww ch tp ir ow)) 0 0 n 15 (q_l [(0, .ref o), (1, .int (nI j)), (3, .int ww0), (4, .int mv), (5, .long mc), (7, .long acc), (9, .int (nI i))]) [] (q_blk f o (mE o cnt cl tn lost be by_ tc ta wa wr pl bi wo sh fa ca ph cm km gr kp su ro ou ex sz ww ch tp ir ow)) := by
  intro k
  induction k with
  | zero =>
    intro i acc hi
    rw [show i = c by omega]
    refine q_iload dX7_isSafe_15 rfl ?_
    refine q_aload_n dX7_isSafe_17 rfl ?_
    refine q_getf dX7_isSafe_18 fl_X7_16 (q_blk_get (j := 0) rfl) rfl ?_
    refine q_iload_n dX7_isSafe_21 rfl ?_
    refine q_ialdN dX7_isSafe_22 (q_blk_get (j := 3) rfl) (k := j) rfl (by omega) (by decide) ?_
    refine q_icmp_ge (tgt := 63) dX7_isSafe_23 (by decide) (fun c_23 => ?_) (fun h_n => absurd ((by rw [htc]; exact Int32.le_refl _)) h_n)
    refine q_lload dX7_isSafe_63 rfl ?_
    refine q_ldc2 dX7_isSafe_65 cn_X7_149 ?_
    refine q_lmul dX7_isSafe_68 ?_
    refine q_lconst dX7_isSafe_69 (v := 1) (by decide) ?_
    refine q_iload_n dX7_isSafe_70 rfl ?_
    refine q_iconst dX7_isSafe_71 (v := 1) (by decide) ?_
    refine q_isub dX7_isSafe_72 ?_
    refine q_lshl dX7_isSafe_73 ?_
    refine q_lconst dX7_isSafe_74 (v := 1) (by decide) ?_
    refine q_lsub dX7_isSafe_75 ?_
    refine q_lcmp_gt (tgt := 84) dX7_isSafe_76 dX7_isSafe_77 (by decide) (fun c_76 => ?_) (fun c_76 => ?_)
    · refine q_iconst dX7_isSafe_84 (v := 0) (by decide) ?_
      exact q_zret dX7_isSafe_85 rfl rfl (by simp [m_safe, s_lim, q_b, c_76]) (q_le rfl) (q_le rfl)
    · refine q_iconst dX7_isSafe_80 (v := 1) (by decide) ?_
      refine q_goto (tgt := 85) dX7_isSafe_81 (by decide) ?_
      exact q_zret dX7_isSafe_85 rfl rfl (by simp [m_safe, s_lim, q_b, c_76]) (q_le rfl) (q_le rfl)
  | succ k ih =>
    intro i acc hi
    refine q_iload dX7_isSafe_15 rfl ?_
    refine q_aload_n dX7_isSafe_17 rfl ?_
    refine q_getf dX7_isSafe_18 fl_X7_16 (q_blk_get (j := 0) rfl) rfl ?_
    refine q_iload_n dX7_isSafe_21 rfl ?_
    refine q_ialdN dX7_isSafe_22 (q_blk_get (j := 3) rfl) (k := j) rfl (by omega) (by decide) ?_
    refine q_icmp_ge (tgt := 63) dX7_isSafe_23 (by decide) (fun h_n => absurd h_n ((by rw [htc]; exact nI_ge (by omega) (by omega)))) (fun c_23 => ?_)
    refine q_aload_n dX7_isSafe_26 rfl ?_
    refine q_iload_n dX7_isSafe_27 rfl ?_
    refine q_iload dX7_isSafe_28 rfl ?_
    refine q_iload dX7_isSafe_30 rfl ?_
    refine q_cW (m_factorAt hcnt hj (by omega) hb) dX7_isSafe_32 kl_X7_141 rfl (q_blk_get (j := 0) rfl) rfl ⟨q_le rfl, q_le rfl⟩ (q_le rfl) (q_le rfl) (q_le rfl) ?_
    refine q_cS (c_X7_size) dX7_isSafe_35 kl_X7_145 rfl ⟨q_le rfl, q_le rfl⟩ (q_le rfl) (q_le rfl) (q_le rfl) ?_
    refine q_lstore dX7_isSafe_38 (q_le rfl) ?_
    refine q_lload dX7_isSafe_40 rfl ?_
    refine q_lload dX7_isSafe_42 rfl ?_
    refine q_lcmp_le (tgt := 50) dX7_isSafe_44 dX7_isSafe_45 (by decide) (fun c_44 => ?_) (fun c_44 => ?_)
    · refine q_lload dX7_isSafe_50 rfl ?_
      refine q_lload dX7_isSafe_52 rfl ?_
      refine q_ladd dX7_isSafe_54 ?_
      refine q_lstore dX7_isSafe_55 (q_le rfl) ?_
      refine q_iinc dX7_isSafe_57 rfl (v := nI (i + 1)) (nI_1 i) ?_
      refine q_goto (tgt := 15) dX7_isSafe_60 (by decide) ?_
      exact q_zz (z' := (some (.int (q_b (m_safe mc (s_lim ww0) ta be j mv k (i + 1) (acc + (m_abs (m_fac ta be j i mv)))))), n, q_blk f o (mE o cnt cl tn lost be by_ tc ta wa wr pl bi wo sh fa ca ph cm km gr kp su ro ou ex sz ww ch tp ir ow))) (by simp [m_safe, c_44]) (q_lo [(0, .ref o), (1, .int (nI j)), (3, .int ww0), (4, .int mv), (5, .long mc), (7, .long (acc + (m_abs (m_fac ta be j i mv)))), (9, .int (nI (i + 1)))] ⟨rfl, rfl, rfl, rfl, rfl, rfl, rfl, trivial⟩ (ih (i + 1) _ (by omega)))
    · refine q_iconst dX7_isSafe_48 (v := 0) (by decide) ?_
      exact q_zret dX7_isSafe_49 rfl rfl (by simp [m_safe, s_lim, q_b, c_44]) (q_le rfl) (q_le rfl)

def m_isSafe (ta be : Nat → Int32) (j c : Nat) (bb ww0 mv : Int32) : Bool := m_safe (s_lim bb) (s_lim ww0) ta be j mv c 0 0
set_option maxHeartbeats 4000000 in
set_option maxRecDepth 100000 in
theorem m_isSafe_c {f : q_Hp} {n o cnt cl tn : Nat} {lost : Int32} {be by_ tc ta wa wr pl bi wo sh fa ca ph : Nat → Int32} {cm km gr : Nat → Int64} {kp : Nat → Int32} {su ro : Nat → Int64} {ou : Nat → Int32} {ex sz : Nat → Int64} {ww ch tp ir ow : Nat → Int32} {j c : Nat} {bb ww0 mv : Int32} (hcnt : cnt ≤ 8) (hj : j < cnt) (hc : c ≤ 32) (htc : tc j = nI c) (hb : 1 ≤ be j) : Sp yX7_isSafe uX7_isSafe [.ref o, .int (nI j), .int bb, .int ww0, .int mv] n (q_blk f o (mE o cnt cl tn lost be by_ tc ta wa wr pl bi wo sh fa ca ph cm km gr kp su ro ou ex sz ww ch tp ir ow)) (some (.int (q_b (m_isSafe ta be j c bb ww0 mv))), n, (q_blk f o (mE o cnt cl tn lost be by_ tc ta wa wr pl bi wo sh fa ca ph cm km gr kp su ro ou ex sz ww ch tp ir ow))) := by
  refine Sp.ofF (by decide +kernel) rfl rfl (q_le rfl) ?_
  intro G d
  refine q_lconst dX7_isSafe_0 (v := 1) (by decide) ?_
  refine q_iload_n dX7_isSafe_1 rfl ?_
  refine q_iconst dX7_isSafe_2 (v := 1) (by decide) ?_
  refine q_isub dX7_isSafe_3 ?_
  refine q_lshl dX7_isSafe_4 ?_
  refine q_lconst dX7_isSafe_5 (v := 1) (by decide) ?_
  refine q_lsub dX7_isSafe_6 ?_
  refine q_lstore dX7_isSafe_7 (q_le rfl) ?_
  refine q_lconst dX7_isSafe_9 (v := 0) (by decide) ?_
  refine q_lstore dX7_isSafe_10 (q_le rfl) ?_
  refine q_iconst dX7_isSafe_12 (v := 0) (by decide) ?_
  refine q_istore dX7_isSafe_13 (q_le rfl) ?_
  exact q_lo [(0, .ref o), (1, .int (nI j)), (3, .int ww0), (4, .int mv), (5, .long (s_lim bb)), (7, .long 0), (9, .int (nI 0))] ⟨rfl, rfl, rfl, rfl, rfl, rfl, rfl, trivial⟩ (lp_m_isSafe hcnt hj hc htc hb c 0 0 (by omega))

def m_clr (ca : Nat → Int32) (j : Nat) : Nat → Nat → Int32
  | 0 => ca
  | t + 1 => upd (m_clr ca j t) (32 * j + t) 0
set_option maxHeartbeats 4000000 in
set_option maxRecDepth 100000 in
theorem lp_m_forgets {G : q_G} {d : q_D} {z : q_Z} {f : q_Hp} {n o cnt cl tn : Nat} {lost : Int32} {be by_ tc ta wa wr pl bi wo sh fa ca ph : Nat → Int32} {cm km gr : Nat → Int64} {kp : Nat → Int32} {su ro : Nat → Int64} {ou : Nat → Int32} {ex sz : Nat → Int64} {ww ch tp ir ow : Nat → Int32} {j : Nat} (hcnt : cnt ≤ 8) (hj : j < cnt) (hx : J G d uX7_forgets z 0 0 n 26 (q_l [(0, .ref o), (1, .int (nI j))]) [] (q_blk f o (mE o cnt cl tn lost be by_ tc ta wa wr pl bi wo sh fa (m_clr ca j 32) ph cm km gr kp su ro ou ex sz ww ch tp ir ow))) : ∀ (k i : Nat), i + k = 32 → J G d uX7_forgets z 0 0 n 2 (q_l [(0, .ref o), (1, .int (nI j)), (2, .int (nI i))]) [] (q_blk f o (mE o cnt cl tn lost be by_ tc ta wa wr pl bi wo sh fa (m_clr ca j i) ph cm km gr kp su ro ou ex sz ww ch tp ir ow)) := by
  intro k
  induction k with
  | zero =>
    intro i hi
    rw [show i = 32 by omega]
    refine q_iload_n dX7_forgets_2 rfl ?_
    refine q_bipush dX7_forgets_3 (v := 32) (by decide) ?_
    refine q_icmp_ge (tgt := 26) dX7_forgets_5 (by decide) (fun c_5 => ?_) (fun h_n => absurd ((by decide)) h_n)
    exact q_lo [(0, .ref o), (1, .int (nI j))] ⟨rfl, rfl, trivial⟩ hx
  | succ k ih =>
    intro i hi
    refine q_iload_n dX7_forgets_2 rfl ?_
    refine q_bipush dX7_forgets_3 (v := 32) (by decide) ?_
    refine q_icmp_ge (tgt := 26) dX7_forgets_5 (by decide) (fun h_n => absurd h_n ((q_ge32 (by omega)))) (fun c_5 => ?_)
    refine q_aload_n dX7_forgets_8 rfl ?_
    refine q_getf dX7_forgets_9 fl_X7_44 (q_blk_get (j := 0) rfl) rfl ?_
    refine q_bipush dX7_forgets_12 (v := 32) (by decide) ?_
    refine q_iload_n dX7_forgets_14 rfl ?_
    refine q_imul dX7_forgets_15 ?_
    refine q_iload_n dX7_forgets_16 rfl ?_
    refine q_iadd dX7_forgets_17 ?_
    refine q_iconst dX7_forgets_18 (v := 0) (by decide) ?_
    refine q_iastN dX7_forgets_19 (q_blk_get (j := 12) rfl) (k := 32 * j + i) (m_ix j i) (by omega) (by decide) ?_
    refine q_heap (q_blk_up (j := 12) (q_le rfl)) ?_
    refine q_iinc dX7_forgets_20 rfl (v := nI (i + 1)) (nI_1 i) ?_
    refine q_goto (tgt := 2) dX7_forgets_23 (by decide) ?_
    exact q_lo [(0, .ref o), (1, .int (nI j)), (2, .int (nI (i + 1)))] ⟨rfl, rfl, rfl, trivial⟩ (ih (i + 1) (by omega))

set_option maxHeartbeats 4000000 in
set_option maxRecDepth 100000 in
theorem m_forgets {f : q_Hp} {n o cnt cl tn : Nat} {lost : Int32} {be by_ tc ta wa wr pl bi wo sh fa ca ph : Nat → Int32} {cm km gr : Nat → Int64} {kp : Nat → Int32} {su ro : Nat → Int64} {ou : Nat → Int32} {ex sz : Nat → Int64} {ww ch tp ir ow : Nat → Int32} {j : Nat} (hcnt : cnt ≤ 8) (hj : j < cnt) : Sp yX7_forgets uX7_forgets [.ref o, .int (nI j)] n (q_blk f o (mE o cnt cl tn lost be by_ tc ta wa wr pl bi wo sh fa ca ph cm km gr kp su ro ou ex sz ww ch tp ir ow)) (none, n, (q_blk f o (mE o cnt cl tn lost be by_ tc ta wa wr pl bi wo sh fa (m_clr ca j 32) (upd ph j 0) (vp_updL cm j 0) (vp_updL km j 0) (vp_updL gr j 0) kp su ro ou ex sz ww ch tp ir ow))) := by
  refine Sp.ofF (by decide +kernel) rfl rfl (q_le rfl) ?_
  intro G d
  refine q_iconst dX7_forgets_0 (v := 0) (by decide) ?_
  refine q_istore_n dX7_forgets_1 (q_le rfl) ?_
  refine q_lo [(0, .ref o), (1, .int (nI j)), (2, .int (nI 0))] ⟨rfl, rfl, rfl, trivial⟩ (lp_m_forgets hcnt hj ?_ 32 0 (by omega))
  refine q_aload_n dX7_forgets_26 rfl ?_
  refine q_getf dX7_forgets_27 fl_X7_47 (q_blk_get (j := 0) rfl) rfl ?_
  refine q_iload_n dX7_forgets_30 rfl ?_
  refine q_iconst dX7_forgets_31 (v := 0) (by decide) ?_
  refine q_iastN dX7_forgets_32 (q_blk_get (j := 13) rfl) (k := j) rfl (by omega) (by decide) ?_
  refine q_heap (q_blk_up (j := 13) (q_le rfl)) ?_
  refine q_aload_n dX7_forgets_33 rfl ?_
  refine q_getf dX7_forgets_34 fl_X7_50 (q_blk_get (j := 0) rfl) rfl ?_
  refine q_iload_n dX7_forgets_37 rfl ?_
  refine q_lconst dX7_forgets_38 (v := 0) (by decide) ?_
  refine q_lastN dX7_forgets_39 (q_blk_get (j := 14) rfl) (k := j) rfl (by omega) (by decide) ?_
  refine q_heap (q_blk_up (j := 14) (q_le rfl)) ?_
  refine q_aload_n dX7_forgets_40 rfl ?_
  refine q_getf dX7_forgets_41 fl_X7_54 (q_blk_get (j := 0) rfl) rfl ?_
  refine q_iload_n dX7_forgets_44 rfl ?_
  refine q_lconst dX7_forgets_45 (v := 0) (by decide) ?_
  refine q_lastN dX7_forgets_46 (q_blk_get (j := 15) rfl) (k := j) rfl (by omega) (by decide) ?_
  refine q_heap (q_blk_up (j := 15) (q_le rfl)) ?_
  refine q_aload_n dX7_forgets_47 rfl ?_
  refine q_getf dX7_forgets_48 fl_X7_57 (q_blk_get (j := 0) rfl) rfl ?_
  refine q_iload_n dX7_forgets_51 rfl ?_
  refine q_lconst dX7_forgets_52 (v := 0) (by decide) ?_
  refine q_lastN dX7_forgets_53 (q_blk_get (j := 16) rfl) (k := j) rfl (by omega) (by decide) ?_
  refine q_heap (q_blk_up (j := 16) (q_le rfl)) ?_
  exact q_vret dX7_forgets_54 rfl (rfl) (q_le rfl) (q_le rfl)

def m_pf (ta be : Nat → Int32) (j : Nat) (mv : Int32) (fa : Nat → Int32) : Nat → Nat → Int32
  | 0 => fa
  | t + 1 => upd (m_pf ta be j mv fa t) (32 * j + t) (m_fac ta be j t mv).toInt32
set_option maxHeartbeats 4000000 in
set_option maxRecDepth 100000 in
theorem lp_m_plans {G : q_G} {d : q_D} {z : q_Z} {f : q_Hp} {n o cnt cl tn : Nat} {lost : Int32} {be by_ tc ta wa wr pl bi wo sh fa ca ph : Nat → Int32} {cm km gr : Nat → Int64} {kp : Nat → Int32} {su ro : Nat → Int64} {ou : Nat → Int32} {ex sz : Nat → Int64} {ww ch tp ir ow : Nat → Int32} {j c : Nat} {mv : Int32} (hcnt : cnt ≤ 8) (hj : j < cnt) (hc : c ≤ 32) (htc : tc j = nI c) (hb : 1 ≤ be j) (hx : J G d uX7_plans z 0 0 n 71 (q_l [(0, .ref o), (1, .int (nI j)), (4, .int mv)]) [] (q_blk f o (mE o cnt cl tn lost be by_ tc ta wa wr pl bi wo sh (m_pf ta be j mv fa c) ca ph cm km gr kp su ro ou ex sz ww ch tp ir ow))) : ∀ (k i : Nat), i + k = c → J G d uX7_plans z 0 0 n 32 (q_l [(0, .ref o), (1, .int (nI j)), (4, .int mv), (5, .int (nI i))]) [] (q_blk f o (mE o cnt cl tn lost be by_ tc ta wa wr pl bi wo sh (m_pf ta be j mv fa i) ca ph cm km gr kp su ro ou ex sz ww ch tp ir ow)) := by
  intro k
  induction k with
  | zero =>
    intro i hi
    rw [show i = c by omega]
    refine q_iload dX7_plans_32 rfl ?_
    refine q_aload_n dX7_plans_34 rfl ?_
    refine q_getf dX7_plans_35 fl_X7_16 (q_blk_get (j := 0) rfl) rfl ?_
    refine q_iload_n dX7_plans_38 rfl ?_
    refine q_ialdN dX7_plans_39 (q_blk_get (j := 3) rfl) (k := j) rfl (by omega) (by decide) ?_
    refine q_icmp_ge (tgt := 71) dX7_plans_40 (by decide) (fun c_40 => ?_) (fun h_n => absurd ((by rw [htc]; exact Int32.le_refl _)) h_n)
    exact q_lo [(0, .ref o), (1, .int (nI j)), (4, .int mv)] ⟨rfl, rfl, rfl, trivial⟩ hx
  | succ k ih =>
    intro i hi
    refine q_iload dX7_plans_32 rfl ?_
    refine q_aload_n dX7_plans_34 rfl ?_
    refine q_getf dX7_plans_35 fl_X7_16 (q_blk_get (j := 0) rfl) rfl ?_
    refine q_iload_n dX7_plans_38 rfl ?_
    refine q_ialdN dX7_plans_39 (q_blk_get (j := 3) rfl) (k := j) rfl (by omega) (by decide) ?_
    refine q_icmp_ge (tgt := 71) dX7_plans_40 (by decide) (fun h_n => absurd h_n ((by rw [htc]; exact nI_ge (by omega) (by omega)))) (fun c_40 => ?_)
    refine q_aload_n dX7_plans_43 rfl ?_
    refine q_getf dX7_plans_44 fl_X7_41 (q_blk_get (j := 0) rfl) rfl ?_
    refine q_bipush dX7_plans_47 (v := 32) (by decide) ?_
    refine q_iload_n dX7_plans_49 rfl ?_
    refine q_imul dX7_plans_50 ?_
    refine q_iload dX7_plans_51 rfl ?_
    refine q_iadd dX7_plans_53 ?_
    refine q_aload_n dX7_plans_54 rfl ?_
    refine q_iload_n dX7_plans_55 rfl ?_
    refine q_iload dX7_plans_56 rfl ?_
    refine q_iload dX7_plans_58 rfl ?_
    refine q_cW (m_factorAt hcnt hj (by omega) hb) dX7_plans_60 kl_X7_141 rfl (q_blk_get (j := 0) rfl) rfl ⟨q_le rfl, q_le rfl⟩ (q_le rfl) (q_le rfl) (q_le rfl) ?_
    refine q_l2i dX7_plans_63 ?_
    refine q_iastN dX7_plans_64 (q_blk_get (j := 11) rfl) (k := 32 * j + i) (m_ix j i) (by omega) (by decide) ?_
    refine q_heap (q_blk_up (j := 11) (q_le rfl)) ?_
    refine q_iinc dX7_plans_65 rfl (v := nI (i + 1)) (nI_1 i) ?_
    refine q_goto (tgt := 32) dX7_plans_68 (by decide) ?_
    exact q_lo [(0, .ref o), (1, .int (nI j)), (4, .int mv), (5, .int (nI (i + 1)))] ⟨rfl, rfl, rfl, rfl, trivial⟩ (ih (i + 1) (by omega))

set_option maxHeartbeats 4000000 in
set_option maxRecDepth 100000 in
theorem m_plans {f : q_Hp} {n o cnt cl tn : Nat} {lost : Int32} {be by_ tc ta wa wr pl bi wo sh fa ca ph : Nat → Int32} {cm km gr : Nat → Int64} {kp : Nat → Int32} {su ro : Nat → Int64} {ou : Nat → Int32} {ex sz : Nat → Int64} {ww ch tp ir ow : Nat → Int32} {j c : Nat} {bb ww0 mv : Int32} (hcnt : cnt ≤ 8) (hj : j < cnt) (hc : c ≤ 32) (htc : tc j = nI c) (hb : 1 ≤ be j) : Sp yX7_plans uX7_plans [.ref o, .int (nI j), .int bb, .int ww0, .int mv] n (q_blk f o (mE o cnt cl tn lost be by_ tc ta wa wr pl bi wo sh fa ca ph cm km gr kp su ro ou ex sz ww ch tp ir ow)) (some (.int mv), n, (q_blk f o (mE o cnt cl tn lost be by_ tc ta wa wr (upd pl j 1) (upd bi j bb) (upd wo j ww0) (upd sh j mv) (m_pf ta be j mv fa c) (m_clr ca j 32) (upd ph j 0) (vp_updL cm j 0) (vp_updL km j 0) (vp_updL gr j 0) (upd kp j 0) su ro ou ex sz ww ch tp ir ow))) := by
  refine Sp.ofF (by decide +kernel) rfl rfl (q_le rfl) ?_
  intro G d
  refine q_aload_n dX7_plans_0 rfl ?_
  refine q_getf dX7_plans_1 fl_X7_29 (q_blk_get (j := 0) rfl) rfl ?_
  refine q_iload_n dX7_plans_4 rfl ?_
  refine q_iconst dX7_plans_5 (v := 1) (by decide) ?_
  refine q_zastN dX7_plans_6 (q_blk_get (j := 7) rfl) (k := j) rfl (by omega) (by decide) (by decide) ?_
  refine q_heap (q_blk_up (j := 7) (q_le rfl)) ?_
  refine q_aload_n dX7_plans_7 rfl ?_
  refine q_getf dX7_plans_8 fl_X7_32 (q_blk_get (j := 0) rfl) rfl ?_
  refine q_iload_n dX7_plans_11 rfl ?_
  refine q_iload_n dX7_plans_12 rfl ?_
  refine q_iastN dX7_plans_13 (q_blk_get (j := 8) rfl) (k := j) rfl (by omega) (by decide) ?_
  refine q_heap (q_blk_up (j := 8) (q_le rfl)) ?_
  refine q_aload_n dX7_plans_14 rfl ?_
  refine q_getf dX7_plans_15 fl_X7_35 (q_blk_get (j := 0) rfl) rfl ?_
  refine q_iload_n dX7_plans_18 rfl ?_
  refine q_iload_n dX7_plans_19 rfl ?_
  refine q_iastN dX7_plans_20 (q_blk_get (j := 9) rfl) (k := j) rfl (by omega) (by decide) ?_
  refine q_heap (q_blk_up (j := 9) (q_le rfl)) ?_
  refine q_aload_n dX7_plans_21 rfl ?_
  refine q_getf dX7_plans_22 fl_X7_38 (q_blk_get (j := 0) rfl) rfl ?_
  refine q_iload_n dX7_plans_25 rfl ?_
  refine q_iload dX7_plans_26 rfl ?_
  refine q_iastN dX7_plans_28 (q_blk_get (j := 10) rfl) (k := j) rfl (by omega) (by decide) ?_
  refine q_heap (q_blk_up (j := 10) (q_le rfl)) ?_
  refine q_iconst dX7_plans_29 (v := 0) (by decide) ?_
  refine q_istore dX7_plans_30 (q_le rfl) ?_
  refine q_lo [(0, .ref o), (1, .int (nI j)), (4, .int mv), (5, .int (nI 0))] ⟨rfl, rfl, rfl, rfl, trivial⟩ (lp_m_plans hcnt hj hc htc hb ?_ c 0 (by omega))
  refine q_aload_n dX7_plans_71 rfl ?_
  refine q_iload_n dX7_plans_72 rfl ?_
  refine q_cW (m_forgets hcnt hj) dX7_plans_73 kl_X7_151 rfl (q_blk_get (j := 0) rfl) rfl ⟨q_le rfl, q_le rfl⟩ (q_le rfl) (q_le rfl) (q_le rfl) ?_
  refine q_aload_n dX7_plans_76 rfl ?_
  refine q_getf dX7_plans_77 fl_X7_60 (q_blk_get (j := 0) rfl) rfl ?_
  refine q_iload_n dX7_plans_80 rfl ?_
  refine q_iconst dX7_plans_81 (v := 0) (by decide) ?_
  refine q_zastN dX7_plans_82 (q_blk_get (j := 17) rfl) (k := j) rfl (by omega) (by decide) (by decide) ?_
  refine q_heap (q_blk_up (j := 17) (q_le rfl)) ?_
  refine q_iload dX7_plans_83 rfl ?_
  exact q_iret dX7_plans_85 rfl (rfl) (q_le rfl) (q_le rfl)

set_option maxHeartbeats 4000000 in
set_option maxRecDepth 100000 in
theorem m_isPlan_bad {f : q_Hp} {n o cnt cl tn : Nat} {lost : Int32} {be by_ tc ta wa wr pl bi wo sh fa ca ph : Nat → Int32} {cm km gr : Nat → Int64} {kp : Nat → Int32} {su ro : Nat → Int64} {ou : Nat → Int32} {ex sz : Nat → Int64} {ww ch tp ir ow : Nat → Int32} {k bb ww0 : Int32} (hcnt : cnt ≤ 8) (hk : k < 0 ∨ nI cnt ≤ k) : Sp yX7_isPlan uX7_isPlan [.ref o, .int k, .int bb, .int ww0] n (q_blk f o (mE o cnt cl tn lost be by_ tc ta wa wr pl bi wo sh fa ca ph cm km gr kp su ro ou ex sz ww ch tp ir ow)) (some (.int (q_b false)), n, (q_blk f o (mE o cnt cl tn lost be by_ tc ta wa wr pl bi wo sh fa ca ph cm km gr kp su ro ou ex sz ww ch tp ir ow))) := by
  refine Sp.ofF (by decide +kernel) rfl rfl (q_le rfl) ?_
  intro G d
  refine q_aload_n dX7_isPlan_0 rfl ?_
  refine q_iload_n dX7_isPlan_1 rfl ?_
  refine q_cW (c_isS_no hcnt hk) dX7_isPlan_2 kl_X7_118 rfl (q_blk_get (j := 0) rfl) rfl ⟨q_le rfl, q_le rfl⟩ (q_le rfl) (q_le rfl) (q_le rfl) ?_
  refine q_ifeq_b (tgt := 40) dX7_isPlan_5 (by decide) (fun c_5 => ?_) (fun h_n => absurd (h_n.symm.trans (rfl)) (by decide))
  refine q_iconst dX7_isPlan_40 (v := 0) (by decide) ?_
  exact q_zret dX7_isPlan_41 rfl rfl (rfl) (q_le rfl) (q_le rfl)

set_option maxHeartbeats 4000000 in
set_option maxRecDepth 100000 in
theorem m_isPlan_ok {f : q_Hp} {n o cnt cl tn : Nat} {lost : Int32} {be by_ tc ta wa wr pl bi wo sh fa ca ph : Nat → Int32} {cm km gr : Nat → Int64} {kp : Nat → Int32} {su ro : Nat → Int64} {ou : Nat → Int32} {ex sz : Nat → Int64} {ww ch tp ir ow : Nat → Int32} {i : Nat} {bb ww0 : Int32} (hcnt : cnt ≤ 8) (hi : i < cnt) : Sp yX7_isPlan uX7_isPlan [.ref o, .int (nI i), .int bb, .int ww0] n (q_blk f o (mE o cnt cl tn lost be by_ tc ta wa wr pl bi wo sh fa ca ph cm km gr kp su ro ou ex sz ww ch tp ir ow)) (some (.int (q_b (x_isPlan bb ww0))), n, (q_blk f o (mE o cnt cl tn lost be by_ tc ta wa wr pl bi wo sh fa ca ph cm km gr kp su ro ou ex sz ww ch tp ir ow))) := by
  refine Sp.ofF (by decide +kernel) rfl rfl (q_le rfl) ?_
  intro G d
  refine q_aload_n dX7_isPlan_0 rfl ?_
  refine q_iload_n dX7_isPlan_1 rfl ?_
  refine q_cW (c_isS_ok hcnt hi) dX7_isPlan_2 kl_X7_118 rfl (q_blk_get (j := 0) rfl) rfl ⟨q_le rfl, q_le rfl⟩ (q_le rfl) (q_le rfl) (q_le rfl) ?_
  refine q_ifeq_b (tgt := 40) dX7_isPlan_5 (by decide) (fun h_n => absurd (h_n.symm.trans (rfl)) (by decide)) (fun c_5 => ?_)
  refine q_iload_n dX7_isPlan_8 rfl ?_
  refine q_i2l dX7_isPlan_9 ?_
  refine q_ldc2 dX7_isPlan_10 cn_X7_103 ?_
  refine q_ldc2 dX7_isPlan_13 cn_X7_154 ?_
  refine q_cS (c_in_x 4 16 rfl rfl) dX7_isPlan_16 kl_X7_97 rfl ⟨q_le rfl, q_le rfl⟩ (q_le rfl) (q_le rfl) (q_le rfl) ?_
  refine q_ifeq_b (tgt := 40) dX7_isPlan_19 (by decide) (fun c_19 => ?_) (fun c_19 => ?_)
  · refine q_iconst dX7_isPlan_40 (v := 0) (by decide) ?_
    exact q_zret dX7_isPlan_41 rfl rfl (by rw [show x_isPlan bb ww0 = false by unfold x_isPlan; rw [c_19]; rfl]; rfl) (q_le rfl) (q_le rfl)
  · refine q_iload_n dX7_isPlan_22 rfl ?_
    refine q_i2l dX7_isPlan_23 ?_
    refine q_ldc2 dX7_isPlan_24 cn_X7_156 ?_
    refine q_ldc2 dX7_isPlan_27 cn_X7_158 ?_
    refine q_cS (c_in_x 18 50 rfl rfl) dX7_isPlan_30 kl_X7_97 rfl ⟨q_le rfl, q_le rfl⟩ (q_le rfl) (q_le rfl) (q_le rfl) ?_
    refine q_ifeq_b (tgt := 40) dX7_isPlan_33 (by decide) (fun c_33 => ?_) (fun c_33 => ?_)
    · refine q_iconst dX7_isPlan_40 (v := 0) (by decide) ?_
      exact q_zret dX7_isPlan_41 rfl rfl (by rw [show x_isPlan bb ww0 = false by unfold x_isPlan; rw [c_19, c_33]; rfl]; rfl) (q_le rfl) (q_le rfl)
    · refine q_iconst dX7_isPlan_36 (v := 1) (by decide) ?_
      refine q_goto (tgt := 41) dX7_isPlan_37 (by decide) ?_
      exact q_zret dX7_isPlan_41 rfl rfl (by rw [show x_isPlan bb ww0 = true by unfold x_isPlan; rw [c_19, c_33]; rfl]; rfl) (q_le rfl) (q_le rfl)

set_option maxHeartbeats 4000000 in
set_option maxRecDepth 100000 in
theorem m_plan_bad {f : q_Hp} {n o cnt cl tn : Nat} {lost : Int32} {be by_ tc ta wa wr pl bi wo sh fa ca ph : Nat → Int32} {cm km gr : Nat → Int64} {kp : Nat → Int32} {su ro : Nat → Int64} {ou : Nat → Int32} {ex sz : Nat → Int64} {ww ch tp ir ow : Nat → Int32} {k bb ww0 : Int32} (hcnt : cnt ≤ 8) (hk : k < 0 ∨ nI cnt ≤ k) : Sp yX7_plan uX7_plan [.ref o, .int k, .int bb, .int ww0] n (q_blk f o (mE o cnt cl tn lost be by_ tc ta wa wr pl bi wo sh fa ca ph cm km gr kp su ro ou ex sz ww ch tp ir ow)) (some (.int (-2)), n, (q_blk f o (mE o cnt cl tn lost be by_ tc ta wa wr pl bi wo sh fa ca ph cm km gr kp su ro ou ex sz ww ch tp ir ow))) := by
  refine Sp.ofF (by decide +kernel) rfl rfl (q_le rfl) ?_
  intro G d
  refine q_aload_n dX7_plan_0 rfl ?_
  refine q_iload_n dX7_plan_1 rfl ?_
  refine q_iload_n dX7_plan_2 rfl ?_
  refine q_iload_n dX7_plan_3 rfl ?_
  refine q_cW (m_isPlan_bad hcnt hk) dX7_plan_4 kl_X7_160 rfl (q_blk_get (j := 0) rfl) rfl ⟨q_le rfl, q_le rfl⟩ (q_le rfl) (q_le rfl) (q_le rfl) ?_
  refine q_ifne_b (tgt := 13) dX7_plan_7 (by decide) (fun h_n => absurd (h_n.symm.trans (rfl)) (by decide)) (fun c_7 => ?_)
  refine q_bipush dX7_plan_10 (v := (-2)) (by decide) ?_
  exact q_iret dX7_plan_12 rfl (rfl) (q_le rfl) (q_le rfl)

set_option maxHeartbeats 4000000 in
set_option maxRecDepth 100000 in
theorem m_plan_rng {f : q_Hp} {n o cnt cl tn : Nat} {lost : Int32} {be by_ tc ta wa wr pl bi wo sh fa ca ph : Nat → Int32} {cm km gr : Nat → Int64} {kp : Nat → Int32} {su ro : Nat → Int64} {ou : Nat → Int32} {ex sz : Nat → Int64} {ww ch tp ir ow : Nat → Int32} {j : Nat} {bb ww0 : Int32} (hcnt : cnt ≤ 8) (hj : j < cnt) (hx : x_isPlan bb ww0 = false) : Sp yX7_plan uX7_plan [.ref o, .int (nI j), .int bb, .int ww0] n (q_blk f o (mE o cnt cl tn lost be by_ tc ta wa wr pl bi wo sh fa ca ph cm km gr kp su ro ou ex sz ww ch tp ir ow)) (some (.int (-2)), n, (q_blk f o (mE o cnt cl tn lost be by_ tc ta wa wr pl bi wo sh fa ca ph cm km gr kp su ro ou ex sz ww ch tp ir ow))) := by
  refine Sp.ofF (by decide +kernel) rfl rfl (q_le rfl) ?_
  intro G d
  refine q_aload_n dX7_plan_0 rfl ?_
  refine q_iload_n dX7_plan_1 rfl ?_
  refine q_iload_n dX7_plan_2 rfl ?_
  refine q_iload_n dX7_plan_3 rfl ?_
  refine q_cW (m_isPlan_ok hcnt hj) dX7_plan_4 kl_X7_160 rfl (q_blk_get (j := 0) rfl) rfl ⟨q_le rfl, q_le rfl⟩ (q_le rfl) (q_le rfl) (q_le rfl) ?_
  refine q_ifne_b (tgt := 13) dX7_plan_7 (by decide) (fun h_n => absurd (h_n.symm.trans (hx)) (by decide)) (fun c_7 => ?_)
  refine q_bipush dX7_plan_10 (v := (-2)) (by decide) ?_
  exact q_iret dX7_plan_12 rfl (rfl) (q_le rfl) (q_le rfl)

def m_sf (ta be : Nat → Int32) (j c : Nat) (bb ww0 : Int32) : Nat → Option Nat
  | 0 => none
  | t + 1 => if m_isSafe ta be j c bb ww0 (nI t) = true then some t else m_sf ta be j c bb ww0 t
set_option maxHeartbeats 4000000 in
set_option maxRecDepth 100000 in
theorem lp_m_plan {G : q_G} {d : q_D} {f : q_Hp} {n o cnt cl tn : Nat} {lost : Int32} {be by_ tc ta wa wr pl bi wo sh fa ca ph : Nat → Int32} {cm km gr : Nat → Int64} {kp : Nat → Int32} {su ro : Nat → Int64} {ou : Nat → Int32} {ex sz : Nat → Int64} {ww ch tp ir ow : Nat → Int32} {j c : Nat} {bb ww0 : Int32} (hcnt : cnt ≤ 8) (hj : j < cnt) (hc : c ≤ 32) (htc : tc j = nI c) (hb : 1 ≤ be j) : ∀ (k : Nat), k ≤ 25 → J G d uX7_plan (some (.int ((m_sf ta be j c bb ww0 k).elim (-3) nI)), n, (m_sf ta be j c bb ww0 k).elim (q_blk f o (mE o cnt cl tn lost be by_ tc ta wa wr pl bi wo sh fa ca ph cm km gr kp su ro ou ex sz ww ch tp ir ow)) (fun t => (q_blk f o (mE o cnt cl tn lost be by_ tc ta wa wr (upd pl j 1) (upd bi j bb) (upd wo j ww0) (upd sh j (nI t)) (m_pf ta be j (nI t) fa c) (m_clr ca j 32) (upd ph j 0) (vp_updL cm j 0) (vp_updL km j 0) (vp_updL gr j 0) (upd kp j 0) su ro ou ex sz ww ch tp ir ow)))) 0 0 n 30 (q_l [(0, .ref o), (1, .int (nI j)), (2, .int bb), (3, .int ww0), (4, .int (nI k - 1))]) [] (q_blk f o (mE o cnt cl tn lost be by_ tc ta wa wr pl bi wo sh fa ca ph cm km gr kp su ro ou ex sz ww ch tp ir ow)) := by
  intro k
  induction k with
  | zero =>
    intro hk
    refine q_iload dX7_plan_30 rfl ?_
    refine q_if_lt (tgt := 53) dX7_plan_32 (by decide) (fun c_32 => ?_) (fun h_n => absurd ((by decide)) h_n)
    refine q_iload dX7_plan_53 rfl ?_
    refine q_if_ge (tgt := 63) dX7_plan_55 (by decide) (fun h_n => absurd h_n ((by decide))) (fun c_55 => ?_)
    refine q_bipush dX7_plan_58 (v := (-3)) (by decide) ?_
    refine q_goto (tgt := 72) dX7_plan_60 (by decide) ?_
    exact q_iret dX7_plan_72 rfl (rfl) (q_le rfl) (q_le rfl)
  | succ k ih =>
    intro hk
    rw [show nI (k + 1) - 1 = nI k from nI_pred k]
    refine q_iload dX7_plan_30 rfl ?_
    refine q_if_lt (tgt := 53) dX7_plan_32 (by decide) (fun h_n => absurd h_n ((nI_pos (by omega)))) (fun c_32 => ?_)
    refine q_aload_n dX7_plan_35 rfl ?_
    refine q_iload_n dX7_plan_36 rfl ?_
    refine q_iload_n dX7_plan_37 rfl ?_
    refine q_iload_n dX7_plan_38 rfl ?_
    refine q_iload dX7_plan_39 rfl ?_
    refine q_cW (m_isSafe_c hcnt hj hc htc hb) dX7_plan_41 kl_X7_164 rfl (q_blk_get (j := 0) rfl) rfl ⟨q_le rfl, q_le rfl⟩ (q_le rfl) (q_le rfl) (q_le rfl) ?_
    refine q_ifne_b (tgt := 53) dX7_plan_44 (by decide) (fun c_44 => ?_) (fun c_44 => ?_)
    · refine q_iload dX7_plan_53 rfl ?_
      refine q_if_ge (tgt := 63) dX7_plan_55 (by decide) (fun c_55 => ?_) (fun h_n => absurd ((nI_pos' (by omega))) h_n)
      refine q_aload_n dX7_plan_63 rfl ?_
      refine q_iload_n dX7_plan_64 rfl ?_
      refine q_iload_n dX7_plan_65 rfl ?_
      refine q_iload_n dX7_plan_66 rfl ?_
      refine q_iload dX7_plan_67 rfl ?_
      refine q_cW (m_plans hcnt hj hc htc hb) dX7_plan_69 kl_X7_168 rfl (q_blk_get (j := 0) rfl) rfl ⟨q_le rfl, q_le rfl⟩ (q_le rfl) (q_le rfl) (q_le rfl) ?_
      exact q_iret dX7_plan_72 rfl (by simp only [m_sf, c_44, if_true]; rfl) (q_le rfl) (q_le rfl)
    · refine q_iinc dX7_plan_47 rfl (v := nI k - 1) (x_dec _) ?_
      refine q_goto (tgt := 30) dX7_plan_50 (by decide) ?_
      exact q_zz (z' := (some (.int ((m_sf ta be j c bb ww0 k).elim (-3) nI)), n, (m_sf ta be j c bb ww0 k).elim (q_blk f o (mE o cnt cl tn lost be by_ tc ta wa wr pl bi wo sh fa ca ph cm km gr kp su ro ou ex sz ww ch tp ir ow)) (fun t => (q_blk f o (mE o cnt cl tn lost be by_ tc ta wa wr (upd pl j 1) (upd bi j bb) (upd wo j ww0) (upd sh j (nI t)) (m_pf ta be j (nI t) fa c) (m_clr ca j 32) (upd ph j 0) (vp_updL cm j 0) (vp_updL km j 0) (vp_updL gr j 0) (upd kp j 0) su ro ou ex sz ww ch tp ir ow))))) (by simp [m_sf, c_44]) (q_lo [(0, .ref o), (1, .int (nI j)), (2, .int bb), (3, .int ww0), (4, .int (nI k - 1))] ⟨rfl, rfl, rfl, rfl, rfl, trivial⟩ (ih (by omega)))

set_option maxHeartbeats 4000000 in
set_option maxRecDepth 100000 in
theorem m_plan_none {f : q_Hp} {n o cnt cl tn : Nat} {lost : Int32} {be by_ tc ta wa wr pl bi wo sh fa ca ph : Nat → Int32} {cm km gr : Nat → Int64} {kp : Nat → Int32} {su ro : Nat → Int64} {ou : Nat → Int32} {ex sz : Nat → Int64} {ww ch tp ir ow : Nat → Int32} {j : Nat} {bb ww0 : Int32} (hcnt : cnt ≤ 8) (hj : j < cnt) (hx : x_isPlan bb ww0 = true) (h0 : tc j = 0) : Sp yX7_plan uX7_plan [.ref o, .int (nI j), .int bb, .int ww0] n (q_blk f o (mE o cnt cl tn lost be by_ tc ta wa wr pl bi wo sh fa ca ph cm km gr kp su ro ou ex sz ww ch tp ir ow)) (some (.int (-3)), n, (q_blk f o (mE o cnt cl tn lost be by_ tc ta wa wr pl bi wo sh fa ca ph cm km gr kp su ro ou ex sz ww ch tp ir ow))) := by
  refine Sp.ofF (by decide +kernel) rfl rfl (q_le rfl) ?_
  intro G d
  refine q_aload_n dX7_plan_0 rfl ?_
  refine q_iload_n dX7_plan_1 rfl ?_
  refine q_iload_n dX7_plan_2 rfl ?_
  refine q_iload_n dX7_plan_3 rfl ?_
  refine q_cW (m_isPlan_ok hcnt hj) dX7_plan_4 kl_X7_160 rfl (q_blk_get (j := 0) rfl) rfl ⟨q_le rfl, q_le rfl⟩ (q_le rfl) (q_le rfl) (q_le rfl) ?_
  refine q_ifne_b (tgt := 13) dX7_plan_7 (by decide) (fun c_7 => ?_) (fun h_n => absurd (h_n.symm.trans (hx)) (by decide))
  refine q_aload_n dX7_plan_13 rfl ?_
  refine q_getf dX7_plan_14 fl_X7_16 (q_blk_get (j := 0) rfl) rfl ?_
  refine q_iload_n dX7_plan_17 rfl ?_
  refine q_ialdN dX7_plan_18 (q_blk_get (j := 3) rfl) (k := j) rfl (by omega) (by decide) ?_
  refine q_if_ne (tgt := 26) dX7_plan_19 (by decide) (fun h_n => absurd (h0) h_n) (fun c_19 => ?_)
  refine q_iconst dX7_plan_22 (v := (-1)) (by decide) ?_
  refine q_goto (tgt := 28) dX7_plan_23 (by decide) ?_
  refine q_istore dX7_plan_28 (q_le rfl) ?_
  refine q_iload dX7_plan_30 rfl ?_
  refine q_if_lt (tgt := 53) dX7_plan_32 (by decide) (fun _ => ?_) (fun h_n => absurd (by decide) h_n)
  refine q_iload dX7_plan_53 rfl ?_
  refine q_if_ge (tgt := 63) dX7_plan_55 (by decide) (fun h_n => absurd h_n (by decide)) (fun _ => ?_)
  refine q_bipush dX7_plan_58 (v := (-3)) (by decide) ?_
  refine q_goto (tgt := 72) dX7_plan_60 (by decide) ?_
  exact q_iret dX7_plan_72 rfl (rfl) (q_le rfl) (q_le rfl)

set_option maxHeartbeats 4000000 in
set_option maxRecDepth 100000 in
theorem m_plan_ok {f : q_Hp} {n o cnt cl tn : Nat} {lost : Int32} {be by_ tc ta wa wr pl bi wo sh fa ca ph : Nat → Int32} {cm km gr : Nat → Int64} {kp : Nat → Int32} {su ro : Nat → Int64} {ou : Nat → Int32} {ex sz : Nat → Int64} {ww ch tp ir ow : Nat → Int32} {j c : Nat} {bb ww0 : Int32} (hcnt : cnt ≤ 8) (hj : j < cnt) (hc : c ≤ 32) (htc : tc j = nI c) (hb : 1 ≤ be j) (hx : x_isPlan bb ww0 = true) (h0 : ¬ tc j = 0) : Sp yX7_plan uX7_plan [.ref o, .int (nI j), .int bb, .int ww0] n (q_blk f o (mE o cnt cl tn lost be by_ tc ta wa wr pl bi wo sh fa ca ph cm km gr kp su ro ou ex sz ww ch tp ir ow)) (some (.int ((m_sf ta be j c bb ww0 25).elim (-3) nI)), n, (m_sf ta be j c bb ww0 25).elim (q_blk f o (mE o cnt cl tn lost be by_ tc ta wa wr pl bi wo sh fa ca ph cm km gr kp su ro ou ex sz ww ch tp ir ow)) (fun t => (q_blk f o (mE o cnt cl tn lost be by_ tc ta wa wr (upd pl j 1) (upd bi j bb) (upd wo j ww0) (upd sh j (nI t)) (m_pf ta be j (nI t) fa c) (m_clr ca j 32) (upd ph j 0) (vp_updL cm j 0) (vp_updL km j 0) (vp_updL gr j 0) (upd kp j 0) su ro ou ex sz ww ch tp ir ow)))) := by
  refine Sp.ofF (by decide +kernel) rfl rfl (q_le rfl) ?_
  intro G d
  refine q_aload_n dX7_plan_0 rfl ?_
  refine q_iload_n dX7_plan_1 rfl ?_
  refine q_iload_n dX7_plan_2 rfl ?_
  refine q_iload_n dX7_plan_3 rfl ?_
  refine q_cW (m_isPlan_ok hcnt hj) dX7_plan_4 kl_X7_160 rfl (q_blk_get (j := 0) rfl) rfl ⟨q_le rfl, q_le rfl⟩ (q_le rfl) (q_le rfl) (q_le rfl) ?_
  refine q_ifne_b (tgt := 13) dX7_plan_7 (by decide) (fun c_7 => ?_) (fun h_n => absurd (h_n.symm.trans (hx)) (by decide))
  refine q_aload_n dX7_plan_13 rfl ?_
  refine q_getf dX7_plan_14 fl_X7_16 (q_blk_get (j := 0) rfl) rfl ?_
  refine q_iload_n dX7_plan_17 rfl ?_
  refine q_ialdN dX7_plan_18 (q_blk_get (j := 3) rfl) (k := j) rfl (by omega) (by decide) ?_
  refine q_if_ne (tgt := 26) dX7_plan_19 (by decide) (fun c_19 => ?_) (fun h_n => absurd h_n (h0))
  refine q_bipush dX7_plan_26 (v := 24) (by decide) ?_
  refine q_istore dX7_plan_28 (q_le rfl) ?_
  exact q_lo [(0, .ref o), (1, .int (nI j)), (2, .int bb), (3, .int ww0), (4, .int (nI 25 - 1))] ⟨rfl, rfl, rfl, rfl, rfl, trivial⟩ (lp_m_plan hcnt hj hc htc hb 25 (by omega))

set_option maxHeartbeats 4000000 in
set_option maxRecDepth 100000 in
theorem m_planAt_bad {f : q_Hp} {n o cnt cl tn : Nat} {lost : Int32} {be by_ tc ta wa wr pl bi wo sh fa ca ph : Nat → Int32} {cm km gr : Nat → Int64} {kp : Nat → Int32} {su ro : Nat → Int64} {ou : Nat → Int32} {ex sz : Nat → Int64} {ww ch tp ir ow : Nat → Int32} {k bb ww0 mv : Int32} (hcnt : cnt ≤ 8) (hk : k < 0 ∨ nI cnt ≤ k) : Sp yX7_planAt uX7_planAt [.ref o, .int k, .int bb, .int ww0, .int mv] n (q_blk f o (mE o cnt cl tn lost be by_ tc ta wa wr pl bi wo sh fa ca ph cm km gr kp su ro ou ex sz ww ch tp ir ow)) (some (.int (-2)), n, (q_blk f o (mE o cnt cl tn lost be by_ tc ta wa wr pl bi wo sh fa ca ph cm km gr kp su ro ou ex sz ww ch tp ir ow))) := by
  refine Sp.ofF (by decide +kernel) rfl rfl (q_le rfl) ?_
  intro G d
  refine q_aload_n dX7_planAt_0 rfl ?_
  refine q_iload_n dX7_planAt_1 rfl ?_
  refine q_iload_n dX7_planAt_2 rfl ?_
  refine q_iload_n dX7_planAt_3 rfl ?_
  refine q_cW (m_isPlan_bad hcnt hk) dX7_planAt_4 kl_X7_160 rfl (q_blk_get (j := 0) rfl) rfl ⟨q_le rfl, q_le rfl⟩ (q_le rfl) (q_le rfl) (q_le rfl) ?_
  refine q_ifeq_b (tgt := 23) dX7_planAt_7 (by decide) (fun c_7 => ?_) (fun h_n => absurd (h_n.symm.trans (rfl)) (by decide))
  refine q_bipush dX7_planAt_23 (v := (-2)) (by decide) ?_
  exact q_iret dX7_planAt_25 rfl (rfl) (q_le rfl) (q_le rfl)

set_option maxHeartbeats 4000000 in
set_option maxRecDepth 100000 in
theorem m_planAt_rng {f : q_Hp} {n o cnt cl tn : Nat} {lost : Int32} {be by_ tc ta wa wr pl bi wo sh fa ca ph : Nat → Int32} {cm km gr : Nat → Int64} {kp : Nat → Int32} {su ro : Nat → Int64} {ou : Nat → Int32} {ex sz : Nat → Int64} {ww ch tp ir ow : Nat → Int32} {j : Nat} {bb ww0 mv : Int32} (hcnt : cnt ≤ 8) (hj : j < cnt) (hx : x_isPlan bb ww0 = false) : Sp yX7_planAt uX7_planAt [.ref o, .int (nI j), .int bb, .int ww0, .int mv] n (q_blk f o (mE o cnt cl tn lost be by_ tc ta wa wr pl bi wo sh fa ca ph cm km gr kp su ro ou ex sz ww ch tp ir ow)) (some (.int (-2)), n, (q_blk f o (mE o cnt cl tn lost be by_ tc ta wa wr pl bi wo sh fa ca ph cm km gr kp su ro ou ex sz ww ch tp ir ow))) := by
  refine Sp.ofF (by decide +kernel) rfl rfl (q_le rfl) ?_
  intro G d
  refine q_aload_n dX7_planAt_0 rfl ?_
  refine q_iload_n dX7_planAt_1 rfl ?_
  refine q_iload_n dX7_planAt_2 rfl ?_
  refine q_iload_n dX7_planAt_3 rfl ?_
  refine q_cW (m_isPlan_ok hcnt hj) dX7_planAt_4 kl_X7_160 rfl (q_blk_get (j := 0) rfl) rfl ⟨q_le rfl, q_le rfl⟩ (q_le rfl) (q_le rfl) (q_le rfl) ?_
  refine q_ifeq_b (tgt := 23) dX7_planAt_7 (by decide) (fun c_7 => ?_) (fun h_n => absurd (h_n.symm.trans (hx)) (by decide))
  refine q_bipush dX7_planAt_23 (v := (-2)) (by decide) ?_
  exact q_iret dX7_planAt_25 rfl (rfl) (q_le rfl) (q_le rfl)

set_option maxHeartbeats 4000000 in
set_option maxRecDepth 100000 in
theorem m_planAt_rng2 {f : q_Hp} {n o cnt cl tn : Nat} {lost : Int32} {be by_ tc ta wa wr pl bi wo sh fa ca ph : Nat → Int32} {cm km gr : Nat → Int64} {kp : Nat → Int32} {su ro : Nat → Int64} {ou : Nat → Int32} {ex sz : Nat → Int64} {ww ch tp ir ow : Nat → Int32} {j : Nat} {bb ww0 mv : Int32} (hcnt : cnt ≤ 8) (hj : j < cnt) (hx : x_isPlan bb ww0 = true) (hr : x_in mv 0 24 = false) : Sp yX7_planAt uX7_planAt [.ref o, .int (nI j), .int bb, .int ww0, .int mv] n (q_blk f o (mE o cnt cl tn lost be by_ tc ta wa wr pl bi wo sh fa ca ph cm km gr kp su ro ou ex sz ww ch tp ir ow)) (some (.int (-2)), n, (q_blk f o (mE o cnt cl tn lost be by_ tc ta wa wr pl bi wo sh fa ca ph cm km gr kp su ro ou ex sz ww ch tp ir ow))) := by
  refine Sp.ofF (by decide +kernel) rfl rfl (q_le rfl) ?_
  intro G d
  refine q_aload_n dX7_planAt_0 rfl ?_
  refine q_iload_n dX7_planAt_1 rfl ?_
  refine q_iload_n dX7_planAt_2 rfl ?_
  refine q_iload_n dX7_planAt_3 rfl ?_
  refine q_cW (m_isPlan_ok hcnt hj) dX7_planAt_4 kl_X7_160 rfl (q_blk_get (j := 0) rfl) rfl ⟨q_le rfl, q_le rfl⟩ (q_le rfl) (q_le rfl) (q_le rfl) ?_
  refine q_ifeq_b (tgt := 23) dX7_planAt_7 (by decide) (fun h_n => absurd (h_n.symm.trans (hx)) (by decide)) (fun c_7 => ?_)
  refine q_iload dX7_planAt_10 rfl ?_
  refine q_i2l dX7_planAt_12 ?_
  refine q_lconst dX7_planAt_13 (v := 0) (by decide) ?_
  refine q_ldc2 dX7_planAt_14 cn_X7_172 ?_
  refine q_cS (c_in_x 0 24 rfl rfl) dX7_planAt_17 kl_X7_97 rfl ⟨q_le rfl, q_le rfl⟩ (q_le rfl) (q_le rfl) (q_le rfl) ?_
  refine q_ifne_b (tgt := 26) dX7_planAt_20 (by decide) (fun h_n => absurd (h_n.symm.trans (hr)) (by decide)) (fun c_20 => ?_)
  refine q_bipush dX7_planAt_23 (v := (-2)) (by decide) ?_
  exact q_iret dX7_planAt_25 rfl (rfl) (q_le rfl) (q_le rfl)

set_option maxHeartbeats 4000000 in
set_option maxRecDepth 100000 in
theorem m_planAt_none {f : q_Hp} {n o cnt cl tn : Nat} {lost : Int32} {be by_ tc ta wa wr pl bi wo sh fa ca ph : Nat → Int32} {cm km gr : Nat → Int64} {kp : Nat → Int32} {su ro : Nat → Int64} {ou : Nat → Int32} {ex sz : Nat → Int64} {ww ch tp ir ow : Nat → Int32} {j : Nat} {bb ww0 mv : Int32} (hcnt : cnt ≤ 8) (hj : j < cnt) (hx : x_isPlan bb ww0 = true) (hr : x_in mv 0 24 = true) (h0 : tc j = 0) : Sp yX7_planAt uX7_planAt [.ref o, .int (nI j), .int bb, .int ww0, .int mv] n (q_blk f o (mE o cnt cl tn lost be by_ tc ta wa wr pl bi wo sh fa ca ph cm km gr kp su ro ou ex sz ww ch tp ir ow)) (some (.int (-3)), n, (q_blk f o (mE o cnt cl tn lost be by_ tc ta wa wr pl bi wo sh fa ca ph cm km gr kp su ro ou ex sz ww ch tp ir ow))) := by
  refine Sp.ofF (by decide +kernel) rfl rfl (q_le rfl) ?_
  intro G d
  refine q_aload_n dX7_planAt_0 rfl ?_
  refine q_iload_n dX7_planAt_1 rfl ?_
  refine q_iload_n dX7_planAt_2 rfl ?_
  refine q_iload_n dX7_planAt_3 rfl ?_
  refine q_cW (m_isPlan_ok hcnt hj) dX7_planAt_4 kl_X7_160 rfl (q_blk_get (j := 0) rfl) rfl ⟨q_le rfl, q_le rfl⟩ (q_le rfl) (q_le rfl) (q_le rfl) ?_
  refine q_ifeq_b (tgt := 23) dX7_planAt_7 (by decide) (fun h_n => absurd (h_n.symm.trans (hx)) (by decide)) (fun c_7 => ?_)
  refine q_iload dX7_planAt_10 rfl ?_
  refine q_i2l dX7_planAt_12 ?_
  refine q_lconst dX7_planAt_13 (v := 0) (by decide) ?_
  refine q_ldc2 dX7_planAt_14 cn_X7_172 ?_
  refine q_cS (c_in_x 0 24 rfl rfl) dX7_planAt_17 kl_X7_97 rfl ⟨q_le rfl, q_le rfl⟩ (q_le rfl) (q_le rfl) (q_le rfl) ?_
  refine q_ifne_b (tgt := 26) dX7_planAt_20 (by decide) (fun c_20 => ?_) (fun h_n => absurd (h_n.symm.trans (hr)) (by decide))
  refine q_aload_n dX7_planAt_26 rfl ?_
  refine q_getf dX7_planAt_27 fl_X7_16 (q_blk_get (j := 0) rfl) rfl ?_
  refine q_iload_n dX7_planAt_30 rfl ?_
  refine q_ialdN dX7_planAt_31 (q_blk_get (j := 3) rfl) (k := j) rfl (by omega) (by decide) ?_
  refine q_if_eq (tgt := 47) dX7_planAt_32 (by decide) (fun c_32 => ?_) (fun h_n => absurd (h0) h_n)
  refine q_bipush dX7_planAt_47 (v := (-3)) (by decide) ?_
  refine q_goto (tgt := 61) dX7_planAt_49 (by decide) ?_
  exact q_iret dX7_planAt_61 rfl (rfl) (q_le rfl) (q_le rfl)

set_option maxHeartbeats 4000000 in
set_option maxRecDepth 100000 in
theorem m_planAt_no {f : q_Hp} {n o cnt cl tn : Nat} {lost : Int32} {be by_ tc ta wa wr pl bi wo sh fa ca ph : Nat → Int32} {cm km gr : Nat → Int64} {kp : Nat → Int32} {su ro : Nat → Int64} {ou : Nat → Int32} {ex sz : Nat → Int64} {ww ch tp ir ow : Nat → Int32} {j c : Nat} {bb ww0 mv : Int32} (hcnt : cnt ≤ 8) (hj : j < cnt) (hc : c ≤ 32) (htc : tc j = nI c) (hb : 1 ≤ be j) (hx : x_isPlan bb ww0 = true) (hr : x_in mv 0 24 = true) (h0 : ¬ tc j = 0) (hs : m_isSafe ta be j c bb ww0 mv = false) : Sp yX7_planAt uX7_planAt [.ref o, .int (nI j), .int bb, .int ww0, .int mv] n (q_blk f o (mE o cnt cl tn lost be by_ tc ta wa wr pl bi wo sh fa ca ph cm km gr kp su ro ou ex sz ww ch tp ir ow)) (some (.int (-3)), n, (q_blk f o (mE o cnt cl tn lost be by_ tc ta wa wr pl bi wo sh fa ca ph cm km gr kp su ro ou ex sz ww ch tp ir ow))) := by
  refine Sp.ofF (by decide +kernel) rfl rfl (q_le rfl) ?_
  intro G d
  refine q_aload_n dX7_planAt_0 rfl ?_
  refine q_iload_n dX7_planAt_1 rfl ?_
  refine q_iload_n dX7_planAt_2 rfl ?_
  refine q_iload_n dX7_planAt_3 rfl ?_
  refine q_cW (m_isPlan_ok hcnt hj) dX7_planAt_4 kl_X7_160 rfl (q_blk_get (j := 0) rfl) rfl ⟨q_le rfl, q_le rfl⟩ (q_le rfl) (q_le rfl) (q_le rfl) ?_
  refine q_ifeq_b (tgt := 23) dX7_planAt_7 (by decide) (fun h_n => absurd (h_n.symm.trans (hx)) (by decide)) (fun c_7 => ?_)
  refine q_iload dX7_planAt_10 rfl ?_
  refine q_i2l dX7_planAt_12 ?_
  refine q_lconst dX7_planAt_13 (v := 0) (by decide) ?_
  refine q_ldc2 dX7_planAt_14 cn_X7_172 ?_
  refine q_cS (c_in_x 0 24 rfl rfl) dX7_planAt_17 kl_X7_97 rfl ⟨q_le rfl, q_le rfl⟩ (q_le rfl) (q_le rfl) (q_le rfl) ?_
  refine q_ifne_b (tgt := 26) dX7_planAt_20 (by decide) (fun c_20 => ?_) (fun h_n => absurd (h_n.symm.trans (hr)) (by decide))
  refine q_aload_n dX7_planAt_26 rfl ?_
  refine q_getf dX7_planAt_27 fl_X7_16 (q_blk_get (j := 0) rfl) rfl ?_
  refine q_iload_n dX7_planAt_30 rfl ?_
  refine q_ialdN dX7_planAt_31 (q_blk_get (j := 3) rfl) (k := j) rfl (by omega) (by decide) ?_
  refine q_if_eq (tgt := 47) dX7_planAt_32 (by decide) (fun h_n => absurd h_n (h0)) (fun c_32 => ?_)
  refine q_aload_n dX7_planAt_35 rfl ?_
  refine q_iload_n dX7_planAt_36 rfl ?_
  refine q_iload_n dX7_planAt_37 rfl ?_
  refine q_iload_n dX7_planAt_38 rfl ?_
  refine q_iload dX7_planAt_39 rfl ?_
  refine q_cW (m_isSafe_c hcnt hj hc htc hb) dX7_planAt_41 kl_X7_164 rfl (q_blk_get (j := 0) rfl) rfl ⟨q_le rfl, q_le rfl⟩ (q_le rfl) (q_le rfl) (q_le rfl) ?_
  refine q_ifne_b (tgt := 52) dX7_planAt_44 (by decide) (fun h_n => absurd (h_n.symm.trans (hs)) (by decide)) (fun c_44 => ?_)
  refine q_bipush dX7_planAt_47 (v := (-3)) (by decide) ?_
  refine q_goto (tgt := 61) dX7_planAt_49 (by decide) ?_
  exact q_iret dX7_planAt_61 rfl (rfl) (q_le rfl) (q_le rfl)

set_option maxHeartbeats 4000000 in
set_option maxRecDepth 100000 in
theorem m_planAt_ok {f : q_Hp} {n o cnt cl tn : Nat} {lost : Int32} {be by_ tc ta wa wr pl bi wo sh fa ca ph : Nat → Int32} {cm km gr : Nat → Int64} {kp : Nat → Int32} {su ro : Nat → Int64} {ou : Nat → Int32} {ex sz : Nat → Int64} {ww ch tp ir ow : Nat → Int32} {j c : Nat} {bb ww0 mv : Int32} (hcnt : cnt ≤ 8) (hj : j < cnt) (hc : c ≤ 32) (htc : tc j = nI c) (hb : 1 ≤ be j) (hx : x_isPlan bb ww0 = true) (hr : x_in mv 0 24 = true) (h0 : ¬ tc j = 0) (hs : m_isSafe ta be j c bb ww0 mv = true) : Sp yX7_planAt uX7_planAt [.ref o, .int (nI j), .int bb, .int ww0, .int mv] n (q_blk f o (mE o cnt cl tn lost be by_ tc ta wa wr pl bi wo sh fa ca ph cm km gr kp su ro ou ex sz ww ch tp ir ow)) (some (.int mv), n, (q_blk f o (mE o cnt cl tn lost be by_ tc ta wa wr (upd pl j 1) (upd bi j bb) (upd wo j ww0) (upd sh j mv) (m_pf ta be j mv fa c) (m_clr ca j 32) (upd ph j 0) (vp_updL cm j 0) (vp_updL km j 0) (vp_updL gr j 0) (upd kp j 0) su ro ou ex sz ww ch tp ir ow))) := by
  refine Sp.ofF (by decide +kernel) rfl rfl (q_le rfl) ?_
  intro G d
  refine q_aload_n dX7_planAt_0 rfl ?_
  refine q_iload_n dX7_planAt_1 rfl ?_
  refine q_iload_n dX7_planAt_2 rfl ?_
  refine q_iload_n dX7_planAt_3 rfl ?_
  refine q_cW (m_isPlan_ok hcnt hj) dX7_planAt_4 kl_X7_160 rfl (q_blk_get (j := 0) rfl) rfl ⟨q_le rfl, q_le rfl⟩ (q_le rfl) (q_le rfl) (q_le rfl) ?_
  refine q_ifeq_b (tgt := 23) dX7_planAt_7 (by decide) (fun h_n => absurd (h_n.symm.trans (hx)) (by decide)) (fun c_7 => ?_)
  refine q_iload dX7_planAt_10 rfl ?_
  refine q_i2l dX7_planAt_12 ?_
  refine q_lconst dX7_planAt_13 (v := 0) (by decide) ?_
  refine q_ldc2 dX7_planAt_14 cn_X7_172 ?_
  refine q_cS (c_in_x 0 24 rfl rfl) dX7_planAt_17 kl_X7_97 rfl ⟨q_le rfl, q_le rfl⟩ (q_le rfl) (q_le rfl) (q_le rfl) ?_
  refine q_ifne_b (tgt := 26) dX7_planAt_20 (by decide) (fun c_20 => ?_) (fun h_n => absurd (h_n.symm.trans (hr)) (by decide))
  refine q_aload_n dX7_planAt_26 rfl ?_
  refine q_getf dX7_planAt_27 fl_X7_16 (q_blk_get (j := 0) rfl) rfl ?_
  refine q_iload_n dX7_planAt_30 rfl ?_
  refine q_ialdN dX7_planAt_31 (q_blk_get (j := 3) rfl) (k := j) rfl (by omega) (by decide) ?_
  refine q_if_eq (tgt := 47) dX7_planAt_32 (by decide) (fun h_n => absurd h_n (h0)) (fun c_32 => ?_)
  refine q_aload_n dX7_planAt_35 rfl ?_
  refine q_iload_n dX7_planAt_36 rfl ?_
  refine q_iload_n dX7_planAt_37 rfl ?_
  refine q_iload_n dX7_planAt_38 rfl ?_
  refine q_iload dX7_planAt_39 rfl ?_
  refine q_cW (m_isSafe_c hcnt hj hc htc hb) dX7_planAt_41 kl_X7_164 rfl (q_blk_get (j := 0) rfl) rfl ⟨q_le rfl, q_le rfl⟩ (q_le rfl) (q_le rfl) (q_le rfl) ?_
  refine q_ifne_b (tgt := 52) dX7_planAt_44 (by decide) (fun c_44 => ?_) (fun h_n => absurd (h_n.symm.trans (hs)) (by decide))
  refine q_aload_n dX7_planAt_52 rfl ?_
  refine q_iload_n dX7_planAt_53 rfl ?_
  refine q_iload_n dX7_planAt_54 rfl ?_
  refine q_iload_n dX7_planAt_55 rfl ?_
  refine q_iload dX7_planAt_56 rfl ?_
  refine q_cW (m_plans hcnt hj hc htc hb) dX7_planAt_58 kl_X7_168 rfl (q_blk_get (j := 0) rfl) rfl ⟨q_le rfl, q_le rfl⟩ (q_le rfl) (q_le rfl) (q_le rfl) ?_
  exact q_iret dX7_planAt_61 rfl (rfl) (q_le rfl) (q_le rfl)

