set_option maxHeartbeats 4000000 in
set_option maxRecDepth 100000 in
theorem m_coef_bad {f : q_Hp} {n o cnt cl tn : Nat} {lost : Int32} {be by_ tc ta wa wr pl bi wo sh fa ca ph : Nat → Int32} {cm km gr : Nat → Int64} {kp : Nat → Int32} {su ro : Nat → Int64} {ou : Nat → Int32} {ex sz : Nat → Int64} {ww ch tp ir ow : Nat → Int32} {k k2 : Int32} (hcnt : cnt ≤ 8) (hk : k < 0 ∨ nI cnt ≤ k) : Sp yX7_coefficient uX7_coefficient [.ref o, .int k, .int k2] n (q_blk f o (mE o cnt cl tn lost be by_ tc ta wa wr pl bi wo sh fa ca ph cm km gr kp su ro ou ex sz ww ch tp ir ow)) (some (.int 2000000000), n, (q_blk f o (mE o cnt cl tn lost be by_ tc ta wa wr pl bi wo sh fa ca ph cm km gr kp su ro ou ex sz ww ch tp ir ow))) := by
  refine Sp.ofF (by decide +kernel) rfl rfl (q_le rfl) ?_
  intro G d
  refine q_aload_n dX7_coefficient_0 rfl ?_
  refine q_iload_n dX7_coefficient_1 rfl ?_
  refine q_cW (c_isS_no hcnt hk) dX7_coefficient_2 kl_X7_118 rfl (q_blk_get (j := 0) rfl) rfl ⟨q_le rfl, q_le rfl⟩ (q_le rfl) (q_le rfl) (q_le rfl) ?_
  refine q_ifeq_b (tgt := 49) dX7_coefficient_5 (by decide) (fun c_5 => ?_) (fun h_n => absurd (h_n.symm.trans (rfl)) (by decide))
  refine q_ldc dX7_coefficient_49 cn_X7_129 ?_
  exact q_iret dX7_coefficient_51 rfl (rfl) (q_le rfl) (q_le rfl)

set_option maxHeartbeats 4000000 in
set_option maxRecDepth 100000 in
theorem m_coef_np {f : q_Hp} {n o cnt cl tn : Nat} {lost : Int32} {be by_ tc ta wa wr pl bi wo sh fa ca ph : Nat → Int32} {cm km gr : Nat → Int64} {kp : Nat → Int32} {su ro : Nat → Int64} {ou : Nat → Int32} {ex sz : Nat → Int64} {ww ch tp ir ow : Nat → Int32} {i : Nat} {k : Int32} (hcnt : cnt ≤ 8) (hi : i < cnt) (hp : pl i = 0) : Sp yX7_coefficient uX7_coefficient [.ref o, .int (nI i), .int k] n (q_blk f o (mE o cnt cl tn lost be by_ tc ta wa wr pl bi wo sh fa ca ph cm km gr kp su ro ou ex sz ww ch tp ir ow)) (some (.int 2000000000), n, (q_blk f o (mE o cnt cl tn lost be by_ tc ta wa wr pl bi wo sh fa ca ph cm km gr kp su ro ou ex sz ww ch tp ir ow))) := by
  refine Sp.ofF (by decide +kernel) rfl rfl (q_le rfl) ?_
  intro G d
  refine q_aload_n dX7_coefficient_0 rfl ?_
  refine q_iload_n dX7_coefficient_1 rfl ?_
  refine q_cW (c_isS_ok hcnt hi) dX7_coefficient_2 kl_X7_118 rfl (q_blk_get (j := 0) rfl) rfl ⟨q_le rfl, q_le rfl⟩ (q_le rfl) (q_le rfl) (q_le rfl) ?_
  refine q_ifeq_b (tgt := 49) dX7_coefficient_5 (by decide) (fun h_n => absurd (h_n.symm.trans (rfl)) (by decide)) (fun c_5 => ?_)
  refine q_aload_n dX7_coefficient_8 rfl ?_
  refine q_getf dX7_coefficient_9 fl_X7_29 (q_blk_get (j := 0) rfl) rfl ?_
  refine q_iload_n dX7_coefficient_12 rfl ?_
  refine q_zaldN dX7_coefficient_13 (q_blk_get (j := 7) rfl) (k := i) rfl (by omega) (by decide) ?_
  refine q_if_eq (tgt := 49) dX7_coefficient_14 (by decide) (fun c_14 => ?_) (fun h_n => absurd (hp) h_n)
  refine q_ldc dX7_coefficient_49 cn_X7_129 ?_
  exact q_iret dX7_coefficient_51 rfl (rfl) (q_le rfl) (q_le rfl)

set_option maxHeartbeats 4000000 in
set_option maxRecDepth 100000 in
theorem m_coef_no {f : q_Hp} {n o cnt cl tn : Nat} {lost : Int32} {be by_ tc ta wa wr pl bi wo sh fa ca ph : Nat → Int32} {cm km gr : Nat → Int64} {kp : Nat → Int32} {su ro : Nat → Int64} {ou : Nat → Int32} {ex sz : Nat → Int64} {ww ch tp ir ow : Nat → Int32} {i : Nat} {k : Int32} (hcnt : cnt ≤ 8) (hi : i < cnt) (hp : ¬ pl i = 0) (hx : x_in k 0 (tc i - 1) = false) : Sp yX7_coefficient uX7_coefficient [.ref o, .int (nI i), .int k] n (q_blk f o (mE o cnt cl tn lost be by_ tc ta wa wr pl bi wo sh fa ca ph cm km gr kp su ro ou ex sz ww ch tp ir ow)) (some (.int 2000000000), n, (q_blk f o (mE o cnt cl tn lost be by_ tc ta wa wr pl bi wo sh fa ca ph cm km gr kp su ro ou ex sz ww ch tp ir ow))) := by
  refine Sp.ofF (by decide +kernel) rfl rfl (q_le rfl) ?_
  intro G d
  refine q_aload_n dX7_coefficient_0 rfl ?_
  refine q_iload_n dX7_coefficient_1 rfl ?_
  refine q_cW (c_isS_ok hcnt hi) dX7_coefficient_2 kl_X7_118 rfl (q_blk_get (j := 0) rfl) rfl ⟨q_le rfl, q_le rfl⟩ (q_le rfl) (q_le rfl) (q_le rfl) ?_
  refine q_ifeq_b (tgt := 49) dX7_coefficient_5 (by decide) (fun h_n => absurd (h_n.symm.trans (rfl)) (by decide)) (fun c_5 => ?_)
  refine q_aload_n dX7_coefficient_8 rfl ?_
  refine q_getf dX7_coefficient_9 fl_X7_29 (q_blk_get (j := 0) rfl) rfl ?_
  refine q_iload_n dX7_coefficient_12 rfl ?_
  refine q_zaldN dX7_coefficient_13 (q_blk_get (j := 7) rfl) (k := i) rfl (by omega) (by decide) ?_
  refine q_if_eq (tgt := 49) dX7_coefficient_14 (by decide) (fun h_n => absurd h_n (hp)) (fun c_14 => ?_)
  refine q_iload_n dX7_coefficient_17 rfl ?_
  refine q_i2l dX7_coefficient_18 ?_
  refine q_lconst dX7_coefficient_19 (v := 0) (by decide) ?_
  refine q_aload_n dX7_coefficient_20 rfl ?_
  refine q_getf dX7_coefficient_21 fl_X7_16 (q_blk_get (j := 0) rfl) rfl ?_
  refine q_iload_n dX7_coefficient_24 rfl ?_
  refine q_ialdN dX7_coefficient_25 (q_blk_get (j := 3) rfl) (k := i) rfl (by omega) (by decide) ?_
  refine q_iconst dX7_coefficient_26 (v := 1) (by decide) ?_
  refine q_isub dX7_coefficient_27 ?_
  refine q_i2l dX7_coefficient_28 ?_
  refine q_cS (c_in_x 0 (tc i - 1) rfl rfl) dX7_coefficient_29 kl_X7_97 rfl ⟨q_le rfl, q_le rfl⟩ (q_le rfl) (q_le rfl) (q_le rfl) ?_
  refine q_ifeq_b (tgt := 49) dX7_coefficient_32 (by decide) (fun c_32 => ?_) (fun h_n => absurd (h_n.symm.trans (hx)) (by decide))
  refine q_ldc dX7_coefficient_49 cn_X7_129 ?_
  exact q_iret dX7_coefficient_51 rfl (rfl) (q_le rfl) (q_le rfl)

set_option maxHeartbeats 4000000 in
set_option maxRecDepth 100000 in
theorem m_coef_ok {f : q_Hp} {n o cnt cl tn : Nat} {lost : Int32} {be by_ tc ta wa wr pl bi wo sh fa ca ph : Nat → Int32} {cm km gr : Nat → Int64} {kp : Nat → Int32} {su ro : Nat → Int64} {ou : Nat → Int32} {ex sz : Nat → Int64} {ww ch tp ir ow : Nat → Int32} {i kk : Nat} (hcnt : cnt ≤ 8) (hi : i < cnt) (hk : kk < 32) (hp : ¬ pl i = 0) (hx : x_in (nI kk) 0 (tc i - 1) = true) : Sp yX7_coefficient uX7_coefficient [.ref o, .int (nI i), .int (nI kk)] n (q_blk f o (mE o cnt cl tn lost be by_ tc ta wa wr pl bi wo sh fa ca ph cm km gr kp su ro ou ex sz ww ch tp ir ow)) (some (.int (fa (32 * i + kk))), n, (q_blk f o (mE o cnt cl tn lost be by_ tc ta wa wr pl bi wo sh fa ca ph cm km gr kp su ro ou ex sz ww ch tp ir ow))) := by
  refine Sp.ofF (by decide +kernel) rfl rfl (q_le rfl) ?_
  intro G d
  refine q_aload_n dX7_coefficient_0 rfl ?_
  refine q_iload_n dX7_coefficient_1 rfl ?_
  refine q_cW (c_isS_ok hcnt hi) dX7_coefficient_2 kl_X7_118 rfl (q_blk_get (j := 0) rfl) rfl ⟨q_le rfl, q_le rfl⟩ (q_le rfl) (q_le rfl) (q_le rfl) ?_
  refine q_ifeq_b (tgt := 49) dX7_coefficient_5 (by decide) (fun h_n => absurd (h_n.symm.trans (rfl)) (by decide)) (fun c_5 => ?_)
  refine q_aload_n dX7_coefficient_8 rfl ?_
  refine q_getf dX7_coefficient_9 fl_X7_29 (q_blk_get (j := 0) rfl) rfl ?_
  refine q_iload_n dX7_coefficient_12 rfl ?_
  refine q_zaldN dX7_coefficient_13 (q_blk_get (j := 7) rfl) (k := i) rfl (by omega) (by decide) ?_
  refine q_if_eq (tgt := 49) dX7_coefficient_14 (by decide) (fun h_n => absurd h_n (hp)) (fun c_14 => ?_)
  refine q_iload_n dX7_coefficient_17 rfl ?_
  refine q_i2l dX7_coefficient_18 ?_
  refine q_lconst dX7_coefficient_19 (v := 0) (by decide) ?_
  refine q_aload_n dX7_coefficient_20 rfl ?_
  refine q_getf dX7_coefficient_21 fl_X7_16 (q_blk_get (j := 0) rfl) rfl ?_
  refine q_iload_n dX7_coefficient_24 rfl ?_
  refine q_ialdN dX7_coefficient_25 (q_blk_get (j := 3) rfl) (k := i) rfl (by omega) (by decide) ?_
  refine q_iconst dX7_coefficient_26 (v := 1) (by decide) ?_
  refine q_isub dX7_coefficient_27 ?_
  refine q_i2l dX7_coefficient_28 ?_
  refine q_cS (c_in_x 0 (tc i - 1) rfl rfl) dX7_coefficient_29 kl_X7_97 rfl ⟨q_le rfl, q_le rfl⟩ (q_le rfl) (q_le rfl) (q_le rfl) ?_
  refine q_ifeq_b (tgt := 49) dX7_coefficient_32 (by decide) (fun h_n => absurd (h_n.symm.trans (hx)) (by decide)) (fun c_32 => ?_)
  refine q_aload_n dX7_coefficient_35 rfl ?_
  refine q_getf dX7_coefficient_36 fl_X7_41 (q_blk_get (j := 0) rfl) rfl ?_
  refine q_bipush dX7_coefficient_39 (v := 32) (by decide) ?_
  refine q_iload_n dX7_coefficient_41 rfl ?_
  refine q_imul dX7_coefficient_42 ?_
  refine q_iload_n dX7_coefficient_43 rfl ?_
  refine q_iadd dX7_coefficient_44 ?_
  refine q_ialdN dX7_coefficient_45 (q_blk_get (j := 11) rfl) (k := 32 * i + kk) (m_ix i kk) (by omega) (by decide) ?_
  refine q_goto (tgt := 51) dX7_coefficient_46 (by decide) ?_
  exact q_iret dX7_coefficient_51 rfl (rfl) (q_le rfl) (q_le rfl)

def m_mir (ta : Nat → Int32) (j c : Nat) : Nat → Int32
  | 0 => 3
  | t + 1 => m_mir ta j c t &&& ((if ta (32 * j + t) = ta (32 * j + (c - 1 - t)) then 1 else 0) ||| (if ta (32 * j + t) = -ta (32 * j + (c - 1 - t)) then 2 else 0))
theorem m_mir_s (ta : Nat → Int32) (j c t : Nat) : m_mir ta j c (t + 1) = m_mir ta j c t &&& ((if ta (32 * j + t) = ta (32 * j + (c - 1 - t)) then 1 else 0) ||| (if ta (32 * j + t) = -ta (32 * j + (c - 1 - t)) then 2 else 0)) := rfl
theorem m_ixr {j c t : Nat} (h : t < c) : (32 : Int32) * nI j + nI c - 1 - nI t = nI (32 * j + (c - 1 - t)) := by
  rw [m_ix, x_pred (by omega), pk_sub (by omega)]
  congr 1
  omega
set_option maxHeartbeats 4000000 in
set_option maxRecDepth 100000 in
theorem lp_m_mir {G : q_G} {d : q_D} {z : q_Z} {f : q_Hp} {n o cnt cl tn : Nat} {lost : Int32} {be by_ tc ta wa wr pl bi wo sh fa ca ph : Nat → Int32} {cm km gr : Nat → Int64} {kp : Nat → Int32} {su ro : Nat → Int64} {ou : Nat → Int32} {ex sz : Nat → Int64} {ww ch tp ir ow : Nat → Int32} {j c : Nat} (hcnt : cnt ≤ 8) (hj : j < cnt) (hc : c ≤ 32) (htc : tc j = nI c) (hx : J G d uX7_mirrored z 0 0 n 84 (q_l [(2, .int (m_mir ta j c c))]) [] (q_blk f o (mE o cnt cl tn lost be by_ tc ta wa wr pl bi wo sh fa ca ph cm km gr kp su ro ou ex sz ww ch tp ir ow))) : ∀ (k i : Nat), i + k = c → J G d uX7_mirrored z 0 0 n 4 (q_l [(0, .ref o), (1, .int (nI j)), (2, .int (m_mir ta j c i)), (3, .int (nI i))]) [] (q_blk f o (mE o cnt cl tn lost be by_ tc ta wa wr pl bi wo sh fa ca ph cm km gr kp su ro ou ex sz ww ch tp ir ow)) := by
  intro k
  induction k with
  | zero =>
    intro i hi
    rw [show i = c by omega]
    refine q_iload_n dX7_mirrored_4 rfl ?_
    refine q_aload_n dX7_mirrored_5 rfl ?_
    refine q_getf dX7_mirrored_6 fl_X7_16 (q_blk_get (j := 0) rfl) rfl ?_
    refine q_iload_n dX7_mirrored_9 rfl ?_
    refine q_ialdN dX7_mirrored_10 (q_blk_get (j := 3) rfl) (k := j) rfl (by omega) (by decide) ?_
    refine q_icmp_ge (tgt := 84) dX7_mirrored_11 (by decide) (fun c_11 => ?_) (fun h_n => absurd ((by rw [htc]; exact Int32.le_refl _)) h_n)
    exact q_lo [(2, .int (m_mir ta j c c))] ⟨rfl, trivial⟩ hx
  | succ k ih =>
    intro i hi
    refine q_iload_n dX7_mirrored_4 rfl ?_
    refine q_aload_n dX7_mirrored_5 rfl ?_
    refine q_getf dX7_mirrored_6 fl_X7_16 (q_blk_get (j := 0) rfl) rfl ?_
    refine q_iload_n dX7_mirrored_9 rfl ?_
    refine q_ialdN dX7_mirrored_10 (q_blk_get (j := 3) rfl) (k := j) rfl (by omega) (by decide) ?_
    refine q_icmp_ge (tgt := 84) dX7_mirrored_11 (by decide) (fun h_n => absurd h_n ((by rw [htc]; exact nI_ge (by omega) (by omega)))) (fun c_11 => ?_)
    refine q_aload_n dX7_mirrored_14 rfl ?_
    refine q_getf dX7_mirrored_15 fl_X7_19 (q_blk_get (j := 0) rfl) rfl ?_
    refine q_bipush dX7_mirrored_18 (v := 32) (by decide) ?_
    refine q_iload_n dX7_mirrored_20 rfl ?_
    refine q_imul dX7_mirrored_21 ?_
    refine q_iload_n dX7_mirrored_22 rfl ?_
    refine q_iadd dX7_mirrored_23 ?_
    refine q_ialdN dX7_mirrored_24 (q_blk_get (j := 4) rfl) (k := 32 * j + i) (m_ix j i) (by omega) (by decide) ?_
    refine q_istore dX7_mirrored_25 (q_le rfl) ?_
    refine q_aload_n dX7_mirrored_27 rfl ?_
    refine q_getf dX7_mirrored_28 fl_X7_19 (q_blk_get (j := 0) rfl) rfl ?_
    refine q_bipush dX7_mirrored_31 (v := 32) (by decide) ?_
    refine q_iload_n dX7_mirrored_33 rfl ?_
    refine q_imul dX7_mirrored_34 ?_
    refine q_aload_n dX7_mirrored_35 rfl ?_
    refine q_getf dX7_mirrored_36 fl_X7_16 (q_blk_get (j := 0) rfl) rfl ?_
    refine q_iload_n dX7_mirrored_39 rfl ?_
    refine q_ialdN dX7_mirrored_40 (q_blk_get (j := 3) rfl) (k := j) rfl (by omega) (by decide) ?_
    refine q_iadd dX7_mirrored_41 ?_
    refine q_iconst dX7_mirrored_42 (v := 1) (by decide) ?_
    refine q_isub dX7_mirrored_43 ?_
    refine q_iload_n dX7_mirrored_44 rfl ?_
    refine q_isub dX7_mirrored_45 ?_
    refine q_ialdN dX7_mirrored_46 (q_blk_get (j := 4) rfl) (k := 32 * j + (c - 1 - i)) (by rw [htc]; exact m_ixr (by omega)) (by omega) (by decide) ?_
    refine q_istore dX7_mirrored_47 (q_le rfl) ?_
    refine q_iload_n dX7_mirrored_49 rfl ?_
    refine q_iload dX7_mirrored_50 rfl ?_
    refine q_iload dX7_mirrored_52 rfl ?_
    refine q_icmp_ne (tgt := 61) dX7_mirrored_54 (by decide) (fun c_54 => ?_) (fun c_54 => ?_)
    · refine q_iconst dX7_mirrored_61 (v := 0) (by decide) ?_
      refine q_iload dX7_mirrored_62 rfl ?_
      refine q_iload dX7_mirrored_64 rfl ?_
      refine q_ineg dX7_mirrored_66 ?_
      refine q_icmp_ne (tgt := 74) dX7_mirrored_67 (by decide) (fun c_67 => ?_) (fun c_67 => ?_)
      · refine q_iconst dX7_mirrored_74 (v := 0) (by decide) ?_
        refine q_ior dX7_mirrored_75 ?_
        refine q_iand dX7_mirrored_76 ?_
        refine q_istore_n dX7_mirrored_77 (q_le rfl) ?_
        refine q_iinc dX7_mirrored_78 rfl (v := nI (i + 1)) (nI_1 i) ?_
        refine q_goto (tgt := 4) dX7_mirrored_81 (by decide) ?_
        exact q_lo [(0, .ref o), (1, .int (nI j)), (2, .int (m_mir ta j c (i + 1))), (3, .int (nI (i + 1)))] ⟨rfl, rfl, (by rw [show m_mir ta j c (i + 1) = m_mir ta j c i &&& (0 ||| 0) from by rw [m_mir_s, if_neg c_54, if_neg c_67]]; rfl), rfl, trivial⟩ (ih (i + 1) (by omega))
      · refine q_iconst dX7_mirrored_70 (v := 2) (by decide) ?_
        refine q_goto (tgt := 75) dX7_mirrored_71 (by decide) ?_
        refine q_ior dX7_mirrored_75 ?_
        refine q_iand dX7_mirrored_76 ?_
        refine q_istore_n dX7_mirrored_77 (q_le rfl) ?_
        refine q_iinc dX7_mirrored_78 rfl (v := nI (i + 1)) (nI_1 i) ?_
        refine q_goto (tgt := 4) dX7_mirrored_81 (by decide) ?_
        exact q_lo [(0, .ref o), (1, .int (nI j)), (2, .int (m_mir ta j c (i + 1))), (3, .int (nI (i + 1)))] ⟨rfl, rfl, (by rw [show m_mir ta j c (i + 1) = m_mir ta j c i &&& (0 ||| 2) from by rw [m_mir_s, if_neg c_54, if_pos c_67]]; rfl), rfl, trivial⟩ (ih (i + 1) (by omega))
    · refine q_iconst dX7_mirrored_57 (v := 1) (by decide) ?_
      refine q_goto (tgt := 62) dX7_mirrored_58 (by decide) ?_
      refine q_iload dX7_mirrored_62 rfl ?_
      refine q_iload dX7_mirrored_64 rfl ?_
      refine q_ineg dX7_mirrored_66 ?_
      refine q_icmp_ne (tgt := 74) dX7_mirrored_67 (by decide) (fun c_67 => ?_) (fun c_67 => ?_)
      · refine q_iconst dX7_mirrored_74 (v := 0) (by decide) ?_
        refine q_ior dX7_mirrored_75 ?_
        refine q_iand dX7_mirrored_76 ?_
        refine q_istore_n dX7_mirrored_77 (q_le rfl) ?_
        refine q_iinc dX7_mirrored_78 rfl (v := nI (i + 1)) (nI_1 i) ?_
        refine q_goto (tgt := 4) dX7_mirrored_81 (by decide) ?_
        exact q_lo [(0, .ref o), (1, .int (nI j)), (2, .int (m_mir ta j c (i + 1))), (3, .int (nI (i + 1)))] ⟨rfl, rfl, (by rw [show m_mir ta j c (i + 1) = m_mir ta j c i &&& (1 ||| 0) from by rw [m_mir_s, if_pos c_54, if_neg c_67]]; rfl), rfl, trivial⟩ (ih (i + 1) (by omega))
      · refine q_iconst dX7_mirrored_70 (v := 2) (by decide) ?_
        refine q_goto (tgt := 75) dX7_mirrored_71 (by decide) ?_
        refine q_ior dX7_mirrored_75 ?_
        refine q_iand dX7_mirrored_76 ?_
        refine q_istore_n dX7_mirrored_77 (q_le rfl) ?_
        refine q_iinc dX7_mirrored_78 rfl (v := nI (i + 1)) (nI_1 i) ?_
        refine q_goto (tgt := 4) dX7_mirrored_81 (by decide) ?_
        exact q_lo [(0, .ref o), (1, .int (nI j)), (2, .int (m_mir ta j c (i + 1))), (3, .int (nI (i + 1)))] ⟨rfl, rfl, (by rw [show m_mir ta j c (i + 1) = m_mir ta j c i &&& (1 ||| 2) from by rw [m_mir_s, if_pos c_54, if_pos c_67]]; rfl), rfl, trivial⟩ (ih (i + 1) (by omega))

set_option maxHeartbeats 4000000 in
set_option maxRecDepth 100000 in
theorem m_mirrored {f : q_Hp} {n o cnt cl tn : Nat} {lost : Int32} {be by_ tc ta wa wr pl bi wo sh fa ca ph : Nat → Int32} {cm km gr : Nat → Int64} {kp : Nat → Int32} {su ro : Nat → Int64} {ou : Nat → Int32} {ex sz : Nat → Int64} {ww ch tp ir ow : Nat → Int32} {j c : Nat} (hcnt : cnt ≤ 8) (hj : j < cnt) (hc : c ≤ 32) (htc : tc j = nI c) : Sp yX7_mirrored uX7_mirrored [.ref o, .int (nI j)] n (q_blk f o (mE o cnt cl tn lost be by_ tc ta wa wr pl bi wo sh fa ca ph cm km gr kp su ro ou ex sz ww ch tp ir ow)) (some (.int (m_mir ta j c c)), n, (q_blk f o (mE o cnt cl tn lost be by_ tc ta wa wr pl bi wo sh fa ca ph cm km gr kp su ro ou ex sz ww ch tp ir ow))) := by
  refine Sp.ofF (by decide +kernel) rfl rfl (q_le rfl) ?_
  intro G d
  refine q_iconst dX7_mirrored_0 (v := 3) (by decide) ?_
  refine q_istore_n dX7_mirrored_1 (q_le rfl) ?_
  refine q_iconst dX7_mirrored_2 (v := 0) (by decide) ?_
  refine q_istore_n dX7_mirrored_3 (q_le rfl) ?_
  refine q_lo [(0, .ref o), (1, .int (nI j)), (2, .int (m_mir ta j c 0)), (3, .int (nI 0))] ⟨rfl, rfl, rfl, rfl, trivial⟩ (lp_m_mir hcnt hj hc htc ?_ c 0 (by omega))
  refine q_iload_n dX7_mirrored_84 rfl ?_
  exact q_iret dX7_mirrored_85 rfl (rfl) (q_le rfl) (q_le rfl)

def m_about (cnt cl : Nat) (be by_ tc ta wa wr pl bi wo sh ch : Nat → Int32) (j c : Nat) (v : Int32) : Int32 :=
  if v = 0 then tc j else if v = 1 then be j else if v = 2 then by_ j else if v = 3 then wa j else if v = 4 then (if wr j = 0 then 0 else 1) else if v = 5 then (if pl j = 0 then -1 else sh j) else if v = 6 then (if pl j = 0 then -1 else bi j) else if v = 7 then (if pl j = 0 then -1 else wo j) else if v = 8 then (m_fd ch (nI j) cl 0).elim (-1) nI else m_mir ta j c c
set_option maxHeartbeats 4000000 in
set_option maxRecDepth 100000 in
theorem m_aboutOf {f : q_Hp} {n o cnt cl tn : Nat} {lost : Int32} {be by_ tc ta wa wr pl bi wo sh fa ca ph : Nat → Int32} {cm km gr : Nat → Int64} {kp : Nat → Int32} {su ro : Nat → Int64} {ou : Nat → Int32} {ex sz : Nat → Int64} {ww ch tp ir ow : Nat → Int32} {j c : Nat} {v : Int32} (hcnt : cnt ≤ 8) (hj : j < cnt) (hc : c ≤ 32) (htc : tc j = nI c) (hcl : cl ≤ 8) : Sp yX7_aboutOf uX7_aboutOf [.ref o, .int (nI j), .int v] n (q_blk f o (mE o cnt cl tn lost be by_ tc ta wa wr pl bi wo sh fa ca ph cm km gr kp su ro ou ex sz ww ch tp ir ow)) (some (.int (m_about cnt cl be by_ tc ta wa wr pl bi wo sh ch j c v)), n, (q_blk f o (mE o cnt cl tn lost be by_ tc ta wa wr pl bi wo sh fa ca ph cm km gr kp su ro ou ex sz ww ch tp ir ow))) := by
  refine Sp.ofF (by decide +kernel) rfl rfl (q_le rfl) ?_
  intro G d
  refine q_iload_n dX7_aboutOf_0 rfl ?_
  by_cases s_1_0 : v = 0
  · refine q_tblIn (off := 51) (tgt := 52) dX7_aboutOf_1 (by rw [s_1_0]; decide) (by rw [s_1_0]; decide) (by rw [s_1_0]; rfl) (by decide) ?_
    refine q_aload_n dX7_aboutOf_52 rfl ?_
    refine q_getf dX7_aboutOf_53 fl_X7_16 (q_blk_get (j := 0) rfl) rfl ?_
    refine q_iload_n dX7_aboutOf_56 rfl ?_
    refine q_ialdN dX7_aboutOf_57 (q_blk_get (j := 3) rfl) (k := j) rfl (by omega) (by decide) ?_
    exact q_iret dX7_aboutOf_58 rfl (by unfold m_about; rw [if_pos s_1_0] <;> rfl) (q_le rfl) (q_le rfl)
  by_cases s_1_1 : v = 1
  · refine q_tblIn (off := 58) (tgt := 59) dX7_aboutOf_1 (by rw [s_1_1]; decide) (by rw [s_1_1]; decide) (by rw [s_1_1]; rfl) (by decide) ?_
    refine q_aload_n dX7_aboutOf_59 rfl ?_
    refine q_getf dX7_aboutOf_60 fl_X7_7 (q_blk_get (j := 0) rfl) rfl ?_
    refine q_iload_n dX7_aboutOf_63 rfl ?_
    refine q_ialdN dX7_aboutOf_64 (q_blk_get (j := 1) rfl) (k := j) rfl (by omega) (by decide) ?_
    exact q_iret dX7_aboutOf_65 rfl (by unfold m_about; rw [if_neg s_1_0, if_pos s_1_1] <;> rfl) (q_le rfl) (q_le rfl)
  by_cases s_1_2 : v = 2
  · refine q_tblIn (off := 65) (tgt := 66) dX7_aboutOf_1 (by rw [s_1_2]; decide) (by rw [s_1_2]; decide) (by rw [s_1_2]; rfl) (by decide) ?_
    refine q_aload_n dX7_aboutOf_66 rfl ?_
    refine q_getf dX7_aboutOf_67 fl_X7_13 (q_blk_get (j := 0) rfl) rfl ?_
    refine q_iload_n dX7_aboutOf_70 rfl ?_
    refine q_ialdN dX7_aboutOf_71 (q_blk_get (j := 2) rfl) (k := j) rfl (by omega) (by decide) ?_
    exact q_iret dX7_aboutOf_72 rfl (by unfold m_about; rw [if_neg s_1_0, if_neg s_1_1, if_pos s_1_2] <;> rfl) (q_le rfl) (q_le rfl)
  by_cases s_1_3 : v = 3
  · refine q_tblIn (off := 72) (tgt := 73) dX7_aboutOf_1 (by rw [s_1_3]; decide) (by rw [s_1_3]; decide) (by rw [s_1_3]; rfl) (by decide) ?_
    refine q_aload_n dX7_aboutOf_73 rfl ?_
    refine q_getf dX7_aboutOf_74 fl_X7_22 (q_blk_get (j := 0) rfl) rfl ?_
    refine q_iload_n dX7_aboutOf_77 rfl ?_
    refine q_ialdN dX7_aboutOf_78 (q_blk_get (j := 5) rfl) (k := j) rfl (by omega) (by decide) ?_
    exact q_iret dX7_aboutOf_79 rfl (by unfold m_about; rw [if_neg s_1_0, if_neg s_1_1, if_neg s_1_2, if_pos s_1_3] <;> rfl) (q_le rfl) (q_le rfl)
  by_cases s_1_4 : v = 4
  · refine q_tblIn (off := 79) (tgt := 80) dX7_aboutOf_1 (by rw [s_1_4]; decide) (by rw [s_1_4]; decide) (by rw [s_1_4]; rfl) (by decide) ?_
    refine q_aload_n dX7_aboutOf_80 rfl ?_
    refine q_getf dX7_aboutOf_81 fl_X7_25 (q_blk_get (j := 0) rfl) rfl ?_
    refine q_iload_n dX7_aboutOf_84 rfl ?_
    refine q_zaldN dX7_aboutOf_85 (q_blk_get (j := 6) rfl) (k := j) rfl (by omega) (by decide) ?_
    refine q_if_eq (tgt := 93) dX7_aboutOf_86 (by decide) (fun c_86 => ?_) (fun c_86 => ?_)
    · refine q_iconst dX7_aboutOf_93 (v := 0) (by decide) ?_
      exact q_iret dX7_aboutOf_94 rfl (by unfold m_about; rw [if_neg s_1_0, if_neg s_1_1, if_neg s_1_2, if_neg s_1_3, if_pos s_1_4, if_pos c_86] <;> rfl) (q_le rfl) (q_le rfl)
    · refine q_iconst dX7_aboutOf_89 (v := 1) (by decide) ?_
      refine q_goto (tgt := 94) dX7_aboutOf_90 (by decide) ?_
      exact q_iret dX7_aboutOf_94 rfl (by unfold m_about; rw [if_neg s_1_0, if_neg s_1_1, if_neg s_1_2, if_neg s_1_3, if_pos s_1_4, if_neg c_86] <;> rfl) (q_le rfl) (q_le rfl)
  by_cases s_1_5 : v = 5
  · refine q_tblIn (off := 94) (tgt := 95) dX7_aboutOf_1 (by rw [s_1_5]; decide) (by rw [s_1_5]; decide) (by rw [s_1_5]; rfl) (by decide) ?_
    refine q_aload_n dX7_aboutOf_95 rfl ?_
    refine q_getf dX7_aboutOf_96 fl_X7_29 (q_blk_get (j := 0) rfl) rfl ?_
    refine q_iload_n dX7_aboutOf_99 rfl ?_
    refine q_zaldN dX7_aboutOf_100 (q_blk_get (j := 7) rfl) (k := j) rfl (by omega) (by decide) ?_
    refine q_if_eq (tgt := 113) dX7_aboutOf_101 (by decide) (fun c_101 => ?_) (fun c_101 => ?_)
    · refine q_iconst dX7_aboutOf_113 (v := (-1)) (by decide) ?_
      exact q_iret dX7_aboutOf_114 rfl (by unfold m_about; rw [if_neg s_1_0, if_neg s_1_1, if_neg s_1_2, if_neg s_1_3, if_neg s_1_4, if_pos s_1_5, if_pos c_101] <;> rfl) (q_le rfl) (q_le rfl)
    · refine q_aload_n dX7_aboutOf_104 rfl ?_
      refine q_getf dX7_aboutOf_105 fl_X7_38 (q_blk_get (j := 0) rfl) rfl ?_
      refine q_iload_n dX7_aboutOf_108 rfl ?_
      refine q_ialdN dX7_aboutOf_109 (q_blk_get (j := 10) rfl) (k := j) rfl (by omega) (by decide) ?_
      refine q_goto (tgt := 114) dX7_aboutOf_110 (by decide) ?_
      exact q_iret dX7_aboutOf_114 rfl (by unfold m_about; rw [if_neg s_1_0, if_neg s_1_1, if_neg s_1_2, if_neg s_1_3, if_neg s_1_4, if_pos s_1_5, if_neg c_101] <;> rfl) (q_le rfl) (q_le rfl)
  by_cases s_1_6 : v = 6
  · refine q_tblIn (off := 114) (tgt := 115) dX7_aboutOf_1 (by rw [s_1_6]; decide) (by rw [s_1_6]; decide) (by rw [s_1_6]; rfl) (by decide) ?_
    refine q_aload_n dX7_aboutOf_115 rfl ?_
    refine q_getf dX7_aboutOf_116 fl_X7_29 (q_blk_get (j := 0) rfl) rfl ?_
    refine q_iload_n dX7_aboutOf_119 rfl ?_
    refine q_zaldN dX7_aboutOf_120 (q_blk_get (j := 7) rfl) (k := j) rfl (by omega) (by decide) ?_
    refine q_if_eq (tgt := 133) dX7_aboutOf_121 (by decide) (fun c_121 => ?_) (fun c_121 => ?_)
    · refine q_iconst dX7_aboutOf_133 (v := (-1)) (by decide) ?_
      exact q_iret dX7_aboutOf_134 rfl (by unfold m_about; rw [if_neg s_1_0, if_neg s_1_1, if_neg s_1_2, if_neg s_1_3, if_neg s_1_4, if_neg s_1_5, if_pos s_1_6, if_pos c_121] <;> rfl) (q_le rfl) (q_le rfl)
    · refine q_aload_n dX7_aboutOf_124 rfl ?_
      refine q_getf dX7_aboutOf_125 fl_X7_32 (q_blk_get (j := 0) rfl) rfl ?_
      refine q_iload_n dX7_aboutOf_128 rfl ?_
      refine q_ialdN dX7_aboutOf_129 (q_blk_get (j := 8) rfl) (k := j) rfl (by omega) (by decide) ?_
      refine q_goto (tgt := 134) dX7_aboutOf_130 (by decide) ?_
      exact q_iret dX7_aboutOf_134 rfl (by unfold m_about; rw [if_neg s_1_0, if_neg s_1_1, if_neg s_1_2, if_neg s_1_3, if_neg s_1_4, if_neg s_1_5, if_pos s_1_6, if_neg c_121] <;> rfl) (q_le rfl) (q_le rfl)
  by_cases s_1_7 : v = 7
  · refine q_tblIn (off := 134) (tgt := 135) dX7_aboutOf_1 (by rw [s_1_7]; decide) (by rw [s_1_7]; decide) (by rw [s_1_7]; rfl) (by decide) ?_
    refine q_aload_n dX7_aboutOf_135 rfl ?_
    refine q_getf dX7_aboutOf_136 fl_X7_29 (q_blk_get (j := 0) rfl) rfl ?_
    refine q_iload_n dX7_aboutOf_139 rfl ?_
    refine q_zaldN dX7_aboutOf_140 (q_blk_get (j := 7) rfl) (k := j) rfl (by omega) (by decide) ?_
    refine q_if_eq (tgt := 153) dX7_aboutOf_141 (by decide) (fun c_141 => ?_) (fun c_141 => ?_)
    · refine q_iconst dX7_aboutOf_153 (v := (-1)) (by decide) ?_
      exact q_iret dX7_aboutOf_154 rfl (by unfold m_about; rw [if_neg s_1_0, if_neg s_1_1, if_neg s_1_2, if_neg s_1_3, if_neg s_1_4, if_neg s_1_5, if_neg s_1_6, if_pos s_1_7, if_pos c_141] <;> rfl) (q_le rfl) (q_le rfl)
    · refine q_aload_n dX7_aboutOf_144 rfl ?_
      refine q_getf dX7_aboutOf_145 fl_X7_35 (q_blk_get (j := 0) rfl) rfl ?_
      refine q_iload_n dX7_aboutOf_148 rfl ?_
      refine q_ialdN dX7_aboutOf_149 (q_blk_get (j := 9) rfl) (k := j) rfl (by omega) (by decide) ?_
      refine q_goto (tgt := 154) dX7_aboutOf_150 (by decide) ?_
      exact q_iret dX7_aboutOf_154 rfl (by unfold m_about; rw [if_neg s_1_0, if_neg s_1_1, if_neg s_1_2, if_neg s_1_3, if_neg s_1_4, if_neg s_1_5, if_neg s_1_6, if_pos s_1_7, if_neg c_141] <;> rfl) (q_le rfl) (q_le rfl)
  by_cases s_1_8 : v = 8
  · refine q_tblIn (off := 154) (tgt := 155) dX7_aboutOf_1 (by rw [s_1_8]; decide) (by rw [s_1_8]; decide) (by rw [s_1_8]; rfl) (by decide) ?_
    refine q_aload_n dX7_aboutOf_155 rfl ?_
    refine q_iload_n dX7_aboutOf_156 rfl ?_
    refine q_cW (m_placeOf hcnt hcl) dX7_aboutOf_157 kl_X7_112 rfl (q_blk_get (j := 0) rfl) rfl ⟨q_le rfl, q_le rfl⟩ (q_le rfl) (q_le rfl) (q_le rfl) ?_
    exact q_iret dX7_aboutOf_160 rfl (by unfold m_about; rw [if_neg s_1_0, if_neg s_1_1, if_neg s_1_2, if_neg s_1_3, if_neg s_1_4, if_neg s_1_5, if_neg s_1_6, if_neg s_1_7, if_pos s_1_8] <;> rfl) (q_le rfl) (q_le rfl)
  have is_1_0 := q_ne s_1_0 (i := 0) (by decide)
  have is_1_1 := q_ne s_1_1 (i := 1) (by decide)
  have is_1_2 := q_ne s_1_2 (i := 2) (by decide)
  have is_1_3 := q_ne s_1_3 (i := 3) (by decide)
  have is_1_4 := q_ne s_1_4 (i := 4) (by decide)
  have is_1_5 := q_ne s_1_5 (i := 5) (by decide)
  have is_1_6 := q_ne s_1_6 (i := 6) (by decide)
  have is_1_7 := q_ne s_1_7 (i := 7) (by decide)
  have is_1_8 := q_ne s_1_8 (i := 8) (by decide)
  refine q_tblOut (tgt := 161) dX7_aboutOf_1 (by omega) (by decide) ?_
  refine q_aload_n dX7_aboutOf_161 rfl ?_
  refine q_iload_n dX7_aboutOf_162 rfl ?_
  refine q_cW (m_mirrored hcnt hj hc htc) dX7_aboutOf_163 kl_X7_174 rfl (q_blk_get (j := 0) rfl) rfl ⟨q_le rfl, q_le rfl⟩ (q_le rfl) (q_le rfl) (q_le rfl) ?_
  exact q_iret dX7_aboutOf_166 rfl (by unfold m_about; rw [if_neg s_1_0, if_neg s_1_1, if_neg s_1_2, if_neg s_1_3, if_neg s_1_4, if_neg s_1_5, if_neg s_1_6, if_neg s_1_7, if_neg s_1_8] <;> rfl) (q_le rfl) (q_le rfl)

set_option maxHeartbeats 4000000 in
set_option maxRecDepth 100000 in
theorem m_about_bad {f : q_Hp} {n o cnt cl tn : Nat} {lost : Int32} {be by_ tc ta wa wr pl bi wo sh fa ca ph : Nat → Int32} {cm km gr : Nat → Int64} {kp : Nat → Int32} {su ro : Nat → Int64} {ou : Nat → Int32} {ex sz : Nat → Int64} {ww ch tp ir ow : Nat → Int32} {k v : Int32} (hcnt : cnt ≤ 8) (hk : k < 0 ∨ nI cnt ≤ k) : Sp yX7_about uX7_about [.ref o, .int k, .int v] n (q_blk f o (mE o cnt cl tn lost be by_ tc ta wa wr pl bi wo sh fa ca ph cm km gr kp su ro ou ex sz ww ch tp ir ow)) (some (.int (-2)), n, (q_blk f o (mE o cnt cl tn lost be by_ tc ta wa wr pl bi wo sh fa ca ph cm km gr kp su ro ou ex sz ww ch tp ir ow))) := by
  refine Sp.ofF (by decide +kernel) rfl rfl (q_le rfl) ?_
  intro G d
  refine q_aload_n dX7_about_0 rfl ?_
  refine q_iload_n dX7_about_1 rfl ?_
  refine q_cW (c_isS_no hcnt hk) dX7_about_2 kl_X7_118 rfl (q_blk_get (j := 0) rfl) rfl ⟨q_le rfl, q_le rfl⟩ (q_le rfl) (q_le rfl) (q_le rfl) ?_
  refine q_ifeq_b (tgt := 29) dX7_about_5 (by decide) (fun c_5 => ?_) (fun h_n => absurd (h_n.symm.trans (rfl)) (by decide))
  refine q_bipush dX7_about_29 (v := (-2)) (by decide) ?_
  exact q_iret dX7_about_31 rfl (rfl) (q_le rfl) (q_le rfl)

set_option maxHeartbeats 4000000 in
set_option maxRecDepth 100000 in
theorem m_about_rng {f : q_Hp} {n o cnt cl tn : Nat} {lost : Int32} {be by_ tc ta wa wr pl bi wo sh fa ca ph : Nat → Int32} {cm km gr : Nat → Int64} {kp : Nat → Int32} {su ro : Nat → Int64} {ou : Nat → Int32} {ex sz : Nat → Int64} {ww ch tp ir ow : Nat → Int32} {j : Nat} {v : Int32} (hcnt : cnt ≤ 8) (hj : j < cnt) (hx : x_in v 0 9 = false) : Sp yX7_about uX7_about [.ref o, .int (nI j), .int v] n (q_blk f o (mE o cnt cl tn lost be by_ tc ta wa wr pl bi wo sh fa ca ph cm km gr kp su ro ou ex sz ww ch tp ir ow)) (some (.int (-2)), n, (q_blk f o (mE o cnt cl tn lost be by_ tc ta wa wr pl bi wo sh fa ca ph cm km gr kp su ro ou ex sz ww ch tp ir ow))) := by
  refine Sp.ofF (by decide +kernel) rfl rfl (q_le rfl) ?_
  intro G d
  refine q_aload_n dX7_about_0 rfl ?_
  refine q_iload_n dX7_about_1 rfl ?_
  refine q_cW (c_isS_ok hcnt hj) dX7_about_2 kl_X7_118 rfl (q_blk_get (j := 0) rfl) rfl ⟨q_le rfl, q_le rfl⟩ (q_le rfl) (q_le rfl) (q_le rfl) ?_
  refine q_ifeq_b (tgt := 29) dX7_about_5 (by decide) (fun h_n => absurd (h_n.symm.trans (rfl)) (by decide)) (fun c_5 => ?_)
  refine q_iload_n dX7_about_8 rfl ?_
  refine q_i2l dX7_about_9 ?_
  refine q_lconst dX7_about_10 (v := 0) (by decide) ?_
  refine q_ldc2 dX7_about_11 cn_X7_177 ?_
  refine q_cS (c_in_x 0 9 rfl rfl) dX7_about_14 kl_X7_97 rfl ⟨q_le rfl, q_le rfl⟩ (q_le rfl) (q_le rfl) (q_le rfl) ?_
  refine q_ifeq_b (tgt := 29) dX7_about_17 (by decide) (fun c_17 => ?_) (fun h_n => absurd (h_n.symm.trans (hx)) (by decide))
  refine q_bipush dX7_about_29 (v := (-2)) (by decide) ?_
  exact q_iret dX7_about_31 rfl (rfl) (q_le rfl) (q_le rfl)

set_option maxHeartbeats 4000000 in
set_option maxRecDepth 100000 in
theorem m_about_ok {f : q_Hp} {n o cnt cl tn : Nat} {lost : Int32} {be by_ tc ta wa wr pl bi wo sh fa ca ph : Nat → Int32} {cm km gr : Nat → Int64} {kp : Nat → Int32} {su ro : Nat → Int64} {ou : Nat → Int32} {ex sz : Nat → Int64} {ww ch tp ir ow : Nat → Int32} {j c : Nat} {v : Int32} (hcnt : cnt ≤ 8) (hj : j < cnt) (hc : c ≤ 32) (htc : tc j = nI c) (hcl : cl ≤ 8) (hx : x_in v 0 9 = true) : Sp yX7_about uX7_about [.ref o, .int (nI j), .int v] n (q_blk f o (mE o cnt cl tn lost be by_ tc ta wa wr pl bi wo sh fa ca ph cm km gr kp su ro ou ex sz ww ch tp ir ow)) (some (.int (m_about cnt cl be by_ tc ta wa wr pl bi wo sh ch j c v)), n, (q_blk f o (mE o cnt cl tn lost be by_ tc ta wa wr pl bi wo sh fa ca ph cm km gr kp su ro ou ex sz ww ch tp ir ow))) := by
  refine Sp.ofF (by decide +kernel) rfl rfl (q_le rfl) ?_
  intro G d
  refine q_aload_n dX7_about_0 rfl ?_
  refine q_iload_n dX7_about_1 rfl ?_
  refine q_cW (c_isS_ok hcnt hj) dX7_about_2 kl_X7_118 rfl (q_blk_get (j := 0) rfl) rfl ⟨q_le rfl, q_le rfl⟩ (q_le rfl) (q_le rfl) (q_le rfl) ?_
  refine q_ifeq_b (tgt := 29) dX7_about_5 (by decide) (fun h_n => absurd (h_n.symm.trans (rfl)) (by decide)) (fun c_5 => ?_)
  refine q_iload_n dX7_about_8 rfl ?_
  refine q_i2l dX7_about_9 ?_
  refine q_lconst dX7_about_10 (v := 0) (by decide) ?_
  refine q_ldc2 dX7_about_11 cn_X7_177 ?_
  refine q_cS (c_in_x 0 9 rfl rfl) dX7_about_14 kl_X7_97 rfl ⟨q_le rfl, q_le rfl⟩ (q_le rfl) (q_le rfl) (q_le rfl) ?_
  refine q_ifeq_b (tgt := 29) dX7_about_17 (by decide) (fun h_n => absurd (h_n.symm.trans (hx)) (by decide)) (fun c_17 => ?_)
  refine q_aload_n dX7_about_20 rfl ?_
  refine q_iload_n dX7_about_21 rfl ?_
  refine q_iload_n dX7_about_22 rfl ?_
  refine q_cW (m_aboutOf hcnt hj hc htc hcl) dX7_about_23 kl_X7_179 rfl (q_blk_get (j := 0) rfl) rfl ⟨q_le rfl, q_le rfl⟩ (q_le rfl) (q_le rfl) (q_le rfl) ?_
  refine q_goto (tgt := 31) dX7_about_26 (by decide) ?_
  exact q_iret dX7_about_31 rfl (rfl) (q_le rfl) (q_le rfl)

def m_nrm (fa : Nat → Int32) (j : Nat) : Nat → Int64
  | 0 => 0
  | t + 1 => m_nrm fa j t + m_abs (fa (32 * j + t)).toInt64
set_option maxHeartbeats 4000000 in
set_option maxRecDepth 100000 in
theorem lp_m_nrm {G : q_G} {d : q_D} {z : q_Z} {f : q_Hp} {n o cnt cl tn : Nat} {lost : Int32} {be by_ tc ta wa wr pl bi wo sh fa ca ph : Nat → Int32} {cm km gr : Nat → Int64} {kp : Nat → Int32} {su ro : Nat → Int64} {ou : Nat → Int32} {ex sz : Nat → Int64} {ww ch tp ir ow : Nat → Int32} {j c : Nat} (hcnt : cnt ≤ 8) (hj : j < cnt) (hc : c ≤ 32) (htc : tc j = nI c) (hx : J G d uX7_normOf z 0 0 n 41 (q_l [(2, .long (m_nrm fa j c))]) [] (q_blk f o (mE o cnt cl tn lost be by_ tc ta wa wr pl bi wo sh fa ca ph cm km gr kp su ro ou ex sz ww ch tp ir ow))) : ∀ (k i : Nat), i + k = c → J G d uX7_normOf z 0 0 n 5 (q_l [(0, .ref o), (1, .int (nI j)), (2, .long (m_nrm fa j i)), (4, .int (nI i))]) [] (q_blk f o (mE o cnt cl tn lost be by_ tc ta wa wr pl bi wo sh fa ca ph cm km gr kp su ro ou ex sz ww ch tp ir ow)) := by
  intro k
  induction k with
  | zero =>
    intro i hi
    rw [show i = c by omega]
    refine q_iload dX7_normOf_5 rfl ?_
    refine q_aload_n dX7_normOf_7 rfl ?_
    refine q_getf dX7_normOf_8 fl_X7_16 (q_blk_get (j := 0) rfl) rfl ?_
    refine q_iload_n dX7_normOf_11 rfl ?_
    refine q_ialdN dX7_normOf_12 (q_blk_get (j := 3) rfl) (k := j) rfl (by omega) (by decide) ?_
    refine q_icmp_ge (tgt := 41) dX7_normOf_13 (by decide) (fun c_13 => ?_) (fun h_n => absurd ((by rw [htc]; exact Int32.le_refl _)) h_n)
    exact q_lo [(2, .long (m_nrm fa j c))] ⟨rfl, trivial⟩ hx
  | succ k ih =>
    intro i hi
    refine q_iload dX7_normOf_5 rfl ?_
    refine q_aload_n dX7_normOf_7 rfl ?_
    refine q_getf dX7_normOf_8 fl_X7_16 (q_blk_get (j := 0) rfl) rfl ?_
    refine q_iload_n dX7_normOf_11 rfl ?_
    refine q_ialdN dX7_normOf_12 (q_blk_get (j := 3) rfl) (k := j) rfl (by omega) (by decide) ?_
    refine q_icmp_ge (tgt := 41) dX7_normOf_13 (by decide) (fun h_n => absurd h_n ((by rw [htc]; exact nI_ge (by omega) (by omega)))) (fun c_13 => ?_)
    refine q_lload_n dX7_normOf_16 rfl ?_
    refine q_aload_n dX7_normOf_17 rfl ?_
    refine q_getf dX7_normOf_18 fl_X7_41 (q_blk_get (j := 0) rfl) rfl ?_
    refine q_bipush dX7_normOf_21 (v := 32) (by decide) ?_
    refine q_iload_n dX7_normOf_23 rfl ?_
    refine q_imul dX7_normOf_24 ?_
    refine q_iload dX7_normOf_25 rfl ?_
    refine q_iadd dX7_normOf_27 ?_
    refine q_ialdN dX7_normOf_28 (q_blk_get (j := 11) rfl) (k := 32 * j + i) (m_ix j i) (by omega) (by decide) ?_
    refine q_i2l dX7_normOf_29 ?_
    refine q_cS (c_X7_size) dX7_normOf_30 kl_X7_145 rfl ⟨q_le rfl, q_le rfl⟩ (q_le rfl) (q_le rfl) (q_le rfl) ?_
    refine q_ladd dX7_normOf_33 ?_
    refine q_lstore_n dX7_normOf_34 (q_le rfl) ?_
    refine q_iinc dX7_normOf_35 rfl (v := nI (i + 1)) (nI_1 i) ?_
    refine q_goto (tgt := 5) dX7_normOf_38 (by decide) ?_
    exact q_lo [(0, .ref o), (1, .int (nI j)), (2, .long (m_nrm fa j (i + 1))), (4, .int (nI (i + 1)))] ⟨rfl, rfl, rfl, rfl, trivial⟩ (ih (i + 1) (by omega))

set_option maxHeartbeats 4000000 in
set_option maxRecDepth 100000 in
theorem m_normOf {f : q_Hp} {n o cnt cl tn : Nat} {lost : Int32} {be by_ tc ta wa wr pl bi wo sh fa ca ph : Nat → Int32} {cm km gr : Nat → Int64} {kp : Nat → Int32} {su ro : Nat → Int64} {ou : Nat → Int32} {ex sz : Nat → Int64} {ww ch tp ir ow : Nat → Int32} {j c : Nat} (hcnt : cnt ≤ 8) (hj : j < cnt) (hc : c ≤ 32) (htc : tc j = nI c) : Sp yX7_normOf uX7_normOf [.ref o, .int (nI j)] n (q_blk f o (mE o cnt cl tn lost be by_ tc ta wa wr pl bi wo sh fa ca ph cm km gr kp su ro ou ex sz ww ch tp ir ow)) (some (.long (m_nrm fa j c)), n, (q_blk f o (mE o cnt cl tn lost be by_ tc ta wa wr pl bi wo sh fa ca ph cm km gr kp su ro ou ex sz ww ch tp ir ow))) := by
  refine Sp.ofF (by decide +kernel) rfl rfl (q_le rfl) ?_
  intro G d
  refine q_lconst dX7_normOf_0 (v := 0) (by decide) ?_
  refine q_lstore_n dX7_normOf_1 (q_le rfl) ?_
  refine q_iconst dX7_normOf_2 (v := 0) (by decide) ?_
  refine q_istore dX7_normOf_3 (q_le rfl) ?_
  refine q_lo [(0, .ref o), (1, .int (nI j)), (2, .long (m_nrm fa j 0)), (4, .int (nI 0))] ⟨rfl, rfl, rfl, rfl, trivial⟩ (lp_m_nrm hcnt hj hc htc ?_ c 0 (by omega))
  refine q_lload_n dX7_normOf_41 rfl ?_
  exact q_lret dX7_normOf_42 rfl (rfl) (q_le rfl) (q_le rfl)

set_option maxHeartbeats 4000000 in
set_option maxRecDepth 100000 in
theorem m_norm_bad {f : q_Hp} {n o cnt cl tn : Nat} {lost : Int32} {be by_ tc ta wa wr pl bi wo sh fa ca ph : Nat → Int32} {cm km gr : Nat → Int64} {kp : Nat → Int32} {su ro : Nat → Int64} {ou : Nat → Int32} {ex sz : Nat → Int64} {ww ch tp ir ow : Nat → Int32} {k : Int32} (hcnt : cnt ≤ 8) (hk : k < 0 ∨ nI cnt ≤ k) : Sp yX7_norm uX7_norm [.ref o, .int k] n (q_blk f o (mE o cnt cl tn lost be by_ tc ta wa wr pl bi wo sh fa ca ph cm km gr kp su ro ou ex sz ww ch tp ir ow)) (some (.long (-2)), n, (q_blk f o (mE o cnt cl tn lost be by_ tc ta wa wr pl bi wo sh fa ca ph cm km gr kp su ro ou ex sz ww ch tp ir ow))) := by
  refine Sp.ofF (by decide +kernel) rfl rfl (q_le rfl) ?_
  intro G d
  refine q_aload_n dX7_norm_0 rfl ?_
  refine q_iload_n dX7_norm_1 rfl ?_
  refine q_cW (c_isS_no hcnt hk) dX7_norm_2 kl_X7_118 rfl (q_blk_get (j := 0) rfl) rfl ⟨q_le rfl, q_le rfl⟩ (q_le rfl) (q_le rfl) (q_le rfl) ?_
  refine q_ifeq_b (tgt := 25) dX7_norm_5 (by decide) (fun c_5 => ?_) (fun h_n => absurd (h_n.symm.trans (rfl)) (by decide))
  refine q_ldc2 dX7_norm_25 cn_X7_107 ?_
  exact q_lret dX7_norm_28 rfl (rfl) (q_le rfl) (q_le rfl)

set_option maxHeartbeats 4000000 in
set_option maxRecDepth 100000 in
theorem m_norm_ok {f : q_Hp} {n o cnt cl tn : Nat} {lost : Int32} {be by_ tc ta wa wr pl bi wo sh fa ca ph : Nat → Int32} {cm km gr : Nat → Int64} {kp : Nat → Int32} {su ro : Nat → Int64} {ou : Nat → Int32} {ex sz : Nat → Int64} {ww ch tp ir ow : Nat → Int32} {j c : Nat} (hcnt : cnt ≤ 8) (hj : j < cnt) (hc : c ≤ 32) (htc : tc j = nI c) : Sp yX7_norm uX7_norm [.ref o, .int (nI j)] n (q_blk f o (mE o cnt cl tn lost be by_ tc ta wa wr pl bi wo sh fa ca ph cm km gr kp su ro ou ex sz ww ch tp ir ow)) (some (.long (if pl j = 0 then -2 else m_nrm fa j c)), n, (q_blk f o (mE o cnt cl tn lost be by_ tc ta wa wr pl bi wo sh fa ca ph cm km gr kp su ro ou ex sz ww ch tp ir ow))) := by
  refine Sp.ofF (by decide +kernel) rfl rfl (q_le rfl) ?_
  intro G d
  refine q_aload_n dX7_norm_0 rfl ?_
  refine q_iload_n dX7_norm_1 rfl ?_
  refine q_cW (c_isS_ok hcnt hj) dX7_norm_2 kl_X7_118 rfl (q_blk_get (j := 0) rfl) rfl ⟨q_le rfl, q_le rfl⟩ (q_le rfl) (q_le rfl) (q_le rfl) ?_
  refine q_ifeq_b (tgt := 25) dX7_norm_5 (by decide) (fun h_n => absurd (h_n.symm.trans (rfl)) (by decide)) (fun c_5 => ?_)
  refine q_aload_n dX7_norm_8 rfl ?_
  refine q_getf dX7_norm_9 fl_X7_29 (q_blk_get (j := 0) rfl) rfl ?_
  refine q_iload_n dX7_norm_12 rfl ?_
  refine q_zaldN dX7_norm_13 (q_blk_get (j := 7) rfl) (k := j) rfl (by omega) (by decide) ?_
  refine q_if_eq (tgt := 25) dX7_norm_14 (by decide) (fun c_14 => ?_) (fun c_14 => ?_)
  · refine q_ldc2 dX7_norm_25 cn_X7_107 ?_
    exact q_lret dX7_norm_28 rfl (by rw [if_pos c_14]) (q_le rfl) (q_le rfl)
  · refine q_aload_n dX7_norm_17 rfl ?_
    refine q_iload_n dX7_norm_18 rfl ?_
    refine q_cW (m_normOf hcnt hj hc htc) dX7_norm_19 kl_X7_183 rfl (q_blk_get (j := 0) rfl) rfl ⟨q_le rfl, q_le rfl⟩ (q_le rfl) (q_le rfl) (q_le rfl) ?_
    refine q_goto (tgt := 28) dX7_norm_22 (by decide) ?_
    exact q_lret dX7_norm_28 rfl (by rw [if_neg c_14]) (q_le rfl) (q_le rfl)

def m_dn : (Nat → Int32) → Nat → Nat → Nat → Int32
  | ca, _, 0 => ca
  | ca, j, k + 1 => m_dn (upd ca (32 * j + (k + 1)) (ca (32 * j + k))) j k
theorem m_ixp (j k : Nat) : (32 : Int32) * nI j + nI (k + 1) - 1 = nI (32 * j + k) := by
  rw [m_ix]
  exact nI_pred (32 * j + k)
def m_sum (ca fa : Nat → Int32) (j : Nat) : Nat → Int64
  | 0 => 0
  | t + 1 => m_sum ca fa j t + (ca (32 * j + t)).toInt64 * (fa (32 * j + t)).toInt64
def m_szs (ca : Nat → Int32) (j : Nat) : Nat → Int64
  | 0 => 0
  | t + 1 => m_szs ca j t + m_abs (ca (32 * j + t)).toInt64
def m_held (r : Int64) (wr : Int32) : Int32 := if wr = 0 then (if -32768 ≤ r then (if r ≤ 32767 then r.toInt32 else 32767) else -32768) else r.toInt32.toInt16.toInt32
set_option maxHeartbeats 4000000 in
set_option maxRecDepth 100000 in
theorem lp_m_dn {G : q_G} {d : q_D} {z : q_Z} {f : q_Hp} {n o cnt cl tn : Nat} {lost : Int32} {be by_ tc ta wa wr pl bi wo sh fa ph : Nat → Int32} {cm km gr : Nat → Int64} {kp : Nat → Int32} {su ro : Nat → Int64} {ou : Nat → Int32} {ex sz : Nat → Int64} {ww ch tp ir ow : Nat → Int32} {j : Nat} {x : Int32} (hcnt : cnt ≤ 8) (hj : j < cnt) : ∀ (k : Nat) (ca : Nat → Int32), k ≤ 31 → J G d uX7_comes z 0 0 n 37 (q_l [(0, .ref o), (1, .int (nI j)), (2, .int x)]) [] (q_blk f o (mE o cnt cl tn lost be by_ tc ta wa wr pl bi wo sh fa (m_dn ca j k) ph cm km gr kp su ro ou ex sz ww ch tp ir ow)) → J G d uX7_comes z 0 0 n 3 (q_l [(0, .ref o), (1, .int (nI j)), (2, .int x), (3, .int (nI k))]) [] (q_blk f o (mE o cnt cl tn lost be by_ tc ta wa wr pl bi wo sh fa ca ph cm km gr kp su ro ou ex sz ww ch tp ir ow)) := by
  intro k
  induction k with
  | zero =>
    intro ca hk hx
    refine q_iload_n dX7_comes_3 rfl ?_
    refine q_if_le (tgt := 37) dX7_comes_4 (by decide) (fun c_4 => ?_) (fun h_n => absurd ((by decide)) h_n)
    exact q_lo [(0, .ref o), (1, .int (nI j)), (2, .int x)] ⟨rfl, rfl, rfl, trivial⟩ hx
  | succ k ih =>
    intro ca hk hx
    refine q_iload_n dX7_comes_3 rfl ?_
    refine q_if_le (tgt := 37) dX7_comes_4 (by decide) (fun h_n => absurd h_n ((nI_nle (by omega) (by omega)))) (fun c_4 => ?_)
    refine q_aload_n dX7_comes_7 rfl ?_
    refine q_getf dX7_comes_8 fl_X7_44 (q_blk_get (j := 0) rfl) rfl ?_
    refine q_bipush dX7_comes_11 (v := 32) (by decide) ?_
    refine q_iload_n dX7_comes_13 rfl ?_
    refine q_imul dX7_comes_14 ?_
    refine q_iload_n dX7_comes_15 rfl ?_
    refine q_iadd dX7_comes_16 ?_
    refine q_aload_n dX7_comes_17 rfl ?_
    refine q_getf dX7_comes_18 fl_X7_44 (q_blk_get (j := 0) rfl) rfl ?_
    refine q_bipush dX7_comes_21 (v := 32) (by decide) ?_
    refine q_iload_n dX7_comes_23 rfl ?_
    refine q_imul dX7_comes_24 ?_
    refine q_iload_n dX7_comes_25 rfl ?_
    refine q_iadd dX7_comes_26 ?_
    refine q_iconst dX7_comes_27 (v := 1) (by decide) ?_
    refine q_isub dX7_comes_28 ?_
    refine q_ialdN dX7_comes_29 (q_blk_get (j := 12) rfl) (k := 32 * j + k) (m_ixp j k) (by omega) (by decide) ?_
    refine q_iastN dX7_comes_30 (q_blk_get (j := 12) rfl) (k := 32 * j + (k + 1)) (m_ix j (k + 1)) (by omega) (by decide) ?_
    refine q_heap (q_blk_up (j := 12) (q_le rfl)) ?_
    refine q_iinc dX7_comes_31 rfl (v := nI k) (pk_m1 k) ?_
    refine q_goto (tgt := 3) dX7_comes_34 (by decide) ?_
    exact q_lo [(0, .ref o), (1, .int (nI j)), (2, .int x), (3, .int (nI k))] ⟨rfl, rfl, rfl, rfl, trivial⟩ (ih _ (by omega) hx)

set_option maxHeartbeats 4000000 in
set_option maxRecDepth 100000 in
theorem lp_m_sum {G : q_G} {d : q_D} {z : q_Z} {f : q_Hp} {n o cnt cl tn : Nat} {lost : Int32} {be by_ tc ta wa wr pl bi wo sh fa ca ph : Nat → Int32} {cm km gr : Nat → Int64} {kp : Nat → Int32} {su ro : Nat → Int64} {ou : Nat → Int32} {ex sz : Nat → Int64} {ww ch tp ir ow : Nat → Int32} {j c : Nat} (hcnt : cnt ≤ 8) (hj : j < cnt) (hc : c ≤ 32) (htc : tc j = nI c) (hx : J G d uX7_comes z 0 0 n 140 (q_l [(0, .ref o), (1, .int (nI j)), (3, .long (m_sum ca fa j c)), (5, .long (m_sum ca ta j c)), (7, .long (m_szs ca j c))]) [] (q_blk f o (mE o cnt cl tn lost be by_ tc ta wa wr pl bi wo sh fa ca ph cm km gr kp su ro ou ex sz ww ch tp ir ow))) : ∀ (k i : Nat), i + k = c → J G d uX7_comes z 0 0 n 58 (q_l [(0, .ref o), (1, .int (nI j)), (3, .long (m_sum ca fa j i)), (5, .long (m_sum ca ta j i)), (7, .long (m_szs ca j i)), (9, .int (nI i))]) [] (q_blk f o (mE o cnt cl tn lost be by_ tc ta wa wr pl bi wo sh fa ca ph cm km gr kp su ro ou ex sz ww ch tp ir ow)) := by
  intro k
  induction k with
  | zero =>
    intro i hi
    rw [show i = c by omega]
    refine q_iload dX7_comes_58 rfl ?_
    refine q_aload_n dX7_comes_60 rfl ?_
    refine q_getf dX7_comes_61 fl_X7_16 (q_blk_get (j := 0) rfl) rfl ?_
    refine q_iload_n dX7_comes_64 rfl ?_
    refine q_ialdN dX7_comes_65 (q_blk_get (j := 3) rfl) (k := j) rfl (by omega) (by decide) ?_
    refine q_icmp_ge (tgt := 140) dX7_comes_66 (by decide) (fun c_66 => ?_) (fun h_n => absurd ((by rw [htc]; exact Int32.le_refl _)) h_n)
    exact q_lo [(0, .ref o), (1, .int (nI j)), (3, .long (m_sum ca fa j c)), (5, .long (m_sum ca ta j c)), (7, .long (m_szs ca j c))] ⟨rfl, rfl, rfl, rfl, rfl, trivial⟩ hx
  | succ k ih =>
    intro i hi
    refine q_iload dX7_comes_58 rfl ?_
    refine q_aload_n dX7_comes_60 rfl ?_
    refine q_getf dX7_comes_61 fl_X7_16 (q_blk_get (j := 0) rfl) rfl ?_
    refine q_iload_n dX7_comes_64 rfl ?_
    refine q_ialdN dX7_comes_65 (q_blk_get (j := 3) rfl) (k := j) rfl (by omega) (by decide) ?_
    refine q_icmp_ge (tgt := 140) dX7_comes_66 (by decide) (fun h_n => absurd h_n ((by rw [htc]; exact nI_ge (by omega) (by omega)))) (fun c_66 => ?_)
    refine q_aload_n dX7_comes_69 rfl ?_
    refine q_getf dX7_comes_70 fl_X7_44 (q_blk_get (j := 0) rfl) rfl ?_
    refine q_bipush dX7_comes_73 (v := 32) (by decide) ?_
    refine q_iload_n dX7_comes_75 rfl ?_
    refine q_imul dX7_comes_76 ?_
    refine q_iload dX7_comes_77 rfl ?_
    refine q_iadd dX7_comes_79 ?_
    refine q_ialdN dX7_comes_80 (q_blk_get (j := 12) rfl) (k := 32 * j + i) (m_ix j i) (by omega) (by decide) ?_
    refine q_i2l dX7_comes_81 ?_
    refine q_lstore dX7_comes_82 (q_le rfl) ?_
    refine q_lload_n dX7_comes_84 rfl ?_
    refine q_lload dX7_comes_85 rfl ?_
    refine q_aload_n dX7_comes_87 rfl ?_
    refine q_getf dX7_comes_88 fl_X7_41 (q_blk_get (j := 0) rfl) rfl ?_
    refine q_bipush dX7_comes_91 (v := 32) (by decide) ?_
    refine q_iload_n dX7_comes_93 rfl ?_
    refine q_imul dX7_comes_94 ?_
    refine q_iload dX7_comes_95 rfl ?_
    refine q_iadd dX7_comes_97 ?_
    refine q_ialdN dX7_comes_98 (q_blk_get (j := 11) rfl) (k := 32 * j + i) (m_ix j i) (by omega) (by decide) ?_
    refine q_i2l dX7_comes_99 ?_
    refine q_lmul dX7_comes_100 ?_
    refine q_ladd dX7_comes_101 ?_
    refine q_lstore_n dX7_comes_102 (q_le rfl) ?_
    refine q_lload dX7_comes_103 rfl ?_
    refine q_lload dX7_comes_105 rfl ?_
    refine q_aload_n dX7_comes_107 rfl ?_
    refine q_getf dX7_comes_108 fl_X7_19 (q_blk_get (j := 0) rfl) rfl ?_
    refine q_bipush dX7_comes_111 (v := 32) (by decide) ?_
    refine q_iload_n dX7_comes_113 rfl ?_
    refine q_imul dX7_comes_114 ?_
    refine q_iload dX7_comes_115 rfl ?_
    refine q_iadd dX7_comes_117 ?_
    refine q_ialdN dX7_comes_118 (q_blk_get (j := 4) rfl) (k := 32 * j + i) (m_ix j i) (by omega) (by decide) ?_
    refine q_i2l dX7_comes_119 ?_
    refine q_lmul dX7_comes_120 ?_
    refine q_ladd dX7_comes_121 ?_
    refine q_lstore dX7_comes_122 (q_le rfl) ?_
    refine q_lload dX7_comes_124 rfl ?_
    refine q_lload dX7_comes_126 rfl ?_
    refine q_cS (c_X7_size) dX7_comes_128 kl_X7_145 rfl ⟨q_le rfl, q_le rfl⟩ (q_le rfl) (q_le rfl) (q_le rfl) ?_
    refine q_ladd dX7_comes_131 ?_
    refine q_lstore dX7_comes_132 (q_le rfl) ?_
    refine q_iinc dX7_comes_134 rfl (v := nI (i + 1)) (nI_1 i) ?_
    refine q_goto (tgt := 58) dX7_comes_137 (by decide) ?_
    exact q_lo [(0, .ref o), (1, .int (nI j)), (3, .long (m_sum ca fa j (i + 1))), (5, .long (m_sum ca ta j (i + 1))), (7, .long (m_szs ca j (i + 1))), (9, .int (nI (i + 1)))] ⟨rfl, rfl, rfl, rfl, rfl, rfl, trivial⟩ (ih (i + 1) (by omega))

set_option maxHeartbeats 4000000 in
set_option maxRecDepth 100000 in
theorem lp_m_tail {G : q_G} {d : q_D} {f : q_Hp} {n o cnt cl tn : Nat} {lost : Int32} {be by_ tc ta wa wr pl bi wo sh fa ca ph : Nat → Int32} {cm km gr : Nat → Int64} {kp : Nat → Int32} {su ro : Nat → Int64} {ou : Nat → Int32} {ex sz : Nat → Int64} {ww ch tp ir ow : Nat → Int32} {j : Nat} {a b e r : Int64} {y : Int32} (hcnt : cnt ≤ 8) (hj : j < cnt) : J G d uX7_comes (some (.int y), n, q_blk f o (mE o cnt cl tn lost be by_ tc ta wa wr pl bi wo sh fa ca ph (vp_updL cm j (cm j + 1)) (vp_updL km j (km j + (if y.toInt64 = r then 0 else 1))) (vp_updL gr j (if m_abs a ≤ gr j then gr j else m_abs a)) (upd kp j 1) (vp_updL su j a) (vp_updL ro j r) (upd ou j y) (vp_updL ex j b) (vp_updL sz j e) (upd ww j (wa j)) ch tp ir ow)) 0 0 n 207 (q_l [(0, .ref o), (1, .int (nI j)), (3, .long a), (5, .long b), (7, .long e), (9, .long r)]) [.int y] (q_blk f o (mE o cnt cl tn lost be by_ tc ta wa wr pl bi wo sh fa ca ph cm km gr kp su ro ou ex sz ww ch tp ir ow)) := by
  refine q_istore dX7_comes_207 (q_le rfl) ?_
  refine q_aload_n dX7_comes_209 rfl ?_
  refine q_getf dX7_comes_210 fl_X7_60 (q_blk_get (j := 0) rfl) rfl ?_
  refine q_iload_n dX7_comes_213 rfl ?_
  refine q_iconst dX7_comes_214 (v := 1) (by decide) ?_
  refine q_zastN dX7_comes_215 (q_blk_get (j := 17) rfl) (k := j) rfl (by omega) (by decide) (by decide) ?_
  refine q_heap (q_blk_up (j := 17) (q_le rfl)) ?_
  refine q_aload_n dX7_comes_216 rfl ?_
  refine q_getf dX7_comes_217 fl_X7_63 (q_blk_get (j := 0) rfl) rfl ?_
  refine q_iload_n dX7_comes_220 rfl ?_
  refine q_lload_n dX7_comes_221 rfl ?_
  refine q_lastN dX7_comes_222 (q_blk_get (j := 18) rfl) (k := j) rfl (by omega) (by decide) ?_
  refine q_heap (q_blk_up (j := 18) (q_le rfl)) ?_
  refine q_aload_n dX7_comes_223 rfl ?_
  refine q_getf dX7_comes_224 fl_X7_66 (q_blk_get (j := 0) rfl) rfl ?_
  refine q_iload_n dX7_comes_227 rfl ?_
  refine q_lload dX7_comes_228 rfl ?_
  refine q_lastN dX7_comes_230 (q_blk_get (j := 19) rfl) (k := j) rfl (by omega) (by decide) ?_
  refine q_heap (q_blk_up (j := 19) (q_le rfl)) ?_
  refine q_aload_n dX7_comes_231 rfl ?_
  refine q_getf dX7_comes_232 fl_X7_69 (q_blk_get (j := 0) rfl) rfl ?_
  refine q_iload_n dX7_comes_235 rfl ?_
  refine q_iload dX7_comes_236 rfl ?_
  refine q_iastN dX7_comes_238 (q_blk_get (j := 20) rfl) (k := j) rfl (by omega) (by decide) ?_
  refine q_heap (q_blk_up (j := 20) (q_le rfl)) ?_
  refine q_aload_n dX7_comes_239 rfl ?_
  refine q_getf dX7_comes_240 fl_X7_72 (q_blk_get (j := 0) rfl) rfl ?_
  refine q_iload_n dX7_comes_243 rfl ?_
  refine q_lload dX7_comes_244 rfl ?_
  refine q_lastN dX7_comes_246 (q_blk_get (j := 21) rfl) (k := j) rfl (by omega) (by decide) ?_
  refine q_heap (q_blk_up (j := 21) (q_le rfl)) ?_
  refine q_aload_n dX7_comes_247 rfl ?_
  refine q_getf dX7_comes_248 fl_X7_75 (q_blk_get (j := 0) rfl) rfl ?_
  refine q_iload_n dX7_comes_251 rfl ?_
  refine q_lload dX7_comes_252 rfl ?_
  refine q_lastN dX7_comes_254 (q_blk_get (j := 22) rfl) (k := j) rfl (by omega) (by decide) ?_
  refine q_heap (q_blk_up (j := 22) (q_le rfl)) ?_
  refine q_aload_n dX7_comes_255 rfl ?_
  refine q_getf dX7_comes_256 fl_X7_78 (q_blk_get (j := 0) rfl) rfl ?_
  refine q_iload_n dX7_comes_259 rfl ?_
  refine q_aload_n dX7_comes_260 rfl ?_
  refine q_getf dX7_comes_261 fl_X7_22 (q_blk_get (j := 0) rfl) rfl ?_
  refine q_iload_n dX7_comes_264 rfl ?_
  refine q_ialdN dX7_comes_265 (q_blk_get (j := 5) rfl) (k := j) rfl (by omega) (by decide) ?_
  refine q_iastN dX7_comes_266 (q_blk_get (j := 23) rfl) (k := j) rfl (by omega) (by decide) ?_
  refine q_heap (q_blk_up (j := 23) (q_le rfl)) ?_
  refine q_aload_n dX7_comes_267 rfl ?_
  refine q_getf dX7_comes_268 fl_X7_50 (q_blk_get (j := 0) rfl) rfl ?_
  refine q_iload_n dX7_comes_271 rfl ?_
  refine q_dup2_11 dX7_comes_272 rfl rfl ?_
  refine q_laldN dX7_comes_273 (q_blk_get (j := 14) rfl) (k := j) rfl (by omega) (by decide) ?_
  refine q_lconst dX7_comes_274 (v := 1) (by decide) ?_
  refine q_ladd dX7_comes_275 ?_
  refine q_lastN dX7_comes_276 (q_blk_get (j := 14) rfl) (k := j) rfl (by omega) (by decide) ?_
  refine q_heap (q_blk_up (j := 14) (q_le rfl)) ?_
  refine q_aload_n dX7_comes_277 rfl ?_
  refine q_getf dX7_comes_278 fl_X7_54 (q_blk_get (j := 0) rfl) rfl ?_
  refine q_iload_n dX7_comes_281 rfl ?_
  refine q_dup2_11 dX7_comes_282 rfl rfl ?_
  refine q_laldN dX7_comes_283 (q_blk_get (j := 15) rfl) (k := j) rfl (by omega) (by decide) ?_
  refine q_iload dX7_comes_284 rfl ?_
  refine q_i2l dX7_comes_286 ?_
  refine q_lload dX7_comes_287 rfl ?_
  refine q_lcmp_ne (tgt := 297) dX7_comes_289 dX7_comes_290 (by decide) (fun c_289 => ?_) (fun c_289 => ?_)
  · refine q_lconst dX7_comes_297 (v := 1) (by decide) ?_
    refine q_ladd dX7_comes_298 ?_
    refine q_lastN dX7_comes_299 (q_blk_get (j := 15) rfl) (k := j) rfl (by omega) (by decide) ?_
    refine q_heap (q_blk_up (j := 15) (q_le rfl)) ?_
    refine q_aload_n dX7_comes_300 rfl ?_
    refine q_getf dX7_comes_301 fl_X7_57 (q_blk_get (j := 0) rfl) rfl ?_
    refine q_iload_n dX7_comes_304 rfl ?_
    refine q_lload_n dX7_comes_305 rfl ?_
    refine q_cS (c_X7_size) dX7_comes_306 kl_X7_145 rfl ⟨q_le rfl, q_le rfl⟩ (q_le rfl) (q_le rfl) (q_le rfl) ?_
    refine q_aload_n dX7_comes_309 rfl ?_
    refine q_getf dX7_comes_310 fl_X7_57 (q_blk_get (j := 0) rfl) rfl ?_
    refine q_iload_n dX7_comes_313 rfl ?_
    refine q_laldN dX7_comes_314 (q_blk_get (j := 16) rfl) (k := j) rfl (by omega) (by decide) ?_
    refine q_lcmp_le (tgt := 326) dX7_comes_315 dX7_comes_316 (by decide) (fun c_315 => ?_) (fun c_315 => ?_)
    · refine q_aload_n dX7_comes_326 rfl ?_
      refine q_getf dX7_comes_327 fl_X7_57 (q_blk_get (j := 0) rfl) rfl ?_
      refine q_iload_n dX7_comes_330 rfl ?_
      refine q_laldN dX7_comes_331 (q_blk_get (j := 16) rfl) (k := j) rfl (by omega) (by decide) ?_
      refine q_lastN dX7_comes_332 (q_blk_get (j := 16) rfl) (k := j) rfl (by omega) (by decide) ?_
      refine q_heap (q_blk_up (j := 16) (q_le rfl)) ?_
      refine q_iload dX7_comes_333 rfl ?_
      exact q_iret dX7_comes_335 rfl (by rw [if_neg c_289, if_pos c_315]; rfl) (q_le rfl) (q_le rfl)
    · refine q_lload_n dX7_comes_319 rfl ?_
      refine q_cS (c_X7_size) dX7_comes_320 kl_X7_145 rfl ⟨q_le rfl, q_le rfl⟩ (q_le rfl) (q_le rfl) (q_le rfl) ?_
      refine q_goto (tgt := 332) dX7_comes_323 (by decide) ?_
      refine q_lastN dX7_comes_332 (q_blk_get (j := 16) rfl) (k := j) rfl (by omega) (by decide) ?_
      refine q_heap (q_blk_up (j := 16) (q_le rfl)) ?_
      refine q_iload dX7_comes_333 rfl ?_
      exact q_iret dX7_comes_335 rfl (by rw [if_neg c_289, if_neg c_315]; rfl) (q_le rfl) (q_le rfl)
  · refine q_lconst dX7_comes_293 (v := 0) (by decide) ?_
    refine q_goto (tgt := 298) dX7_comes_294 (by decide) ?_
    refine q_ladd dX7_comes_298 ?_
    refine q_lastN dX7_comes_299 (q_blk_get (j := 15) rfl) (k := j) rfl (by omega) (by decide) ?_
    refine q_heap (q_blk_up (j := 15) (q_le rfl)) ?_
    refine q_aload_n dX7_comes_300 rfl ?_
    refine q_getf dX7_comes_301 fl_X7_57 (q_blk_get (j := 0) rfl) rfl ?_
    refine q_iload_n dX7_comes_304 rfl ?_
    refine q_lload_n dX7_comes_305 rfl ?_
    refine q_cS (c_X7_size) dX7_comes_306 kl_X7_145 rfl ⟨q_le rfl, q_le rfl⟩ (q_le rfl) (q_le rfl) (q_le rfl) ?_
    refine q_aload_n dX7_comes_309 rfl ?_
    refine q_getf dX7_comes_310 fl_X7_57 (q_blk_get (j := 0) rfl) rfl ?_
    refine q_iload_n dX7_comes_313 rfl ?_
    refine q_laldN dX7_comes_314 (q_blk_get (j := 16) rfl) (k := j) rfl (by omega) (by decide) ?_
    refine q_lcmp_le (tgt := 326) dX7_comes_315 dX7_comes_316 (by decide) (fun c_315 => ?_) (fun c_315 => ?_)
    · refine q_aload_n dX7_comes_326 rfl ?_
      refine q_getf dX7_comes_327 fl_X7_57 (q_blk_get (j := 0) rfl) rfl ?_
      refine q_iload_n dX7_comes_330 rfl ?_
      refine q_laldN dX7_comes_331 (q_blk_get (j := 16) rfl) (k := j) rfl (by omega) (by decide) ?_
      refine q_lastN dX7_comes_332 (q_blk_get (j := 16) rfl) (k := j) rfl (by omega) (by decide) ?_
      refine q_heap (q_blk_up (j := 16) (q_le rfl)) ?_
      refine q_iload dX7_comes_333 rfl ?_
      exact q_iret dX7_comes_335 rfl (by rw [if_pos c_289, if_pos c_315]; rfl) (q_le rfl) (q_le rfl)
    · refine q_lload_n dX7_comes_319 rfl ?_
      refine q_cS (c_X7_size) dX7_comes_320 kl_X7_145 rfl ⟨q_le rfl, q_le rfl⟩ (q_le rfl) (q_le rfl) (q_le rfl) ?_
      refine q_goto (tgt := 332) dX7_comes_323 (by decide) ?_
      refine q_lastN dX7_comes_332 (q_blk_get (j := 16) rfl) (k := j) rfl (by omega) (by decide) ?_
      refine q_heap (q_blk_up (j := 16) (q_le rfl)) ?_
      refine q_iload dX7_comes_333 rfl ?_
      exact q_iret dX7_comes_335 rfl (by rw [if_pos c_289, if_neg c_315]; rfl) (q_le rfl) (q_le rfl)

set_option maxHeartbeats 4000000 in
set_option maxRecDepth 100000 in
theorem m_comes {f : q_Hp} {n o cnt cl tn : Nat} {lost : Int32} {be by_ tc ta wa wr pl bi wo sh fa ca ph : Nat → Int32} {cm km gr : Nat → Int64} {kp : Nat → Int32} {su ro : Nat → Int64} {ou : Nat → Int32} {ex sz : Nat → Int64} {ww ch tp ir ow : Nat → Int32} {j c : Nat} {x : Int32} (hcnt : cnt ≤ 8) (hj : j < cnt) (hc : c ≤ 32) (htc : tc j = nI c) (h1 : ¬ m_one (sh j) = 0) (h2 : ¬ 2 * m_one (sh j) = 0) : Sp yX7_comes uX7_comes [.ref o, .int (nI j), .int x] n (q_blk f o (mE o cnt cl tn lost be by_ tc ta wa wr pl bi wo sh fa ca ph cm km gr kp su ro ou ex sz ww ch tp ir ow)) (some (.int (m_held (m_round (m_sum (upd (m_dn ca j 31) (32 * j) x) fa j c) (sh j) (wa j)) (wr j))), n, (q_blk f o (mE o cnt cl tn lost be by_ tc ta wa wr pl bi wo sh fa (upd (m_dn ca j 31) (32 * j) x) ph (vp_updL cm j (cm j + 1)) (vp_updL km j (km j + (if (m_held (m_round (m_sum (upd (m_dn ca j 31) (32 * j) x) fa j c) (sh j) (wa j)) (wr j)).toInt64 = (m_round (m_sum (upd (m_dn ca j 31) (32 * j) x) fa j c) (sh j) (wa j)) then 0 else 1))) (vp_updL gr j (if m_abs (m_sum (upd (m_dn ca j 31) (32 * j) x) fa j c) ≤ gr j then gr j else m_abs (m_sum (upd (m_dn ca j 31) (32 * j) x) fa j c))) (upd kp j 1) (vp_updL su j (m_sum (upd (m_dn ca j 31) (32 * j) x) fa j c)) (vp_updL ro j (m_round (m_sum (upd (m_dn ca j 31) (32 * j) x) fa j c) (sh j) (wa j))) (upd ou j (m_held (m_round (m_sum (upd (m_dn ca j 31) (32 * j) x) fa j c) (sh j) (wa j)) (wr j))) (vp_updL ex j (m_sum (upd (m_dn ca j 31) (32 * j) x) ta j c)) (vp_updL sz j (m_szs (upd (m_dn ca j 31) (32 * j) x) j c)) (upd ww j (wa j)) ch tp ir ow))) := by
  refine Sp.ofF (by decide +kernel) rfl rfl (q_le rfl) ?_
  intro G d
  refine q_bipush dX7_comes_0 (v := 31) (by decide) ?_
  refine q_istore_n dX7_comes_2 (q_le rfl) ?_
  refine q_lo [(0, .ref o), (1, .int (nI j)), (2, .int x), (3, .int (nI 31))] ⟨rfl, rfl, rfl, rfl, trivial⟩ (lp_m_dn hcnt hj 31 ca (by omega) ?_)
  refine q_aload_n dX7_comes_37 rfl ?_
  refine q_getf dX7_comes_38 fl_X7_44 (q_blk_get (j := 0) rfl) rfl ?_
  refine q_bipush dX7_comes_41 (v := 32) (by decide) ?_
  refine q_iload_n dX7_comes_43 rfl ?_
  refine q_imul dX7_comes_44 ?_
  refine q_iload_n dX7_comes_45 rfl ?_
  refine q_iastN dX7_comes_46 (q_blk_get (j := 12) rfl) (k := 32 * j) (m_ix0 j) (by omega) (by decide) ?_
  refine q_heap (q_blk_up (j := 12) (q_le rfl)) ?_
  refine q_lconst dX7_comes_47 (v := 0) (by decide) ?_
  refine q_lstore_n dX7_comes_48 (q_le rfl) ?_
  refine q_lconst dX7_comes_49 (v := 0) (by decide) ?_
  refine q_lstore dX7_comes_50 (q_le rfl) ?_
  refine q_lconst dX7_comes_52 (v := 0) (by decide) ?_
  refine q_lstore dX7_comes_53 (q_le rfl) ?_
  refine q_iconst dX7_comes_55 (v := 0) (by decide) ?_
  refine q_istore dX7_comes_56 (q_le rfl) ?_
  refine q_heap (show _ = q_blk f o (mE o cnt cl tn lost be by_ tc ta wa wr pl bi wo sh fa (upd (m_dn ca j 31) (32 * j) x) ph cm km gr kp su ro ou ex sz ww ch tp ir ow) from rfl) ?_
  refine q_lo [(0, .ref o), (1, .int (nI j)), (3, .long (m_sum (upd (m_dn ca j 31) (32 * j) x) fa j 0)), (5, .long (m_sum (upd (m_dn ca j 31) (32 * j) x) ta j 0)), (7, .long (m_szs (upd (m_dn ca j 31) (32 * j) x) j 0)), (9, .int (nI 0))] ⟨rfl, rfl, rfl, rfl, rfl, rfl, trivial⟩ (lp_m_sum hcnt hj hc htc ?_ c 0 (by omega))
  refine q_lload_n dX7_comes_140 rfl ?_
  refine q_aload_n dX7_comes_141 rfl ?_
  refine q_getf dX7_comes_142 fl_X7_38 (q_blk_get (j := 0) rfl) rfl ?_
  refine q_iload_n dX7_comes_145 rfl ?_
  refine q_ialdN dX7_comes_146 (q_blk_get (j := 10) rfl) (k := j) rfl (by omega) (by decide) ?_
  refine q_aload_n dX7_comes_147 rfl ?_
  refine q_getf dX7_comes_148 fl_X7_22 (q_blk_get (j := 0) rfl) rfl ?_
  refine q_iload_n dX7_comes_151 rfl ?_
  refine q_ialdN dX7_comes_152 (q_blk_get (j := 5) rfl) (k := j) rfl (by omega) (by decide) ?_
  refine q_cS (c_X7_round h1 h2) dX7_comes_153 kl_X7_187 rfl ⟨q_le rfl, q_le rfl⟩ (q_le rfl) (q_le rfl) (q_le rfl) ?_
  refine q_lstore dX7_comes_156 (q_le rfl) ?_
  refine q_aload_n dX7_comes_158 rfl ?_
  refine q_getf dX7_comes_159 fl_X7_25 (q_blk_get (j := 0) rfl) rfl ?_
  refine q_iload_n dX7_comes_162 rfl ?_
  refine q_zaldN dX7_comes_163 (q_blk_get (j := 6) rfl) (k := j) rfl (by omega) (by decide) ?_
  refine q_if_eq (tgt := 174) dX7_comes_164 (by decide) (fun c_164 => ?_) (fun c_164 => ?_)
  · refine q_lload dX7_comes_174 rfl ?_
    refine q_ldc2 dX7_comes_176 cn_X7_191 ?_
    refine q_lcmp_ge (tgt := 189) dX7_comes_179 dX7_comes_180 (by decide) (fun c_179 => ?_) (fun c_179 => ?_)
    · refine q_lload dX7_comes_189 rfl ?_
      refine q_ldc2 dX7_comes_191 cn_X7_193 ?_
      refine q_lcmp_le (tgt := 204) dX7_comes_194 dX7_comes_195 (by decide) (fun c_194 => ?_) (fun c_194 => ?_)
      · refine q_lload dX7_comes_204 rfl ?_
        refine q_l2i dX7_comes_206 ?_
        have hO : (m_held (m_round (m_sum (upd (m_dn ca j 31) (32 * j) x) fa j c) (sh j) (wa j)) (wr j)) = (m_round (m_sum (upd (m_dn ca j 31) (32 * j) x) fa j c) (sh j) (wa j)).toInt32 := by unfold m_held; rw [if_pos c_164, if_pos c_179, if_pos c_194]
        refine q_zz (by rw [hO]) (q_lo [(0, .ref o), (1, .int (nI j)), (3, .long (m_sum (upd (m_dn ca j 31) (32 * j) x) fa j c)), (5, .long (m_sum (upd (m_dn ca j 31) (32 * j) x) ta j c)), (7, .long (m_szs (upd (m_dn ca j 31) (32 * j) x) j c)), (9, .long (m_round (m_sum (upd (m_dn ca j 31) (32 * j) x) fa j c) (sh j) (wa j)))] ⟨rfl, rfl, rfl, rfl, rfl, rfl, trivial⟩ (lp_m_tail hcnt hj))
      · refine q_sipush dX7_comes_198 (v := 32767) (by decide) ?_
        refine q_goto (tgt := 207) dX7_comes_201 (by decide) ?_
        have hO : (m_held (m_round (m_sum (upd (m_dn ca j 31) (32 * j) x) fa j c) (sh j) (wa j)) (wr j)) = 32767 := by unfold m_held; rw [if_pos c_164, if_pos c_179, if_neg c_194]
        refine q_zz (by rw [hO]) (q_lo [(0, .ref o), (1, .int (nI j)), (3, .long (m_sum (upd (m_dn ca j 31) (32 * j) x) fa j c)), (5, .long (m_sum (upd (m_dn ca j 31) (32 * j) x) ta j c)), (7, .long (m_szs (upd (m_dn ca j 31) (32 * j) x) j c)), (9, .long (m_round (m_sum (upd (m_dn ca j 31) (32 * j) x) fa j c) (sh j) (wa j)))] ⟨rfl, rfl, rfl, rfl, rfl, rfl, trivial⟩ (lp_m_tail hcnt hj))
    · refine q_sipush dX7_comes_183 (v := (-32768)) (by decide) ?_
      refine q_goto (tgt := 207) dX7_comes_186 (by decide) ?_
      have hO : (m_held (m_round (m_sum (upd (m_dn ca j 31) (32 * j) x) fa j c) (sh j) (wa j)) (wr j)) = (-32768) := by unfold m_held; rw [if_pos c_164, if_neg c_179]
      refine q_zz (by rw [hO]) (q_lo [(0, .ref o), (1, .int (nI j)), (3, .long (m_sum (upd (m_dn ca j 31) (32 * j) x) fa j c)), (5, .long (m_sum (upd (m_dn ca j 31) (32 * j) x) ta j c)), (7, .long (m_szs (upd (m_dn ca j 31) (32 * j) x) j c)), (9, .long (m_round (m_sum (upd (m_dn ca j 31) (32 * j) x) fa j c) (sh j) (wa j)))] ⟨rfl, rfl, rfl, rfl, rfl, rfl, trivial⟩ (lp_m_tail hcnt hj))
  · refine q_lload dX7_comes_167 rfl ?_
    refine q_l2i dX7_comes_169 ?_
    refine q_i2s dX7_comes_170 ?_
    refine q_goto (tgt := 207) dX7_comes_171 (by decide) ?_
    have hO : (m_held (m_round (m_sum (upd (m_dn ca j 31) (32 * j) x) fa j c) (sh j) (wa j)) (wr j)) = (m_round (m_sum (upd (m_dn ca j 31) (32 * j) x) fa j c) (sh j) (wa j)).toInt32.toInt16.toInt32 := by unfold m_held; rw [if_neg c_164]
    refine q_zz (by rw [hO]) (q_lo [(0, .ref o), (1, .int (nI j)), (3, .long (m_sum (upd (m_dn ca j 31) (32 * j) x) fa j c)), (5, .long (m_sum (upd (m_dn ca j 31) (32 * j) x) ta j c)), (7, .long (m_szs (upd (m_dn ca j 31) (32 * j) x) j c)), (9, .long (m_round (m_sum (upd (m_dn ca j 31) (32 * j) x) fa j c) (sh j) (wa j)))] ⟨rfl, rfl, rfl, rfl, rfl, rfl, trivial⟩ (lp_m_tail hcnt hj))

