set_option maxHeartbeats 4000000 in
set_option maxRecDepth 100000 in
theorem m_stage_bad {f : q_Hp} {n o cnt cl tn : Nat} {lost : Int32} {be by_ tc ta wa wr pl bi wo sh fa ca ph : Nat → Int32} {cm km gr : Nat → Int64} {kp : Nat → Int32} {su ro : Nat → Int64} {ou : Nat → Int32} {ex sz : Nat → Int64} {ww ch tp ir ow : Nat → Int32} {below bb : Int32} (hcnt : cnt ≤ 8) (hx : (x_in below 1 1000000 && x_isBy bb) = false) : Sp yX7_stage uX7_stage [.ref o, .int below, .int bb] n (q_blk f o (mE o cnt cl tn lost be by_ tc ta wa wr pl bi wo sh fa ca ph cm km gr kp su ro ou ex sz ww ch tp ir ow)) (some (.int (-2)), n, (q_blk f o (mE o cnt cl tn lost be by_ tc ta wa wr pl bi wo sh fa ca ph cm km gr kp su ro ou ex sz ww ch tp ir ow))) := by
  refine Sp.ofF (by decide +kernel) rfl rfl (q_le rfl) ?_
  intro G d
  cases h : x_in below 1 1000000 with
  | false =>
    refine q_iload_n dX7_stage_0 rfl ?_
    refine q_i2l dX7_stage_1 ?_
    refine q_lconst dX7_stage_2 (v := 1) (by decide) ?_
    refine q_ldc2 dX7_stage_3 cn_X7_101 ?_
    refine q_cS (c_in_x 1 1000000 rfl rfl) dX7_stage_6 kl_X7_97 rfl ⟨q_le rfl, q_le rfl⟩ (q_le rfl) (q_le rfl) (q_le rfl) ?_
    refine q_ifeq_b (tgt := 38) dX7_stage_9 (by decide) (fun c_9 => ?_) (fun h_n => absurd (h_n.symm.trans (h)) (by decide))
    refine q_bipush dX7_stage_38 (v := (-2)) (by decide) ?_
    exact q_iret dX7_stage_40 rfl (rfl) (q_le rfl) (q_le rfl)
  | true =>
    have h2 : x_in bb 1 4 = false ∧ x_in bb (-4) (-2) = false := by rw [h] at hx; simpa [x_isBy] using hx
    refine q_iload_n dX7_stage_0 rfl ?_
    refine q_i2l dX7_stage_1 ?_
    refine q_lconst dX7_stage_2 (v := 1) (by decide) ?_
    refine q_ldc2 dX7_stage_3 cn_X7_101 ?_
    refine q_cS (c_in_x 1 1000000 rfl rfl) dX7_stage_6 kl_X7_97 rfl ⟨q_le rfl, q_le rfl⟩ (q_le rfl) (q_le rfl) (q_le rfl) ?_
    refine q_ifeq_b (tgt := 38) dX7_stage_9 (by decide) (fun h_n => absurd (h_n.symm.trans (h)) (by decide)) (fun c_9 => ?_)
    refine q_iload_n dX7_stage_12 rfl ?_
    refine q_i2l dX7_stage_13 ?_
    refine q_lconst dX7_stage_14 (v := 1) (by decide) ?_
    refine q_ldc2 dX7_stage_15 cn_X7_103 ?_
    refine q_cS (c_in_x 1 4 rfl rfl) dX7_stage_18 kl_X7_97 rfl ⟨q_le rfl, q_le rfl⟩ (q_le rfl) (q_le rfl) (q_le rfl) ?_
    refine q_ifne_b (tgt := 41) dX7_stage_21 (by decide) (fun h_n => absurd (h_n.symm.trans (h2.1)) (by decide)) (fun c_21 => ?_)
    refine q_iload_n dX7_stage_24 rfl ?_
    refine q_i2l dX7_stage_25 ?_
    refine q_ldc2 dX7_stage_26 cn_X7_105 ?_
    refine q_ldc2 dX7_stage_29 cn_X7_107 ?_
    refine q_cS (c_in_x (-4) (-2) rfl rfl) dX7_stage_32 kl_X7_97 rfl ⟨q_le rfl, q_le rfl⟩ (q_le rfl) (q_le rfl) (q_le rfl) ?_
    refine q_ifne_b (tgt := 41) dX7_stage_35 (by decide) (fun h_n => absurd (h_n.symm.trans (h2.2)) (by decide)) (fun c_35 => ?_)
    refine q_bipush dX7_stage_38 (v := (-2)) (by decide) ?_
    exact q_iret dX7_stage_40 rfl (rfl) (q_le rfl) (q_le rfl)

set_option maxHeartbeats 4000000 in
set_option maxRecDepth 100000 in
theorem m_stage_full {f : q_Hp} {n o cnt cl tn : Nat} {lost : Int32} {be by_ tc ta wa wr pl bi wo sh fa ca ph : Nat → Int32} {cm km gr : Nat → Int64} {kp : Nat → Int32} {su ro : Nat → Int64} {ou : Nat → Int32} {ex sz : Nat → Int64} {ww ch tp ir ow : Nat → Int32} {below bb : Int32} (hcnt : cnt ≤ 8) (hx : x_in below 1 1000000 = true) (hy : x_isBy bb = true) (h8 : cnt = 8) : Sp yX7_stage uX7_stage [.ref o, .int below, .int bb] n (q_blk f o (mE o cnt cl tn lost be by_ tc ta wa wr pl bi wo sh fa ca ph cm km gr kp su ro ou ex sz ww ch tp ir ow)) (some (.int (-4)), n, (q_blk f o (mE o cnt cl tn lost be by_ tc ta wa wr pl bi wo sh fa ca ph cm km gr kp su ro ou ex sz ww ch tp ir ow))) := by
  refine Sp.ofF (by decide +kernel) rfl rfl (q_le rfl) ?_
  intro G d
  subst h8
  cases h : x_in bb 1 4 with
  | true =>
    refine q_iload_n dX7_stage_0 rfl ?_
    refine q_i2l dX7_stage_1 ?_
    refine q_lconst dX7_stage_2 (v := 1) (by decide) ?_
    refine q_ldc2 dX7_stage_3 cn_X7_101 ?_
    refine q_cS (c_in_x 1 1000000 rfl rfl) dX7_stage_6 kl_X7_97 rfl ⟨q_le rfl, q_le rfl⟩ (q_le rfl) (q_le rfl) (q_le rfl) ?_
    refine q_ifeq_b (tgt := 38) dX7_stage_9 (by decide) (fun h_n => absurd (h_n.symm.trans (hx)) (by decide)) (fun c_9 => ?_)
    refine q_iload_n dX7_stage_12 rfl ?_
    refine q_i2l dX7_stage_13 ?_
    refine q_lconst dX7_stage_14 (v := 1) (by decide) ?_
    refine q_ldc2 dX7_stage_15 cn_X7_103 ?_
    refine q_cS (c_in_x 1 4 rfl rfl) dX7_stage_18 kl_X7_97 rfl ⟨q_le rfl, q_le rfl⟩ (q_le rfl) (q_le rfl) (q_le rfl) ?_
    refine q_ifne_b (tgt := 41) dX7_stage_21 (by decide) (fun c_21 => ?_) (fun h_n => absurd (h_n.symm.trans (h)) (by decide))
    refine q_aload_n dX7_stage_41 rfl ?_
    refine q_getf dX7_stage_42 fl_X7_93 (q_blk_get (j := 0) rfl) rfl ?_
    refine q_bipush dX7_stage_45 (v := 8) (by decide) ?_
    refine q_icmp_ne (tgt := 53) dX7_stage_47 (by decide) (fun h_n => absurd (rfl) h_n) (fun c_47 => ?_)
    refine q_bipush dX7_stage_50 (v := (-4)) (by decide) ?_
    exact q_iret dX7_stage_52 rfl (rfl) (q_le rfl) (q_le rfl)
  | false =>
    have h2 : x_in bb (-4) (-2) = true := by unfold x_isBy at hy; rw [h] at hy; simpa using hy
    refine q_iload_n dX7_stage_0 rfl ?_
    refine q_i2l dX7_stage_1 ?_
    refine q_lconst dX7_stage_2 (v := 1) (by decide) ?_
    refine q_ldc2 dX7_stage_3 cn_X7_101 ?_
    refine q_cS (c_in_x 1 1000000 rfl rfl) dX7_stage_6 kl_X7_97 rfl ⟨q_le rfl, q_le rfl⟩ (q_le rfl) (q_le rfl) (q_le rfl) ?_
    refine q_ifeq_b (tgt := 38) dX7_stage_9 (by decide) (fun h_n => absurd (h_n.symm.trans (hx)) (by decide)) (fun c_9 => ?_)
    refine q_iload_n dX7_stage_12 rfl ?_
    refine q_i2l dX7_stage_13 ?_
    refine q_lconst dX7_stage_14 (v := 1) (by decide) ?_
    refine q_ldc2 dX7_stage_15 cn_X7_103 ?_
    refine q_cS (c_in_x 1 4 rfl rfl) dX7_stage_18 kl_X7_97 rfl ⟨q_le rfl, q_le rfl⟩ (q_le rfl) (q_le rfl) (q_le rfl) ?_
    refine q_ifne_b (tgt := 41) dX7_stage_21 (by decide) (fun h_n => absurd (h_n.symm.trans (h)) (by decide)) (fun c_21 => ?_)
    refine q_iload_n dX7_stage_24 rfl ?_
    refine q_i2l dX7_stage_25 ?_
    refine q_ldc2 dX7_stage_26 cn_X7_105 ?_
    refine q_ldc2 dX7_stage_29 cn_X7_107 ?_
    refine q_cS (c_in_x (-4) (-2) rfl rfl) dX7_stage_32 kl_X7_97 rfl ⟨q_le rfl, q_le rfl⟩ (q_le rfl) (q_le rfl) (q_le rfl) ?_
    refine q_ifne_b (tgt := 41) dX7_stage_35 (by decide) (fun c_35 => ?_) (fun h_n => absurd (h_n.symm.trans (h2)) (by decide))
    refine q_aload_n dX7_stage_41 rfl ?_
    refine q_getf dX7_stage_42 fl_X7_93 (q_blk_get (j := 0) rfl) rfl ?_
    refine q_bipush dX7_stage_45 (v := 8) (by decide) ?_
    refine q_icmp_ne (tgt := 53) dX7_stage_47 (by decide) (fun h_n => absurd (rfl) h_n) (fun c_47 => ?_)
    refine q_bipush dX7_stage_50 (v := (-4)) (by decide) ?_
    exact q_iret dX7_stage_52 rfl (rfl) (q_le rfl) (q_le rfl)

set_option maxHeartbeats 4000000 in
set_option maxRecDepth 100000 in
theorem m_stage_ok {f : q_Hp} {n o cnt cl tn : Nat} {lost : Int32} {be by_ tc ta wa wr pl bi wo sh fa ca ph : Nat → Int32} {cm km gr : Nat → Int64} {kp : Nat → Int32} {su ro : Nat → Int64} {ou : Nat → Int32} {ex sz : Nat → Int64} {ww ch tp ir ow : Nat → Int32} {below bb : Int32} (hcnt : cnt ≤ 8) (hx : x_in below 1 1000000 = true) (hy : x_isBy bb = true) (h8 : cnt < 8) : Sp yX7_stage uX7_stage [.ref o, .int below, .int bb] n (q_blk f o (mE o cnt cl tn lost be by_ tc ta wa wr pl bi wo sh fa ca ph cm km gr kp su ro ou ex sz ww ch tp ir ow)) (some (.int (nI cnt)), n, (q_blk f o (mE o (cnt + 1) cl tn lost (upd be cnt below) (upd by_ cnt bb) tc ta wa wr pl bi wo sh fa ca ph cm km gr kp su ro ou ex sz ww ch tp ir ow))) := by
  refine Sp.ofF (by decide +kernel) rfl rfl (q_le rfl) ?_
  intro G d
  cases h : x_in bb 1 4 with
  | true =>
    refine q_iload_n dX7_stage_0 rfl ?_
    refine q_i2l dX7_stage_1 ?_
    refine q_lconst dX7_stage_2 (v := 1) (by decide) ?_
    refine q_ldc2 dX7_stage_3 cn_X7_101 ?_
    refine q_cS (c_in_x 1 1000000 rfl rfl) dX7_stage_6 kl_X7_97 rfl ⟨q_le rfl, q_le rfl⟩ (q_le rfl) (q_le rfl) (q_le rfl) ?_
    refine q_ifeq_b (tgt := 38) dX7_stage_9 (by decide) (fun h_n => absurd (h_n.symm.trans (hx)) (by decide)) (fun c_9 => ?_)
    refine q_iload_n dX7_stage_12 rfl ?_
    refine q_i2l dX7_stage_13 ?_
    refine q_lconst dX7_stage_14 (v := 1) (by decide) ?_
    refine q_ldc2 dX7_stage_15 cn_X7_103 ?_
    refine q_cS (c_in_x 1 4 rfl rfl) dX7_stage_18 kl_X7_97 rfl ⟨q_le rfl, q_le rfl⟩ (q_le rfl) (q_le rfl) (q_le rfl) ?_
    refine q_ifne_b (tgt := 41) dX7_stage_21 (by decide) (fun c_21 => ?_) (fun h_n => absurd (h_n.symm.trans (h)) (by decide))
    refine q_aload_n dX7_stage_41 rfl ?_
    refine q_getf dX7_stage_42 fl_X7_93 (q_blk_get (j := 0) rfl) rfl ?_
    refine q_bipush dX7_stage_45 (v := 8) (by decide) ?_
    refine q_icmp_ne (tgt := 53) dX7_stage_47 (by decide) (fun c_47 => ?_) (fun h_n => absurd h_n ((nI_ne (b := 8) (by omega) (by omega) (by decide))))
    refine q_aload_n dX7_stage_53 rfl ?_
    refine q_getf dX7_stage_54 fl_X7_7 (q_blk_get (j := 0) rfl) rfl ?_
    refine q_aload_n dX7_stage_57 rfl ?_
    refine q_getf dX7_stage_58 fl_X7_93 (q_blk_get (j := 0) rfl) rfl ?_
    refine q_iload_n dX7_stage_61 rfl ?_
    refine q_iastN dX7_stage_62 (q_blk_get (j := 1) rfl) (k := cnt) rfl (by omega) (by decide) ?_
    refine q_heap (q_blk_up (j := 1) (q_le rfl)) ?_
    refine q_aload_n dX7_stage_63 rfl ?_
    refine q_getf dX7_stage_64 fl_X7_13 (q_blk_get (j := 0) rfl) rfl ?_
    refine q_aload_n dX7_stage_67 rfl ?_
    refine q_getf dX7_stage_68 fl_X7_93 (q_blk_get (j := 0) rfl) rfl ?_
    refine q_iload_n dX7_stage_71 rfl ?_
    refine q_iastN dX7_stage_72 (q_blk_get (j := 2) rfl) (k := cnt) rfl (by omega) (by decide) ?_
    refine q_heap (q_blk_up (j := 2) (q_le rfl)) ?_
    refine q_aload_n dX7_stage_73 rfl ?_
    refine q_dup dX7_stage_74 rfl ?_
    refine q_getf dX7_stage_75 fl_X7_93 (q_blk_get (j := 0) rfl) rfl ?_
    refine q_iconst dX7_stage_78 (v := 1) (by decide) ?_
    refine q_iadd dX7_stage_79 ?_
    refine q_stk (show _ = [Value.int (nI (cnt + 1)), Value.ref o] from by rw [nI_1]; rfl) ?_
    refine q_putf dX7_stage_80 pl_X7_93 (q_blk_get (j := 0) rfl) (q_le rfl) rfl rfl ?_
    refine q_heap (q_blk_up (j := 0) (q_le rfl)) ?_
    refine q_aload_n dX7_stage_83 rfl ?_
    refine q_getf dX7_stage_84 fl_X7_93 (q_blk_get (j := 0) rfl) rfl ?_
    refine q_iconst dX7_stage_87 (v := 1) (by decide) ?_
    refine q_isub dX7_stage_88 ?_
    exact q_iret dX7_stage_89 rfl (by rw [show nI (cnt + 1) - 1 = nI cnt from nI_pred cnt]; rfl) (q_le rfl) (q_le rfl)
  | false =>
    have h2 : x_in bb (-4) (-2) = true := by unfold x_isBy at hy; rw [h] at hy; simpa using hy
    refine q_iload_n dX7_stage_0 rfl ?_
    refine q_i2l dX7_stage_1 ?_
    refine q_lconst dX7_stage_2 (v := 1) (by decide) ?_
    refine q_ldc2 dX7_stage_3 cn_X7_101 ?_
    refine q_cS (c_in_x 1 1000000 rfl rfl) dX7_stage_6 kl_X7_97 rfl ⟨q_le rfl, q_le rfl⟩ (q_le rfl) (q_le rfl) (q_le rfl) ?_
    refine q_ifeq_b (tgt := 38) dX7_stage_9 (by decide) (fun h_n => absurd (h_n.symm.trans (hx)) (by decide)) (fun c_9 => ?_)
    refine q_iload_n dX7_stage_12 rfl ?_
    refine q_i2l dX7_stage_13 ?_
    refine q_lconst dX7_stage_14 (v := 1) (by decide) ?_
    refine q_ldc2 dX7_stage_15 cn_X7_103 ?_
    refine q_cS (c_in_x 1 4 rfl rfl) dX7_stage_18 kl_X7_97 rfl ⟨q_le rfl, q_le rfl⟩ (q_le rfl) (q_le rfl) (q_le rfl) ?_
    refine q_ifne_b (tgt := 41) dX7_stage_21 (by decide) (fun h_n => absurd (h_n.symm.trans (h)) (by decide)) (fun c_21 => ?_)
    refine q_iload_n dX7_stage_24 rfl ?_
    refine q_i2l dX7_stage_25 ?_
    refine q_ldc2 dX7_stage_26 cn_X7_105 ?_
    refine q_ldc2 dX7_stage_29 cn_X7_107 ?_
    refine q_cS (c_in_x (-4) (-2) rfl rfl) dX7_stage_32 kl_X7_97 rfl ⟨q_le rfl, q_le rfl⟩ (q_le rfl) (q_le rfl) (q_le rfl) ?_
    refine q_ifne_b (tgt := 41) dX7_stage_35 (by decide) (fun c_35 => ?_) (fun h_n => absurd (h_n.symm.trans (h2)) (by decide))
    refine q_aload_n dX7_stage_41 rfl ?_
    refine q_getf dX7_stage_42 fl_X7_93 (q_blk_get (j := 0) rfl) rfl ?_
    refine q_bipush dX7_stage_45 (v := 8) (by decide) ?_
    refine q_icmp_ne (tgt := 53) dX7_stage_47 (by decide) (fun c_47 => ?_) (fun h_n => absurd h_n ((nI_ne (b := 8) (by omega) (by omega) (by decide))))
    refine q_aload_n dX7_stage_53 rfl ?_
    refine q_getf dX7_stage_54 fl_X7_7 (q_blk_get (j := 0) rfl) rfl ?_
    refine q_aload_n dX7_stage_57 rfl ?_
    refine q_getf dX7_stage_58 fl_X7_93 (q_blk_get (j := 0) rfl) rfl ?_
    refine q_iload_n dX7_stage_61 rfl ?_
    refine q_iastN dX7_stage_62 (q_blk_get (j := 1) rfl) (k := cnt) rfl (by omega) (by decide) ?_
    refine q_heap (q_blk_up (j := 1) (q_le rfl)) ?_
    refine q_aload_n dX7_stage_63 rfl ?_
    refine q_getf dX7_stage_64 fl_X7_13 (q_blk_get (j := 0) rfl) rfl ?_
    refine q_aload_n dX7_stage_67 rfl ?_
    refine q_getf dX7_stage_68 fl_X7_93 (q_blk_get (j := 0) rfl) rfl ?_
    refine q_iload_n dX7_stage_71 rfl ?_
    refine q_iastN dX7_stage_72 (q_blk_get (j := 2) rfl) (k := cnt) rfl (by omega) (by decide) ?_
    refine q_heap (q_blk_up (j := 2) (q_le rfl)) ?_
    refine q_aload_n dX7_stage_73 rfl ?_
    refine q_dup dX7_stage_74 rfl ?_
    refine q_getf dX7_stage_75 fl_X7_93 (q_blk_get (j := 0) rfl) rfl ?_
    refine q_iconst dX7_stage_78 (v := 1) (by decide) ?_
    refine q_iadd dX7_stage_79 ?_
    refine q_stk (show _ = [Value.int (nI (cnt + 1)), Value.ref o] from by rw [nI_1]; rfl) ?_
    refine q_putf dX7_stage_80 pl_X7_93 (q_blk_get (j := 0) rfl) (q_le rfl) rfl rfl ?_
    refine q_heap (q_blk_up (j := 0) (q_le rfl)) ?_
    refine q_aload_n dX7_stage_83 rfl ?_
    refine q_getf dX7_stage_84 fl_X7_93 (q_blk_get (j := 0) rfl) rfl ?_
    refine q_iconst dX7_stage_87 (v := 1) (by decide) ?_
    refine q_isub dX7_stage_88 ?_
    exact q_iret dX7_stage_89 rfl (by rw [show nI (cnt + 1) - 1 = nI cnt from nI_pred cnt]; rfl) (q_le rfl) (q_le rfl)

set_option maxHeartbeats 4000000 in
set_option maxRecDepth 100000 in
theorem m_filled {f : q_Hp} {n o cnt cl tn : Nat} {lost : Int32} {be by_ tc ta wa wr pl bi wo sh fa ca ph : Nat → Int32} {cm km gr : Nat → Int64} {kp : Nat → Int32} {su ro : Nat → Int64} {ou : Nat → Int32} {ex sz : Nat → Int64} {ww ch tp ir ow : Nat → Int32} {j : Nat} (hcnt : cnt ≤ 8) (hj : j < cnt) : Sp yX7_filled uX7_filled [.ref o, .int (nI j)] n (q_blk f o (mE o cnt cl tn lost be by_ tc ta wa wr pl bi wo sh fa ca ph cm km gr kp su ro ou ex sz ww ch tp ir ow)) (some (.int (s_fill (by_ j))), n, (q_blk f o (mE o cnt cl tn lost be by_ tc ta wa wr pl bi wo sh fa ca ph cm km gr kp su ro ou ex sz ww ch tp ir ow))) := by
  refine Sp.ofF (by decide +kernel) rfl rfl (q_le rfl) ?_
  intro G d
  refine q_aload_n dX7_filled_0 rfl ?_
  refine q_getf dX7_filled_1 fl_X7_13 (q_blk_get (j := 0) rfl) rfl ?_
  refine q_iload_n dX7_filled_4 rfl ?_
  refine q_ialdN dX7_filled_5 (q_blk_get (j := 2) rfl) (k := j) rfl (by omega) (by decide) ?_
  refine q_if_ge (tgt := 19) dX7_filled_6 (by decide) (fun c_6 => ?_) (fun c_6 => ?_)
  · refine q_iconst dX7_filled_19 (v := 1) (by decide) ?_
    exact q_iret dX7_filled_20 rfl (by simp [s_fill, c_6]) (q_le rfl) (q_le rfl)
  · refine q_aload_n dX7_filled_9 rfl ?_
    refine q_getf dX7_filled_10 fl_X7_13 (q_blk_get (j := 0) rfl) rfl ?_
    refine q_iload_n dX7_filled_13 rfl ?_
    refine q_ialdN dX7_filled_14 (q_blk_get (j := 2) rfl) (k := j) rfl (by omega) (by decide) ?_
    refine q_ineg dX7_filled_15 ?_
    refine q_goto (tgt := 20) dX7_filled_16 (by decide) ?_
    exact q_iret dX7_filled_20 rfl (by simp [s_fill, c_6]) (q_le rfl) (q_le rfl)

def m_pr (by_ ch : Nat → Int32) (j : Nat) : Nat → Int32
  | 0 => s_fill (by_ j)
  | t + 1 => m_pr by_ ch j t * s_fill (by_ (ch t).toNatClampNeg)
def m_jn (by_ pl ch : Nat → Int32) (cl j : Nat) : Bool := !decide (pl j = 0) && decide ((m_fd ch (nI j) cl 0).elim (-1) nI = -1) && decide (m_pr by_ ch j cl ≤ 16)
set_option maxHeartbeats 4000000 in
set_option maxRecDepth 100000 in
theorem lp_m_join {G : q_G} {d : q_D} {z : q_Z} {f : q_Hp} {n o cnt cl tn : Nat} {lost : Int32} {be by_ tc ta wa wr pl bi wo sh fa ca ph : Nat → Int32} {cm km gr : Nat → Int64} {kp : Nat → Int32} {su ro : Nat → Int64} {ou : Nat → Int32} {ex sz : Nat → Int64} {ww ch tp ir ow : Nat → Int32} {j : Nat} (hcnt : cnt ≤ 8) (hcl : cl ≤ 8) (hch : ∀ t : Nat, t < cl → (ch t).toNatClampNeg < cnt ∧ ch t = nI (ch t).toNatClampNeg) (hx : J G d uX7_join z 0 0 n 46 (q_l [(0, .ref o), (1, .int (nI j)), (2, .int (m_pr by_ ch j cl))]) [] (q_blk f o (mE o cnt cl tn lost be by_ tc ta wa wr pl bi wo sh fa ca ph cm km gr kp su ro ou ex sz ww ch tp ir ow))) : ∀ (k i : Nat), i + k = cl → J G d uX7_join z 0 0 n 19 (q_l [(0, .ref o), (1, .int (nI j)), (2, .int (m_pr by_ ch j i)), (3, .int (nI i))]) [] (q_blk f o (mE o cnt cl tn lost be by_ tc ta wa wr pl bi wo sh fa ca ph cm km gr kp su ro ou ex sz ww ch tp ir ow)) := by
  intro k
  induction k with
  | zero =>
    intro i hi
    rw [show i = cl by omega]
    refine q_iload_n dX7_join_19 rfl ?_
    refine q_aload_n dX7_join_20 rfl ?_
    refine q_getf dX7_join_21 fl_X7_109 (q_blk_get (j := 0) rfl) rfl ?_
    refine q_icmp_ge (tgt := 46) dX7_join_24 (by decide) (fun c_24 => ?_) (fun h_n => absurd ((Int32.le_refl _)) h_n)
    exact q_lo [(0, .ref o), (1, .int (nI j)), (2, .int (m_pr by_ ch j cl))] ⟨rfl, rfl, rfl, trivial⟩ hx
  | succ k ih =>
    intro i hi
    refine q_iload_n dX7_join_19 rfl ?_
    refine q_aload_n dX7_join_20 rfl ?_
    refine q_getf dX7_join_21 fl_X7_109 (q_blk_get (j := 0) rfl) rfl ?_
    refine q_icmp_ge (tgt := 46) dX7_join_24 (by decide) (fun h_n => absurd h_n ((nI_ge (by omega) (by omega)))) (fun c_24 => ?_)
    refine q_iload_n dX7_join_27 rfl ?_
    refine q_aload_n dX7_join_28 rfl ?_
    refine q_aload_n dX7_join_29 rfl ?_
    refine q_getf dX7_join_30 fl_X7_81 (q_blk_get (j := 0) rfl) rfl ?_
    refine q_iload_n dX7_join_33 rfl ?_
    refine q_ialdN dX7_join_34 (q_blk_get (j := 24) rfl) (k := i) rfl (by omega) (by decide) ?_
    rw [(hch i (by omega)).2]
    refine q_cW (m_filled hcnt (hch i (by omega)).1) dX7_join_35 kl_X7_207 rfl (q_blk_get (j := 0) rfl) rfl ⟨q_le rfl, q_le rfl⟩ (q_le rfl) (q_le rfl) (q_le rfl) ?_
    refine q_imul dX7_join_38 ?_
    refine q_istore_n dX7_join_39 (q_le rfl) ?_
    refine q_iinc dX7_join_40 rfl (v := nI (i + 1)) (nI_1 i) ?_
    refine q_goto (tgt := 19) dX7_join_43 (by decide) ?_
    exact q_lo [(0, .ref o), (1, .int (nI j)), (2, .int (m_pr by_ ch j (i + 1))), (3, .int (nI (i + 1)))] ⟨rfl, rfl, rfl, rfl, trivial⟩ (ih (i + 1) (by omega))

set_option maxHeartbeats 4000000 in
set_option maxRecDepth 100000 in
theorem m_join_bad {f : q_Hp} {n o cnt cl tn : Nat} {lost : Int32} {be by_ tc ta wa wr pl bi wo sh fa ca ph : Nat → Int32} {cm km gr : Nat → Int64} {kp : Nat → Int32} {su ro : Nat → Int64} {ou : Nat → Int32} {ex sz : Nat → Int64} {ww ch tp ir ow : Nat → Int32} {k : Int32} (hcnt : cnt ≤ 8) (hk : k < 0 ∨ nI cnt ≤ k) : Sp yX7_join uX7_join [.ref o, .int k] n (q_blk f o (mE o cnt cl tn lost be by_ tc ta wa wr pl bi wo sh fa ca ph cm km gr kp su ro ou ex sz ww ch tp ir ow)) (some (.int (-2)), n, (q_blk f o (mE o cnt cl tn lost be by_ tc ta wa wr pl bi wo sh fa ca ph cm km gr kp su ro ou ex sz ww ch tp ir ow))) := by
  refine Sp.ofF (by decide +kernel) rfl rfl (q_le rfl) ?_
  intro G d
  refine q_aload_n dX7_join_0 rfl ?_
  refine q_iload_n dX7_join_1 rfl ?_
  refine q_cW (c_isS_no hcnt hk) dX7_join_2 kl_X7_118 rfl (q_blk_get (j := 0) rfl) rfl ⟨q_le rfl, q_le rfl⟩ (q_le rfl) (q_le rfl) (q_le rfl) ?_
  refine q_ifne_b (tgt := 11) dX7_join_5 (by decide) (fun h_n => absurd (h_n.symm.trans (rfl)) (by decide)) (fun c_5 => ?_)
  refine q_bipush dX7_join_8 (v := (-2)) (by decide) ?_
  exact q_iret dX7_join_10 rfl (rfl) (q_le rfl) (q_le rfl)

set_option maxHeartbeats 4000000 in
set_option maxRecDepth 100000 in
theorem m_join_ok {f : q_Hp} {n o cnt cl tn : Nat} {lost : Int32} {be by_ tc ta wa wr pl bi wo sh fa ca ph : Nat → Int32} {cm km gr : Nat → Int64} {kp : Nat → Int32} {su ro : Nat → Int64} {ou : Nat → Int32} {ex sz : Nat → Int64} {ww ch tp ir ow : Nat → Int32} {j : Nat} (hcnt : cnt ≤ 8) (hj : j < cnt) (hcl : cl ≤ 8) (h7 : m_jn by_ pl ch cl j = true → cl < 8) (hch : ∀ t : Nat, t < cl → (ch t).toNatClampNeg < cnt ∧ ch t = nI (ch t).toNatClampNeg) : Sp yX7_join uX7_join [.ref o, .int (nI j)] n (q_blk f o (mE o cnt cl tn lost be by_ tc ta wa wr pl bi wo sh fa ca ph cm km gr kp su ro ou ex sz ww ch tp ir ow)) (some (.int (bif m_jn by_ pl ch cl j then nI cl else -3)), n, (q_blk f o (mE o cnt (bif m_jn by_ pl ch cl j then cl + 1 else cl) tn lost be by_ tc ta wa wr pl bi wo sh fa ca ph cm km gr kp su ro ou ex sz ww (bif m_jn by_ pl ch cl j then upd ch cl (nI j) else ch) tp ir ow))) := by
  refine Sp.ofF (by decide +kernel) rfl rfl (q_le rfl) ?_
  intro G d
  refine q_aload_n dX7_join_0 rfl ?_
  refine q_iload_n dX7_join_1 rfl ?_
  refine q_cW (c_isS_ok hcnt hj) dX7_join_2 kl_X7_118 rfl (q_blk_get (j := 0) rfl) rfl ⟨q_le rfl, q_le rfl⟩ (q_le rfl) (q_le rfl) (q_le rfl) ?_
  refine q_ifne_b (tgt := 11) dX7_join_5 (by decide) (fun c_5 => ?_) (fun h_n => absurd (h_n.symm.trans (rfl)) (by decide))
  refine q_aload_n dX7_join_11 rfl ?_
  refine q_iload_n dX7_join_12 rfl ?_
  refine q_cW (m_filled hcnt hj) dX7_join_13 kl_X7_207 rfl (q_blk_get (j := 0) rfl) rfl ⟨q_le rfl, q_le rfl⟩ (q_le rfl) (q_le rfl) (q_le rfl) ?_
  refine q_istore_n dX7_join_16 (q_le rfl) ?_
  refine q_iconst dX7_join_17 (v := 0) (by decide) ?_
  refine q_istore_n dX7_join_18 (q_le rfl) ?_
  refine q_lo [(0, .ref o), (1, .int (nI j)), (2, .int (m_pr by_ ch j 0)), (3, .int (nI 0))] ⟨rfl, rfl, rfl, rfl, trivial⟩ (lp_m_join hcnt hcl hch ?_ cl 0 (by omega))
  refine q_aload_n dX7_join_46 rfl ?_
  refine q_getf dX7_join_47 fl_X7_29 (q_blk_get (j := 0) rfl) rfl ?_
  refine q_iload_n dX7_join_50 rfl ?_
  refine q_zaldN dX7_join_51 (q_blk_get (j := 7) rfl) (k := j) rfl (by omega) (by decide) ?_
  refine q_if_eq (tgt := 70) dX7_join_52 (by decide) (fun c_52 => ?_) (fun c_52 => ?_)
  · refine q_bipush dX7_join_70 (v := (-3)) (by decide) ?_
    exact q_iret dX7_join_72 rfl (by rw [show m_jn by_ pl ch cl j = false by unfold m_jn; simp [(show pl j = 0 from c_52)]] <;> rfl) (q_le rfl) (q_le rfl)
  · refine q_aload_n dX7_join_55 rfl ?_
    refine q_iload_n dX7_join_56 rfl ?_
    refine q_cW (m_placeOf hcnt hcl) dX7_join_57 kl_X7_112 rfl (q_blk_get (j := 0) rfl) rfl ⟨q_le rfl, q_le rfl⟩ (q_le rfl) (q_le rfl) (q_le rfl) ?_
    refine q_iconst dX7_join_60 (v := (-1)) (by decide) ?_
    refine q_icmp_ne (tgt := 70) dX7_join_61 (by decide) (fun c_61 => ?_) (fun c_61 => ?_)
    · refine q_bipush dX7_join_70 (v := (-3)) (by decide) ?_
      exact q_iret dX7_join_72 rfl (by rw [show m_jn by_ pl ch cl j = false by unfold m_jn; simp [(show ¬ pl j = 0 from c_52), (show ¬ (m_fd ch (nI j) cl 0).elim (-1) nI = -1 from c_61)]] <;> rfl) (q_le rfl) (q_le rfl)
    · refine q_iload_n dX7_join_64 rfl ?_
      refine q_bipush dX7_join_65 (v := 16) (by decide) ?_
      refine q_icmp_le (tgt := 73) dX7_join_67 (by decide) (fun c_67 => ?_) (fun c_67 => ?_)
      · refine q_aload_n dX7_join_73 rfl ?_
        refine q_getf dX7_join_74 fl_X7_81 (q_blk_get (j := 0) rfl) rfl ?_
        refine q_aload_n dX7_join_77 rfl ?_
        refine q_getf dX7_join_78 fl_X7_109 (q_blk_get (j := 0) rfl) rfl ?_
        refine q_iload_n dX7_join_81 rfl ?_
        refine q_iastN dX7_join_82 (q_blk_get (j := 24) rfl) (k := cl) rfl (h7 (by unfold m_jn; simp [(show ¬ pl j = 0 from c_52), (show (m_fd ch (nI j) cl 0).elim (-1) nI = -1 from c_61), (show m_pr by_ ch j cl ≤ 16 from c_67)])) (by decide) ?_
        refine q_heap (q_blk_up (j := 24) (q_le rfl)) ?_
        refine q_aload_n dX7_join_83 rfl ?_
        refine q_dup dX7_join_84 rfl ?_
        refine q_getf dX7_join_85 fl_X7_109 (q_blk_get (j := 0) rfl) rfl ?_
        refine q_iconst dX7_join_88 (v := 1) (by decide) ?_
        refine q_iadd dX7_join_89 ?_
        refine q_stk (show _ = [Value.int (nI (cl + 1)), Value.ref o] from by rw [nI_1]; rfl) ?_
        refine q_putf dX7_join_90 pl_X7_109 (q_blk_get (j := 0) rfl) (q_le rfl) rfl rfl ?_
        refine q_heap (q_blk_up (j := 0) (q_le rfl)) ?_
        refine q_aload_n dX7_join_93 rfl ?_
        refine q_getf dX7_join_94 fl_X7_109 (q_blk_get (j := 0) rfl) rfl ?_
        refine q_iconst dX7_join_97 (v := 1) (by decide) ?_
        refine q_isub dX7_join_98 ?_
        exact q_iret dX7_join_99 rfl (by rw [show m_jn by_ pl ch cl j = true by unfold m_jn; simp [(show ¬ pl j = 0 from c_52), (show (m_fd ch (nI j) cl 0).elim (-1) nI = -1 from c_61), (show m_pr by_ ch j cl ≤ 16 from c_67)]]; rw [show nI (cl + 1) - 1 = nI cl from nI_pred cl]; rfl) (q_le rfl) (q_le rfl)
      · refine q_bipush dX7_join_70 (v := (-3)) (by decide) ?_
        exact q_iret dX7_join_72 rfl (by rw [show m_jn by_ pl ch cl j = false by unfold m_jn; simp [(show ¬ pl j = 0 from c_52), (show (m_fd ch (nI j) cl 0).elim (-1) nI = -1 from c_61), (show ¬ m_pr by_ ch j cl ≤ 16 from c_67)]] <;> rfl) (q_le rfl) (q_le rfl)

set_option maxHeartbeats 4000000 in
set_option maxRecDepth 100000 in
theorem m_part {f : q_Hp} {n o cnt cl tn : Nat} {lost : Int32} {be by_ tc ta wa wr pl bi wo sh fa ca ph : Nat → Int32} {cm km gr : Nat → Int64} {kp : Nat → Int32} {su ro : Nat → Int64} {ou : Nat → Int32} {ex sz : Nat → Int64} {ww ch tp ir ow : Nat → Int32}  (hcnt : cnt ≤ 8)  : Sp yX7_part uX7_part [.ref o] n (q_blk f o (mE o cnt cl tn lost be by_ tc ta wa wr pl bi wo sh fa ca ph cm km gr kp su ro ou ex sz ww ch tp ir ow)) (some (.int (nI cl)), n, (q_blk f o (mE o cnt 0 tn lost be by_ tc ta wa wr pl bi wo sh fa ca ph cm km gr kp su ro ou ex sz ww ch tp ir ow))) := by
  refine Sp.ofF (by decide +kernel) rfl rfl (q_le rfl) ?_
  intro G d
  refine q_aload_n dX7_part_0 rfl ?_
  refine q_getf dX7_part_1 fl_X7_109 (q_blk_get (j := 0) rfl) rfl ?_
  refine q_istore_n dX7_part_4 (q_le rfl) ?_
  refine q_aload_n dX7_part_5 rfl ?_
  refine q_iconst dX7_part_6 (v := 0) (by decide) ?_
  refine q_putf dX7_part_7 pl_X7_109 (q_blk_get (j := 0) rfl) (q_le rfl) rfl rfl ?_
  refine q_heap (q_blk_up (j := 0) (q_le rfl)) ?_
  refine q_iload_n dX7_part_10 rfl ?_
  exact q_iret dX7_part_11 rfl (rfl) (q_le rfl) (q_le rfl)

set_option maxHeartbeats 4000000 in
set_option maxRecDepth 100000 in
theorem m_out_no {f : q_Hp} {n o cnt cl tn : Nat} {lost : Int32} {be by_ tc ta wa wr pl bi wo sh fa ca ph : Nat → Int32} {cm km gr : Nat → Int64} {kp : Nat → Int32} {su ro : Nat → Int64} {ou : Nat → Int32} {ex sz : Nat → Int64} {ww ch tp ir ow : Nat → Int32} {k : Int32} (hcnt : cnt ≤ 8) (hx : x_in k 0 (nI tn - 1) = false) : Sp yX7_out uX7_out [.ref o, .int k] n (q_blk f o (mE o cnt cl tn lost be by_ tc ta wa wr pl bi wo sh fa ca ph cm km gr kp su ro ou ex sz ww ch tp ir ow)) (some (.int 2000000000), n, (q_blk f o (mE o cnt cl tn lost be by_ tc ta wa wr pl bi wo sh fa ca ph cm km gr kp su ro ou ex sz ww ch tp ir ow))) := by
  refine Sp.ofF (by decide +kernel) rfl rfl (q_le rfl) ?_
  intro G d
  refine q_iload_n dX7_out_0 rfl ?_
  refine q_i2l dX7_out_1 ?_
  refine q_lconst dX7_out_2 (v := 0) (by decide) ?_
  refine q_aload_n dX7_out_3 rfl ?_
  refine q_getf dX7_out_4 fl_X7_201 (q_blk_get (j := 0) rfl) rfl ?_
  refine q_iconst dX7_out_7 (v := 1) (by decide) ?_
  refine q_isub dX7_out_8 ?_
  refine q_i2l dX7_out_9 ?_
  refine q_cS (c_in_x 0 (nI tn - 1) rfl rfl) dX7_out_10 kl_X7_97 rfl ⟨q_le rfl, q_le rfl⟩ (q_le rfl) (q_le rfl) (q_le rfl) ?_
  refine q_ifeq_b (tgt := 25) dX7_out_13 (by decide) (fun c_13 => ?_) (fun h_n => absurd (h_n.symm.trans (hx)) (by decide))
  refine q_ldc dX7_out_25 cn_X7_129 ?_
  exact q_iret dX7_out_27 rfl (rfl) (q_le rfl) (q_le rfl)

set_option maxHeartbeats 4000000 in
set_option maxRecDepth 100000 in
theorem m_out_ok {f : q_Hp} {n o cnt cl tn : Nat} {lost : Int32} {be by_ tc ta wa wr pl bi wo sh fa ca ph : Nat → Int32} {cm km gr : Nat → Int64} {kp : Nat → Int32} {su ro : Nat → Int64} {ou : Nat → Int32} {ex sz : Nat → Int64} {ww ch tp ir ow : Nat → Int32} {t : Nat} (hcnt : cnt ≤ 8) (htn : tn ≤ 600) (ht : t < tn) (hx : x_in (nI t) 0 (nI tn - 1) = true) : Sp yX7_out uX7_out [.ref o, .int (nI t)] n (q_blk f o (mE o cnt cl tn lost be by_ tc ta wa wr pl bi wo sh fa ca ph cm km gr kp su ro ou ex sz ww ch tp ir ow)) (some (.int (tp t)), n, (q_blk f o (mE o cnt cl tn lost be by_ tc ta wa wr pl bi wo sh fa ca ph cm km gr kp su ro ou ex sz ww ch tp ir ow))) := by
  refine Sp.ofF (by decide +kernel) rfl rfl (q_le rfl) ?_
  intro G d
  refine q_iload_n dX7_out_0 rfl ?_
  refine q_i2l dX7_out_1 ?_
  refine q_lconst dX7_out_2 (v := 0) (by decide) ?_
  refine q_aload_n dX7_out_3 rfl ?_
  refine q_getf dX7_out_4 fl_X7_201 (q_blk_get (j := 0) rfl) rfl ?_
  refine q_iconst dX7_out_7 (v := 1) (by decide) ?_
  refine q_isub dX7_out_8 ?_
  refine q_i2l dX7_out_9 ?_
  refine q_cS (c_in_x 0 (nI tn - 1) rfl rfl) dX7_out_10 kl_X7_97 rfl ⟨q_le rfl, q_le rfl⟩ (q_le rfl) (q_le rfl) (q_le rfl) ?_
  refine q_ifeq_b (tgt := 25) dX7_out_13 (by decide) (fun h_n => absurd (h_n.symm.trans (hx)) (by decide)) (fun c_13 => ?_)
  refine q_aload_n dX7_out_16 rfl ?_
  refine q_getf dX7_out_17 fl_X7_84 (q_blk_get (j := 0) rfl) rfl ?_
  refine q_iload_n dX7_out_20 rfl ?_
  refine q_ialdN dX7_out_21 (q_blk_get (j := 25) rfl) (k := t) rfl (by omega) (by decide) ?_
  refine q_goto (tgt := 27) dX7_out_22 (by decide) ?_
  exact q_iret dX7_out_27 rfl (rfl) (q_le rfl) (q_le rfl)

set_option maxHeartbeats 4000000 in
set_option maxRecDepth 100000 in
theorem m_empty {f : q_Hp} {n o cnt cl tn : Nat} {lost : Int32} {be by_ tc ta wa wr pl bi wo sh fa ca ph : Nat → Int32} {cm km gr : Nat → Int64} {kp : Nat → Int32} {su ro : Nat → Int64} {ou : Nat → Int32} {ex sz : Nat → Int64} {ww ch tp ir ow : Nat → Int32}  (hcnt : cnt ≤ 8)  : Sp yX7_empty uX7_empty [.ref o] n (q_blk f o (mE o cnt cl tn lost be by_ tc ta wa wr pl bi wo sh fa ca ph cm km gr kp su ro ou ex sz ww ch tp ir ow)) (some (.int (nI tn)), n, (q_blk f o (mE o cnt cl 0 lost be by_ tc ta wa wr pl bi wo sh fa ca ph cm km gr kp su ro ou ex sz ww ch tp ir ow))) := by
  refine Sp.ofF (by decide +kernel) rfl rfl (q_le rfl) ?_
  intro G d
  refine q_aload_n dX7_empty_0 rfl ?_
  refine q_getf dX7_empty_1 fl_X7_201 (q_blk_get (j := 0) rfl) rfl ?_
  refine q_istore_n dX7_empty_4 (q_le rfl) ?_
  refine q_aload_n dX7_empty_5 rfl ?_
  refine q_iconst dX7_empty_6 (v := 0) (by decide) ?_
  refine q_putf dX7_empty_7 pl_X7_201 (q_blk_get (j := 0) rfl) (q_le rfl) rfl rfl ?_
  refine q_heap (q_blk_up (j := 0) (q_le rfl)) ?_
  refine q_iload_n dX7_empty_10 rfl ?_
  exact q_iret dX7_empty_11 rfl (rfl) (q_le rfl) (q_le rfl)

def D_rs (w : q_Dy) : Nat → q_Dy
  | 0 => w
  | k + 1 => D_forget k (D_rs w k)
set_option maxHeartbeats 4000000 in
set_option maxRecDepth 100000 in
theorem lp_m_reset {G : q_G} {d : q_D} {z : q_Z} {f : q_Hp} {n o cnt cl tn : Nat} {lost : Int32} {be by_ tc ta wa wr pl bi wo sh fa ch tp ir ow : Nat → Int32} {w : q_Dy} (hcnt : cnt ≤ 8) (hx : J G d uX7_reset z 0 0 n 21 (q_l [(0, .ref o)]) [] (q_blk f o (mD o cnt cl tn lost be by_ tc ta wa wr pl bi wo sh fa ch tp ir ow (D_rs w cnt)))) : ∀ (k i : Nat), i + k = cnt → J G d uX7_reset z 0 0 n 2 (q_l [(0, .ref o), (1, .int (nI i))]) [] (q_blk f o (mD o cnt cl tn lost be by_ tc ta wa wr pl bi wo sh fa ch tp ir ow (D_rs w i))) := by
  intro k
  induction k with
  | zero =>
    intro i hi
    rw [show i = cnt by omega]
    refine q_iload_n dX7_reset_2 rfl ?_
    refine q_aload_n dX7_reset_3 rfl ?_
    refine q_getf dX7_reset_4 fl_X7_93 (q_blk_get (j := 0) rfl) rfl ?_
    refine q_icmp_ge (tgt := 21) dX7_reset_7 (by decide) (fun c_7 => ?_) (fun h_n => absurd ((Int32.le_refl _)) h_n)
    exact q_lo [(0, .ref o)] ⟨rfl, trivial⟩ hx
  | succ k ih =>
    intro i hi
    refine q_iload_n dX7_reset_2 rfl ?_
    refine q_aload_n dX7_reset_3 rfl ?_
    refine q_getf dX7_reset_4 fl_X7_93 (q_blk_get (j := 0) rfl) rfl ?_
    refine q_icmp_ge (tgt := 21) dX7_reset_7 (by decide) (fun h_n => absurd h_n ((nI_ge (by omega) (by omega)))) (fun c_7 => ?_)
    refine q_aload_n dX7_reset_10 rfl ?_
    refine q_iload_n dX7_reset_11 rfl ?_
    refine q_cW (w_forgets hcnt (show i < cnt by omega)) dX7_reset_12 kl_X7_151 rfl (q_blk_get (j := 0) rfl) rfl ⟨q_le rfl, q_le rfl⟩ (q_le rfl) (q_le rfl) (q_le rfl) ?_
    refine q_iinc dX7_reset_15 rfl (v := nI (i + 1)) (nI_1 i) ?_
    refine q_goto (tgt := 2) dX7_reset_18 (by decide) ?_
    exact q_lo [(0, .ref o), (1, .int (nI (i + 1)))] ⟨rfl, rfl, trivial⟩ (ih (i + 1) (by omega))

set_option maxHeartbeats 4000000 in
set_option maxRecDepth 100000 in
theorem m_reset {f : q_Hp} {n o cnt cl tn : Nat} {lost : Int32} {be by_ tc ta wa wr pl bi wo sh fa ch tp ir ow : Nat → Int32} {w : q_Dy}  (hcnt : cnt ≤ 8)  : Sp yX7_reset uX7_reset [.ref o] n (q_blk f o (mD o cnt cl tn lost be by_ tc ta wa wr pl bi wo sh fa ch tp ir ow w)) (some (.int (nI cnt)), n, (q_blk f o (mD o cnt cl tn lost be by_ tc ta wa wr pl bi wo sh fa ch tp ir ow (D_rs w cnt)))) := by
  refine Sp.ofF (by decide +kernel) rfl rfl (q_le rfl) ?_
  intro G d
  refine q_iconst dX7_reset_0 (v := 0) (by decide) ?_
  refine q_istore_n dX7_reset_1 (q_le rfl) ?_
  refine q_lo [(0, .ref o), (1, .int (nI 0))] ⟨rfl, rfl, trivial⟩ (lp_m_reset hcnt ?_ cnt 0 (by omega))
  refine q_aload_n dX7_reset_21 rfl ?_
  refine q_getf dX7_reset_22 fl_X7_93 (q_blk_get (j := 0) rfl) rfl ?_
  exact q_iret dX7_reset_25 rfl (rfl) (q_le rfl) (q_le rfl)

set_option maxHeartbeats 4000000 in
set_option maxRecDepth 100000 in
theorem m_through_bad {f : q_Hp} {n o cnt cl tn : Nat} {lost : Int32} {be by_ tc ta wa wr pl bi wo sh fa ch tp ir ow : Nat → Int32} {w : q_Dy} {k x : Int32} (hcnt : cnt ≤ 8) (hk : k < 0 ∨ nI cnt ≤ k) : Sp yX7_through uX7_through [.ref o, .int k, .int x] n (q_blk f o (mD o cnt cl tn lost be by_ tc ta wa wr pl bi wo sh fa ch tp ir ow w)) (some (.int 2000000000), n, (q_blk f o (mD o cnt cl tn lost be by_ tc ta wa wr pl bi wo sh fa ch tp ir ow w))) := by
  refine Sp.ofF (by decide +kernel) rfl rfl (q_le rfl) ?_
  intro G d
  refine q_aload_n dX7_through_0 rfl ?_
  refine q_iload_n dX7_through_1 rfl ?_
  refine q_cW (c_isS_no hcnt hk) dX7_through_2 kl_X7_118 rfl (q_blk_get (j := 0) rfl) rfl ⟨q_le rfl, q_le rfl⟩ (q_le rfl) (q_le rfl) (q_le rfl) ?_
  refine q_ifeq_b (tgt := 15) dX7_through_5 (by decide) (fun c_5 => ?_) (fun h_n => absurd (h_n.symm.trans (rfl)) (by decide))
  refine q_ldc dX7_through_15 cn_X7_129 ?_
  exact q_iret dX7_through_17 rfl (rfl) (q_le rfl) (q_le rfl)

set_option maxHeartbeats 4000000 in
set_option maxRecDepth 100000 in
theorem m_through_rng {f : q_Hp} {n o cnt cl tn : Nat} {lost : Int32} {be by_ tc ta wa wr pl bi wo sh fa ch tp ir ow : Nat → Int32} {w : q_Dy} {j : Nat} {x : Int32} (hcnt : cnt ≤ 8) (hj : j < cnt) (hx : x_in x (-32768) 32767 = false) : Sp yX7_through uX7_through [.ref o, .int (nI j), .int x] n (q_blk f o (mD o cnt cl tn lost be by_ tc ta wa wr pl bi wo sh fa ch tp ir ow w)) (some (.int 2000000000), n, (q_blk f o (mD o cnt cl tn lost be by_ tc ta wa wr pl bi wo sh fa ch tp ir ow w))) := by
  refine Sp.ofF (by decide +kernel) rfl rfl (q_le rfl) ?_
  intro G d
  refine q_aload_n dX7_through_0 rfl ?_
  refine q_iload_n dX7_through_1 rfl ?_
  refine q_cW (c_isS_ok hcnt hj) dX7_through_2 kl_X7_118 rfl (q_blk_get (j := 0) rfl) rfl ⟨q_le rfl, q_le rfl⟩ (q_le rfl) (q_le rfl) (q_le rfl) ?_
  refine q_ifeq_b (tgt := 15) dX7_through_5 (by decide) (fun h_n => absurd (h_n.symm.trans (rfl)) (by decide)) (fun c_5 => ?_)
  refine q_iload_n dX7_through_8 rfl ?_
  refine q_cS (c_X7_isSample) dX7_through_9 kl_X7_210 rfl ⟨q_le rfl, q_le rfl⟩ (q_le rfl) (q_le rfl) (q_le rfl) ?_
  refine q_ifne_b (tgt := 18) dX7_through_12 (by decide) (fun h_n => absurd (h_n.symm.trans (hx)) (by decide)) (fun c_12 => ?_)
  refine q_ldc dX7_through_15 cn_X7_129 ?_
  exact q_iret dX7_through_17 rfl (rfl) (q_le rfl) (q_le rfl)

set_option maxHeartbeats 4000000 in
set_option maxRecDepth 100000 in
theorem m_through_np {f : q_Hp} {n o cnt cl tn : Nat} {lost : Int32} {be by_ tc ta wa wr pl bi wo sh fa ch tp ir ow : Nat → Int32} {w : q_Dy} {j : Nat} {x : Int32} (hcnt : cnt ≤ 8) (hj : j < cnt) (hx : x_in x (-32768) 32767 = true) (hp : pl j = 0) : Sp yX7_through uX7_through [.ref o, .int (nI j), .int x] n (q_blk f o (mD o cnt cl tn lost be by_ tc ta wa wr pl bi wo sh fa ch tp ir ow w)) (some (.int 2000000001), n, (q_blk f o (mD o cnt cl tn lost be by_ tc ta wa wr pl bi wo sh fa ch tp ir ow w))) := by
  refine Sp.ofF (by decide +kernel) rfl rfl (q_le rfl) ?_
  intro G d
  refine q_aload_n dX7_through_0 rfl ?_
  refine q_iload_n dX7_through_1 rfl ?_
  refine q_cW (c_isS_ok hcnt hj) dX7_through_2 kl_X7_118 rfl (q_blk_get (j := 0) rfl) rfl ⟨q_le rfl, q_le rfl⟩ (q_le rfl) (q_le rfl) (q_le rfl) ?_
  refine q_ifeq_b (tgt := 15) dX7_through_5 (by decide) (fun h_n => absurd (h_n.symm.trans (rfl)) (by decide)) (fun c_5 => ?_)
  refine q_iload_n dX7_through_8 rfl ?_
  refine q_cS (c_X7_isSample) dX7_through_9 kl_X7_210 rfl ⟨q_le rfl, q_le rfl⟩ (q_le rfl) (q_le rfl) (q_le rfl) ?_
  refine q_ifne_b (tgt := 18) dX7_through_12 (by decide) (fun c_12 => ?_) (fun h_n => absurd (h_n.symm.trans (hx)) (by decide))
  refine q_aload_n dX7_through_18 rfl ?_
  refine q_getf dX7_through_19 fl_X7_29 (q_blk_get (j := 0) rfl) rfl ?_
  refine q_iload_n dX7_through_22 rfl ?_
  refine q_zaldN dX7_through_23 (q_blk_get (j := 7) rfl) (k := j) rfl (by omega) (by decide) ?_
  refine q_if_eq (tgt := 37) dX7_through_24 (by decide) (fun c_24 => ?_) (fun h_n => absurd (hp) h_n)
  refine q_ldc dX7_through_37 cn_X7_218 ?_
  refine q_goto (tgt := 48) dX7_through_39 (by decide) ?_
  exact q_iret dX7_through_48 rfl (rfl) (q_le rfl) (q_le rfl)

set_option maxHeartbeats 4000000 in
set_option maxRecDepth 100000 in
theorem m_through_nb {f : q_Hp} {n o cnt cl tn : Nat} {lost : Int32} {be by_ tc ta wa wr pl bi wo sh fa ch tp ir ow : Nat → Int32} {w : q_Dy} {j : Nat} {x : Int32} (hcnt : cnt ≤ 8) (hj : j < cnt) (hx : x_in x (-32768) 32767 = true) (hp : ¬ pl j = 0) (hb : ¬ by_ j = 1) : Sp yX7_through uX7_through [.ref o, .int (nI j), .int x] n (q_blk f o (mD o cnt cl tn lost be by_ tc ta wa wr pl bi wo sh fa ch tp ir ow w)) (some (.int 2000000001), n, (q_blk f o (mD o cnt cl tn lost be by_ tc ta wa wr pl bi wo sh fa ch tp ir ow w))) := by
  refine Sp.ofF (by decide +kernel) rfl rfl (q_le rfl) ?_
  intro G d
  refine q_aload_n dX7_through_0 rfl ?_
  refine q_iload_n dX7_through_1 rfl ?_
  refine q_cW (c_isS_ok hcnt hj) dX7_through_2 kl_X7_118 rfl (q_blk_get (j := 0) rfl) rfl ⟨q_le rfl, q_le rfl⟩ (q_le rfl) (q_le rfl) (q_le rfl) ?_
  refine q_ifeq_b (tgt := 15) dX7_through_5 (by decide) (fun h_n => absurd (h_n.symm.trans (rfl)) (by decide)) (fun c_5 => ?_)
  refine q_iload_n dX7_through_8 rfl ?_
  refine q_cS (c_X7_isSample) dX7_through_9 kl_X7_210 rfl ⟨q_le rfl, q_le rfl⟩ (q_le rfl) (q_le rfl) (q_le rfl) ?_
  refine q_ifne_b (tgt := 18) dX7_through_12 (by decide) (fun c_12 => ?_) (fun h_n => absurd (h_n.symm.trans (hx)) (by decide))
  refine q_aload_n dX7_through_18 rfl ?_
  refine q_getf dX7_through_19 fl_X7_29 (q_blk_get (j := 0) rfl) rfl ?_
  refine q_iload_n dX7_through_22 rfl ?_
  refine q_zaldN dX7_through_23 (q_blk_get (j := 7) rfl) (k := j) rfl (by omega) (by decide) ?_
  refine q_if_eq (tgt := 37) dX7_through_24 (by decide) (fun h_n => absurd h_n (hp)) (fun c_24 => ?_)
  refine q_aload_n dX7_through_27 rfl ?_
  refine q_getf dX7_through_28 fl_X7_13 (q_blk_get (j := 0) rfl) rfl ?_
  refine q_iload_n dX7_through_31 rfl ?_
  refine q_ialdN dX7_through_32 (q_blk_get (j := 2) rfl) (k := j) rfl (by omega) (by decide) ?_
  refine q_iconst dX7_through_33 (v := 1) (by decide) ?_
  refine q_icmp_eq (tgt := 42) dX7_through_34 (by decide) (fun h_n => absurd h_n (hb)) (fun c_34 => ?_)
  refine q_ldc dX7_through_37 cn_X7_218 ?_
  refine q_goto (tgt := 48) dX7_through_39 (by decide) ?_
  exact q_iret dX7_through_48 rfl (rfl) (q_le rfl) (q_le rfl)

set_option maxHeartbeats 4000000 in
set_option maxRecDepth 100000 in
theorem m_through_ok {f : q_Hp} {n o cnt cl tn : Nat} {lost : Int32} {be by_ tc ta wa wr pl bi wo sh fa ch tp ir ow : Nat → Int32} {w : q_Dy} {j : Nat} {x : Int32} (hcnt : cnt ≤ 8) (hj : j < cnt) (hx : x_in x (-32768) 32767 = true) (hD : D_ok tc sh j) (hp : ¬ pl j = 0) (hb : by_ j = 1) : Sp yX7_through uX7_through [.ref o, .int (nI j), .int x] n (q_blk f o (mD o cnt cl tn lost be by_ tc ta wa wr pl bi wo sh fa ch tp ir ow w)) (some (.int (D_out tc ta wa wr sh fa j x w)), n, (q_blk f o (mD o cnt cl tn lost be by_ tc ta wa wr pl bi wo sh fa ch tp ir ow (D_comes tc ta wa wr sh fa j x w)))) := by
  refine Sp.ofF (by decide +kernel) rfl rfl (q_le rfl) ?_
  intro G d
  refine q_aload_n dX7_through_0 rfl ?_
  refine q_iload_n dX7_through_1 rfl ?_
  refine q_cW (c_isS_ok hcnt hj) dX7_through_2 kl_X7_118 rfl (q_blk_get (j := 0) rfl) rfl ⟨q_le rfl, q_le rfl⟩ (q_le rfl) (q_le rfl) (q_le rfl) ?_
  refine q_ifeq_b (tgt := 15) dX7_through_5 (by decide) (fun h_n => absurd (h_n.symm.trans (rfl)) (by decide)) (fun c_5 => ?_)
  refine q_iload_n dX7_through_8 rfl ?_
  refine q_cS (c_X7_isSample) dX7_through_9 kl_X7_210 rfl ⟨q_le rfl, q_le rfl⟩ (q_le rfl) (q_le rfl) (q_le rfl) ?_
  refine q_ifne_b (tgt := 18) dX7_through_12 (by decide) (fun c_12 => ?_) (fun h_n => absurd (h_n.symm.trans (hx)) (by decide))
  refine q_aload_n dX7_through_18 rfl ?_
  refine q_getf dX7_through_19 fl_X7_29 (q_blk_get (j := 0) rfl) rfl ?_
  refine q_iload_n dX7_through_22 rfl ?_
  refine q_zaldN dX7_through_23 (q_blk_get (j := 7) rfl) (k := j) rfl (by omega) (by decide) ?_
  refine q_if_eq (tgt := 37) dX7_through_24 (by decide) (fun h_n => absurd h_n (hp)) (fun c_24 => ?_)
  refine q_aload_n dX7_through_27 rfl ?_
  refine q_getf dX7_through_28 fl_X7_13 (q_blk_get (j := 0) rfl) rfl ?_
  refine q_iload_n dX7_through_31 rfl ?_
  refine q_ialdN dX7_through_32 (q_blk_get (j := 2) rfl) (k := j) rfl (by omega) (by decide) ?_
  refine q_iconst dX7_through_33 (v := 1) (by decide) ?_
  refine q_icmp_eq (tgt := 42) dX7_through_34 (by decide) (fun c_34 => ?_) (fun h_n => absurd (hb) h_n)
  refine q_aload_n dX7_through_42 rfl ?_
  refine q_iload_n dX7_through_43 rfl ?_
  refine q_iload_n dX7_through_44 rfl ?_
  refine q_cW (w_comes hcnt hj hD) dX7_through_45 kl_X7_195 rfl (q_blk_get (j := 0) rfl) rfl ⟨q_le rfl, q_le rfl⟩ (q_le rfl) (q_le rfl) (q_le rfl) ?_
  exact q_iret dX7_through_48 rfl (rfl) (q_le rfl) (q_le rfl)

set_option maxHeartbeats 4000000 in
set_option maxRecDepth 100000 in
theorem m_hasTold_bad {f : q_Hp} {n o cnt cl tn : Nat} {lost : Int32} {be by_ tc ta wa wr pl bi wo sh fa ca ph : Nat → Int32} {cm km gr : Nat → Int64} {kp : Nat → Int32} {su ro : Nat → Int64} {ou : Nat → Int32} {ex sz : Nat → Int64} {ww ch tp ir ow : Nat → Int32} {k : Int32} (hcnt : cnt ≤ 8) (hk : k < 0 ∨ nI cnt ≤ k) : Sp yX7_hasTold uX7_hasTold [.ref o, .int k] n (q_blk f o (mE o cnt cl tn lost be by_ tc ta wa wr pl bi wo sh fa ca ph cm km gr kp su ro ou ex sz ww ch tp ir ow)) (some (.int (q_b false)), n, (q_blk f o (mE o cnt cl tn lost be by_ tc ta wa wr pl bi wo sh fa ca ph cm km gr kp su ro ou ex sz ww ch tp ir ow))) := by
  refine Sp.ofF (by decide +kernel) rfl rfl (q_le rfl) ?_
  intro G d
  refine q_aload_n dX7_hasTold_0 rfl ?_
  refine q_iload_n dX7_hasTold_1 rfl ?_
  refine q_cW (c_isS_no hcnt hk) dX7_hasTold_2 kl_X7_118 rfl (q_blk_get (j := 0) rfl) rfl ⟨q_le rfl, q_le rfl⟩ (q_le rfl) (q_le rfl) (q_le rfl) ?_
  refine q_ifeq_b (tgt := 30) dX7_hasTold_5 (by decide) (fun c_5 => ?_) (fun h_n => absurd (h_n.symm.trans (rfl)) (by decide))
  refine q_iconst dX7_hasTold_30 (v := 0) (by decide) ?_
  exact q_zret dX7_hasTold_31 rfl rfl (rfl) (q_le rfl) (q_le rfl)

def m_ht (pl kp : Nat → Int32) (j : Nat) : Bool := !decide (pl j = 0) && !decide (kp j = 0)
set_option maxHeartbeats 4000000 in
set_option maxRecDepth 100000 in
theorem m_hasTold_ok {f : q_Hp} {n o cnt cl tn : Nat} {lost : Int32} {be by_ tc ta wa wr pl bi wo sh fa ca ph : Nat → Int32} {cm km gr : Nat → Int64} {kp : Nat → Int32} {su ro : Nat → Int64} {ou : Nat → Int32} {ex sz : Nat → Int64} {ww ch tp ir ow : Nat → Int32} {j : Nat} (hcnt : cnt ≤ 8) (hj : j < cnt) : Sp yX7_hasTold uX7_hasTold [.ref o, .int (nI j)] n (q_blk f o (mE o cnt cl tn lost be by_ tc ta wa wr pl bi wo sh fa ca ph cm km gr kp su ro ou ex sz ww ch tp ir ow)) (some (.int (q_b (m_ht pl kp j))), n, (q_blk f o (mE o cnt cl tn lost be by_ tc ta wa wr pl bi wo sh fa ca ph cm km gr kp su ro ou ex sz ww ch tp ir ow))) := by
  refine Sp.ofF (by decide +kernel) rfl rfl (q_le rfl) ?_
  intro G d
  refine q_aload_n dX7_hasTold_0 rfl ?_
  refine q_iload_n dX7_hasTold_1 rfl ?_
  refine q_cW (c_isS_ok hcnt hj) dX7_hasTold_2 kl_X7_118 rfl (q_blk_get (j := 0) rfl) rfl ⟨q_le rfl, q_le rfl⟩ (q_le rfl) (q_le rfl) (q_le rfl) ?_
  refine q_ifeq_b (tgt := 30) dX7_hasTold_5 (by decide) (fun h_n => absurd (h_n.symm.trans (rfl)) (by decide)) (fun c_5 => ?_)
  refine q_aload_n dX7_hasTold_8 rfl ?_
  refine q_getf dX7_hasTold_9 fl_X7_29 (q_blk_get (j := 0) rfl) rfl ?_
  refine q_iload_n dX7_hasTold_12 rfl ?_
  refine q_zaldN dX7_hasTold_13 (q_blk_get (j := 7) rfl) (k := j) rfl (by omega) (by decide) ?_
  refine q_if_eq (tgt := 30) dX7_hasTold_14 (by decide) (fun c_14 => ?_) (fun c_14 => ?_)
  · refine q_iconst dX7_hasTold_30 (v := 0) (by decide) ?_
    exact q_zret dX7_hasTold_31 rfl rfl (by simp [m_ht, q_b, c_14]) (q_le rfl) (q_le rfl)
  · refine q_aload_n dX7_hasTold_17 rfl ?_
    refine q_getf dX7_hasTold_18 fl_X7_60 (q_blk_get (j := 0) rfl) rfl ?_
    refine q_iload_n dX7_hasTold_21 rfl ?_
    refine q_zaldN dX7_hasTold_22 (q_blk_get (j := 17) rfl) (k := j) rfl (by omega) (by decide) ?_
    refine q_if_eq (tgt := 30) dX7_hasTold_23 (by decide) (fun c_23 => ?_) (fun c_23 => ?_)
    · refine q_iconst dX7_hasTold_30 (v := 0) (by decide) ?_
      exact q_zret dX7_hasTold_31 rfl rfl (by simp [m_ht, q_b, c_14, c_23]) (q_le rfl) (q_le rfl)
    · refine q_iconst dX7_hasTold_26 (v := 1) (by decide) ?_
      refine q_goto (tgt := 31) dX7_hasTold_27 (by decide) ?_
      exact q_zret dX7_hasTold_31 rfl rfl (by simp [m_ht, q_b, c_14, c_23]) (q_le rfl) (q_le rfl)

def m_told (tc fa pl : Nat → Int32) (kp : Nat → Int32) (su ro : Nat → Int64) (ou : Nat → Int32) (ex : Nat → Int64) (j c : Nat) (v : Int32) : Int64 := bif m_ht pl kp j then (if v = 0 then su j else if v = 1 then ro j else if v = 2 then (ou j).toInt64 else if v = 3 then ex j else if v = 4 then m_nrm fa j c * 32768 else 0) else 0
def m_nr (pl kp sh be : Nat → Int32) (ro ex sz : Nat → Int64) (ww : Nat → Int32) (j : Nat) : Int32 := bif m_ht pl kp j then (if (sz j + (if 2 ≤ ww j then m_one (sh j) else 2 * m_one (sh j))) * (be j).toInt64 / (2 * m_one (sh j)) < m_abs (ro j * (be j).toInt64 - ex j) then 0 else 1) else -3
def m_cntd (pl : Nat → Int32) (cm km gr : Nat → Int64) (j : Nat) (v : Int32) : Int64 := if pl j = 0 then 0 else if v = 0 then cm j else if v = 1 then km j else gr j
def m_count (cnt cl tn : Nat) (lost v : Int32) : Int32 := if v = 0 then nI cnt else if v = 1 then nI cl else if v = 2 then nI tn else if v = 3 then lost else -2
set_option maxHeartbeats 4000000 in
set_option maxRecDepth 100000 in
theorem m_told_bad {f : q_Hp} {n o cnt cl tn : Nat} {lost : Int32} {be by_ tc ta wa wr pl bi wo sh fa ca ph : Nat → Int32} {cm km gr : Nat → Int64} {kp : Nat → Int32} {su ro : Nat → Int64} {ou : Nat → Int32} {ex sz : Nat → Int64} {ww ch tp ir ow : Nat → Int32} {k v : Int32} (hcnt : cnt ≤ 8) (hk : k < 0 ∨ nI cnt ≤ k) : Sp yX7_told uX7_told [.ref o, .int k, .int v] n (q_blk f o (mE o cnt cl tn lost be by_ tc ta wa wr pl bi wo sh fa ca ph cm km gr kp su ro ou ex sz ww ch tp ir ow)) (some (.long 0), n, (q_blk f o (mE o cnt cl tn lost be by_ tc ta wa wr pl bi wo sh fa ca ph cm km gr kp su ro ou ex sz ww ch tp ir ow))) := by
  refine Sp.ofF (by decide +kernel) rfl rfl (q_le rfl) ?_
  intro G d
  refine q_aload_n dX7_told_0 rfl ?_
  refine q_iload_n dX7_told_1 rfl ?_
  refine q_cW (m_hasTold_bad hcnt hk) dX7_told_2 kl_X7_219 rfl (q_blk_get (j := 0) rfl) rfl ⟨q_le rfl, q_le rfl⟩ (q_le rfl) (q_le rfl) (q_le rfl) ?_
  refine q_ifne_b (tgt := 10) dX7_told_5 (by decide) (fun h_n => absurd (h_n.symm.trans (rfl)) (by decide)) (fun c_5 => ?_)
  refine q_lconst dX7_told_8 (v := 0) (by decide) ?_
  exact q_lret dX7_told_9 rfl (rfl) (q_le rfl) (q_le rfl)

set_option maxHeartbeats 4000000 in
set_option maxRecDepth 100000 in
theorem m_told_ok {f : q_Hp} {n o cnt cl tn : Nat} {lost : Int32} {be by_ tc ta wa wr pl bi wo sh fa ca ph : Nat → Int32} {cm km gr : Nat → Int64} {kp : Nat → Int32} {su ro : Nat → Int64} {ou : Nat → Int32} {ex sz : Nat → Int64} {ww ch tp ir ow : Nat → Int32} {j c : Nat} {v : Int32} (hcnt : cnt ≤ 8) (hj : j < cnt) (hc : c ≤ 32) (htc : tc j = nI c) : Sp yX7_told uX7_told [.ref o, .int (nI j), .int v] n (q_blk f o (mE o cnt cl tn lost be by_ tc ta wa wr pl bi wo sh fa ca ph cm km gr kp su ro ou ex sz ww ch tp ir ow)) (some (.long (m_told tc fa pl kp su ro ou ex j c v)), n, (q_blk f o (mE o cnt cl tn lost be by_ tc ta wa wr pl bi wo sh fa ca ph cm km gr kp su ro ou ex sz ww ch tp ir ow))) := by
  refine Sp.ofF (by decide +kernel) rfl rfl (q_le rfl) ?_
  intro G d
  refine q_aload_n dX7_told_0 rfl ?_
  refine q_iload_n dX7_told_1 rfl ?_
  refine q_cW (m_hasTold_ok hcnt hj) dX7_told_2 kl_X7_219 rfl (q_blk_get (j := 0) rfl) rfl ⟨q_le rfl, q_le rfl⟩ (q_le rfl) (q_le rfl) (q_le rfl) ?_
  refine q_ifne_b (tgt := 10) dX7_told_5 (by decide) (fun c_5 => ?_) (fun c_5 => ?_)
  · refine q_iload_n dX7_told_10 rfl ?_
    by_cases s_11_0 : v = 0
    · refine q_tblIn (off := 33) (tgt := 44) dX7_told_11 (by rw [s_11_0]; decide) (by rw [s_11_0]; decide) (by rw [s_11_0]; rfl) (by decide) ?_
      refine q_aload_n dX7_told_44 rfl ?_
      refine q_getf dX7_told_45 fl_X7_63 (q_blk_get (j := 0) rfl) rfl ?_
      refine q_iload_n dX7_told_48 rfl ?_
      refine q_laldN dX7_told_49 (q_blk_get (j := 18) rfl) (k := j) rfl (by omega) (by decide) ?_
      exact q_lret dX7_told_50 rfl (by unfold m_told; rw [c_5, cond_true, if_pos s_11_0] <;> rfl) (q_le rfl) (q_le rfl)
    by_cases s_11_1 : v = 1
    · refine q_tblIn (off := 40) (tgt := 51) dX7_told_11 (by rw [s_11_1]; decide) (by rw [s_11_1]; decide) (by rw [s_11_1]; rfl) (by decide) ?_
      refine q_aload_n dX7_told_51 rfl ?_
      refine q_getf dX7_told_52 fl_X7_66 (q_blk_get (j := 0) rfl) rfl ?_
      refine q_iload_n dX7_told_55 rfl ?_
      refine q_laldN dX7_told_56 (q_blk_get (j := 19) rfl) (k := j) rfl (by omega) (by decide) ?_
      exact q_lret dX7_told_57 rfl (by unfold m_told; rw [c_5, cond_true, if_neg s_11_0, if_pos s_11_1] <;> rfl) (q_le rfl) (q_le rfl)
    by_cases s_11_2 : v = 2
    · refine q_tblIn (off := 47) (tgt := 58) dX7_told_11 (by rw [s_11_2]; decide) (by rw [s_11_2]; decide) (by rw [s_11_2]; rfl) (by decide) ?_
      refine q_aload_n dX7_told_58 rfl ?_
      refine q_getf dX7_told_59 fl_X7_69 (q_blk_get (j := 0) rfl) rfl ?_
      refine q_iload_n dX7_told_62 rfl ?_
      refine q_ialdN dX7_told_63 (q_blk_get (j := 20) rfl) (k := j) rfl (by omega) (by decide) ?_
      refine q_i2l dX7_told_64 ?_
      exact q_lret dX7_told_65 rfl (by unfold m_told; rw [c_5, cond_true, if_neg s_11_0, if_neg s_11_1, if_pos s_11_2] <;> rfl) (q_le rfl) (q_le rfl)
    by_cases s_11_3 : v = 3
    · refine q_tblIn (off := 55) (tgt := 66) dX7_told_11 (by rw [s_11_3]; decide) (by rw [s_11_3]; decide) (by rw [s_11_3]; rfl) (by decide) ?_
      refine q_aload_n dX7_told_66 rfl ?_
      refine q_getf dX7_told_67 fl_X7_72 (q_blk_get (j := 0) rfl) rfl ?_
      refine q_iload_n dX7_told_70 rfl ?_
      refine q_laldN dX7_told_71 (q_blk_get (j := 21) rfl) (k := j) rfl (by omega) (by decide) ?_
      exact q_lret dX7_told_72 rfl (by unfold m_told; rw [c_5, cond_true, if_neg s_11_0, if_neg s_11_1, if_neg s_11_2, if_pos s_11_3] <;> rfl) (q_le rfl) (q_le rfl)
    by_cases s_11_4 : v = 4
    · refine q_tblIn (off := 62) (tgt := 73) dX7_told_11 (by rw [s_11_4]; decide) (by rw [s_11_4]; decide) (by rw [s_11_4]; rfl) (by decide) ?_
      refine q_aload_n dX7_told_73 rfl ?_
      refine q_iload_n dX7_told_74 rfl ?_
      refine q_cW (m_normOf hcnt hj hc htc) dX7_told_75 kl_X7_183 rfl (q_blk_get (j := 0) rfl) rfl ⟨q_le rfl, q_le rfl⟩ (q_le rfl) (q_le rfl) (q_le rfl) ?_
      refine q_ldc2 dX7_told_78 cn_X7_149 ?_
      refine q_lmul dX7_told_81 ?_
      exact q_lret dX7_told_82 rfl (by unfold m_told; rw [c_5, cond_true, if_neg s_11_0, if_neg s_11_1, if_neg s_11_2, if_neg s_11_3, if_pos s_11_4] <;> rfl) (q_le rfl) (q_le rfl)
    have is_11_0 := q_ne s_11_0 (i := 0) (by decide)
    have is_11_1 := q_ne s_11_1 (i := 1) (by decide)
    have is_11_2 := q_ne s_11_2 (i := 2) (by decide)
    have is_11_3 := q_ne s_11_3 (i := 3) (by decide)
    have is_11_4 := q_ne s_11_4 (i := 4) (by decide)
    refine q_tblOut (tgt := 83) dX7_told_11 (by omega) (by decide) ?_
    refine q_lconst dX7_told_83 (v := 0) (by decide) ?_
    exact q_lret dX7_told_84 rfl (by unfold m_told; rw [c_5, cond_true, if_neg s_11_0, if_neg s_11_1, if_neg s_11_2, if_neg s_11_3, if_neg s_11_4] <;> rfl) (q_le rfl) (q_le rfl)
  · refine q_lconst dX7_told_8 (v := 0) (by decide) ?_
    exact q_lret dX7_told_9 rfl (by unfold m_told; rw [c_5]; rfl) (q_le rfl) (q_le rfl)

set_option maxHeartbeats 4000000 in
set_option maxRecDepth 100000 in
theorem m_near_bad {f : q_Hp} {n o cnt cl tn : Nat} {lost : Int32} {be by_ tc ta wa wr pl bi wo sh fa ca ph : Nat → Int32} {cm km gr : Nat → Int64} {kp : Nat → Int32} {su ro : Nat → Int64} {ou : Nat → Int32} {ex sz : Nat → Int64} {ww ch tp ir ow : Nat → Int32} {k : Int32} (hcnt : cnt ≤ 8) (hk : k < 0 ∨ nI cnt ≤ k) : Sp yX7_near uX7_near [.ref o, .int k] n (q_blk f o (mE o cnt cl tn lost be by_ tc ta wa wr pl bi wo sh fa ca ph cm km gr kp su ro ou ex sz ww ch tp ir ow)) (some (.int (-2)), n, (q_blk f o (mE o cnt cl tn lost be by_ tc ta wa wr pl bi wo sh fa ca ph cm km gr kp su ro ou ex sz ww ch tp ir ow))) := by
  refine Sp.ofF (by decide +kernel) rfl rfl (q_le rfl) ?_
  intro G d
  refine q_aload_n dX7_near_0 rfl ?_
  refine q_iload_n dX7_near_1 rfl ?_
  refine q_cW (c_isS_no hcnt hk) dX7_near_2 kl_X7_118 rfl (q_blk_get (j := 0) rfl) rfl ⟨q_le rfl, q_le rfl⟩ (q_le rfl) (q_le rfl) (q_le rfl) ?_
  refine q_ifne_b (tgt := 11) dX7_near_5 (by decide) (fun h_n => absurd (h_n.symm.trans (rfl)) (by decide)) (fun c_5 => ?_)
  refine q_bipush dX7_near_8 (v := (-2)) (by decide) ?_
  exact q_iret dX7_near_10 rfl (rfl) (q_le rfl) (q_le rfl)

set_option maxHeartbeats 4000000 in
set_option maxRecDepth 100000 in
theorem m_near_ok {f : q_Hp} {n o cnt cl tn : Nat} {lost : Int32} {be by_ tc ta wa wr pl bi wo sh fa ca ph : Nat → Int32} {cm km gr : Nat → Int64} {kp : Nat → Int32} {su ro : Nat → Int64} {ou : Nat → Int32} {ex sz : Nat → Int64} {ww ch tp ir ow : Nat → Int32} {j : Nat} (hcnt : cnt ≤ 8) (hj : j < cnt) (h2 : ¬ 2 * m_one (sh j) = 0) : Sp yX7_near uX7_near [.ref o, .int (nI j)] n (q_blk f o (mE o cnt cl tn lost be by_ tc ta wa wr pl bi wo sh fa ca ph cm km gr kp su ro ou ex sz ww ch tp ir ow)) (some (.int (m_nr pl kp sh be ro ex sz ww j)), n, (q_blk f o (mE o cnt cl tn lost be by_ tc ta wa wr pl bi wo sh fa ca ph cm km gr kp su ro ou ex sz ww ch tp ir ow))) := by
  refine Sp.ofF (by decide +kernel) rfl rfl (q_le rfl) ?_
  intro G d
  refine q_aload_n dX7_near_0 rfl ?_
  refine q_iload_n dX7_near_1 rfl ?_
  refine q_cW (c_isS_ok hcnt hj) dX7_near_2 kl_X7_118 rfl (q_blk_get (j := 0) rfl) rfl ⟨q_le rfl, q_le rfl⟩ (q_le rfl) (q_le rfl) (q_le rfl) ?_
  refine q_ifne_b (tgt := 11) dX7_near_5 (by decide) (fun c_5 => ?_) (fun h_n => absurd (h_n.symm.trans (rfl)) (by decide))
  refine q_aload_n dX7_near_11 rfl ?_
  refine q_iload_n dX7_near_12 rfl ?_
  refine q_cW (m_hasTold_ok hcnt hj) dX7_near_13 kl_X7_219 rfl (q_blk_get (j := 0) rfl) rfl ⟨q_le rfl, q_le rfl⟩ (q_le rfl) (q_le rfl) (q_le rfl) ?_
  refine q_ifne_b (tgt := 22) dX7_near_16 (by decide) (fun c_16 => ?_) (fun c_16 => ?_)
  · refine q_lconst dX7_near_22 (v := 1) (by decide) ?_
    refine q_aload_n dX7_near_23 rfl ?_
    refine q_getf dX7_near_24 fl_X7_38 (q_blk_get (j := 0) rfl) rfl ?_
    refine q_iload_n dX7_near_27 rfl ?_
    refine q_ialdN dX7_near_28 (q_blk_get (j := 10) rfl) (k := j) rfl (by omega) (by decide) ?_
    refine q_lshl dX7_near_29 ?_
    refine q_lstore_n dX7_near_30 (q_le rfl) ?_
    refine q_aload_n dX7_near_31 rfl ?_
    refine q_getf dX7_near_32 fl_X7_66 (q_blk_get (j := 0) rfl) rfl ?_
    refine q_iload_n dX7_near_35 rfl ?_
    refine q_laldN dX7_near_36 (q_blk_get (j := 19) rfl) (k := j) rfl (by omega) (by decide) ?_
    refine q_aload_n dX7_near_37 rfl ?_
    refine q_getf dX7_near_38 fl_X7_7 (q_blk_get (j := 0) rfl) rfl ?_
    refine q_iload_n dX7_near_41 rfl ?_
    refine q_ialdN dX7_near_42 (q_blk_get (j := 1) rfl) (k := j) rfl (by omega) (by decide) ?_
    refine q_i2l dX7_near_43 ?_
    refine q_lmul dX7_near_44 ?_
    refine q_aload_n dX7_near_45 rfl ?_
    refine q_getf dX7_near_46 fl_X7_72 (q_blk_get (j := 0) rfl) rfl ?_
    refine q_iload_n dX7_near_49 rfl ?_
    refine q_laldN dX7_near_50 (q_blk_get (j := 21) rfl) (k := j) rfl (by omega) (by decide) ?_
    refine q_lsub dX7_near_51 ?_
    refine q_cS (c_X7_size) dX7_near_52 kl_X7_145 rfl ⟨q_le rfl, q_le rfl⟩ (q_le rfl) (q_le rfl) (q_le rfl) ?_
    refine q_lstore dX7_near_55 (q_le rfl) ?_
    refine q_aload_n dX7_near_57 rfl ?_
    refine q_getf dX7_near_58 fl_X7_75 (q_blk_get (j := 0) rfl) rfl ?_
    refine q_iload_n dX7_near_61 rfl ?_
    refine q_laldN dX7_near_62 (q_blk_get (j := 22) rfl) (k := j) rfl (by omega) (by decide) ?_
    refine q_aload_n dX7_near_63 rfl ?_
    refine q_getf dX7_near_64 fl_X7_78 (q_blk_get (j := 0) rfl) rfl ?_
    refine q_iload_n dX7_near_67 rfl ?_
    refine q_ialdN dX7_near_68 (q_blk_get (j := 23) rfl) (k := j) rfl (by omega) (by decide) ?_
    refine q_iconst dX7_near_69 (v := 2) (by decide) ?_
    refine q_icmp_ge (tgt := 81) dX7_near_70 (by decide) (fun c_70 => ?_) (fun c_70 => ?_)
    · refine q_lload_n dX7_near_81 rfl ?_
      refine q_ladd dX7_near_82 ?_
      refine q_aload_n dX7_near_83 rfl ?_
      refine q_getf dX7_near_84 fl_X7_7 (q_blk_get (j := 0) rfl) rfl ?_
      refine q_iload_n dX7_near_87 rfl ?_
      refine q_ialdN dX7_near_88 (q_blk_get (j := 1) rfl) (k := j) rfl (by omega) (by decide) ?_
      refine q_i2l dX7_near_89 ?_
      refine q_lmul dX7_near_90 ?_
      refine q_lstore dX7_near_91 (q_le rfl) ?_
      refine q_lload dX7_near_93 rfl ?_
      refine q_lload dX7_near_95 rfl ?_
      refine q_ldc2 dX7_near_97 cn_X7_136 ?_
      refine q_lload_n dX7_near_100 rfl ?_
      refine q_lmul dX7_near_101 ?_
      refine q_ldiv dX7_near_102 h2 ?_
      refine q_lcmp_gt (tgt := 111) dX7_near_103 dX7_near_104 (by decide) (fun c_103 => ?_) (fun c_103 => ?_)
      · refine q_iconst dX7_near_111 (v := 0) (by decide) ?_
        exact q_iret dX7_near_112 rfl (by unfold m_nr; rw [c_16, cond_true, if_pos c_70, if_pos c_103] <;> rfl) (q_le rfl) (q_le rfl)
      · refine q_iconst dX7_near_107 (v := 1) (by decide) ?_
        refine q_goto (tgt := 112) dX7_near_108 (by decide) ?_
        exact q_iret dX7_near_112 rfl (by unfold m_nr; rw [c_16, cond_true, if_pos c_70, if_neg c_103] <;> rfl) (q_le rfl) (q_le rfl)
    · refine q_ldc2 dX7_near_73 cn_X7_136 ?_
      refine q_lload_n dX7_near_76 rfl ?_
      refine q_lmul dX7_near_77 ?_
      refine q_goto (tgt := 82) dX7_near_78 (by decide) ?_
      refine q_ladd dX7_near_82 ?_
      refine q_aload_n dX7_near_83 rfl ?_
      refine q_getf dX7_near_84 fl_X7_7 (q_blk_get (j := 0) rfl) rfl ?_
      refine q_iload_n dX7_near_87 rfl ?_
      refine q_ialdN dX7_near_88 (q_blk_get (j := 1) rfl) (k := j) rfl (by omega) (by decide) ?_
      refine q_i2l dX7_near_89 ?_
      refine q_lmul dX7_near_90 ?_
      refine q_lstore dX7_near_91 (q_le rfl) ?_
      refine q_lload dX7_near_93 rfl ?_
      refine q_lload dX7_near_95 rfl ?_
      refine q_ldc2 dX7_near_97 cn_X7_136 ?_
      refine q_lload_n dX7_near_100 rfl ?_
      refine q_lmul dX7_near_101 ?_
      refine q_ldiv dX7_near_102 h2 ?_
      refine q_lcmp_gt (tgt := 111) dX7_near_103 dX7_near_104 (by decide) (fun c_103 => ?_) (fun c_103 => ?_)
      · refine q_iconst dX7_near_111 (v := 0) (by decide) ?_
        exact q_iret dX7_near_112 rfl (by unfold m_nr; rw [c_16, cond_true, if_neg c_70, if_pos c_103] <;> rfl) (q_le rfl) (q_le rfl)
      · refine q_iconst dX7_near_107 (v := 1) (by decide) ?_
        refine q_goto (tgt := 112) dX7_near_108 (by decide) ?_
        exact q_iret dX7_near_112 rfl (by unfold m_nr; rw [c_16, cond_true, if_neg c_70, if_neg c_103] <;> rfl) (q_le rfl) (q_le rfl)
  · refine q_bipush dX7_near_19 (v := (-3)) (by decide) ?_
    exact q_iret dX7_near_21 rfl (by unfold m_nr; rw [c_16]; rfl) (q_le rfl) (q_le rfl)

set_option maxHeartbeats 4000000 in
set_option maxRecDepth 100000 in
theorem m_cntd_bad {f : q_Hp} {n o cnt cl tn : Nat} {lost : Int32} {be by_ tc ta wa wr pl bi wo sh fa ca ph : Nat → Int32} {cm km gr : Nat → Int64} {kp : Nat → Int32} {su ro : Nat → Int64} {ou : Nat → Int32} {ex sz : Nat → Int64} {ww ch tp ir ow : Nat → Int32} {k v : Int32} (hcnt : cnt ≤ 8) (hk : k < 0 ∨ nI cnt ≤ k) : Sp yX7_counted uX7_counted [.ref o, .int k, .int v] n (q_blk f o (mE o cnt cl tn lost be by_ tc ta wa wr pl bi wo sh fa ca ph cm km gr kp su ro ou ex sz ww ch tp ir ow)) (some (.long (-2)), n, (q_blk f o (mE o cnt cl tn lost be by_ tc ta wa wr pl bi wo sh fa ca ph cm km gr kp su ro ou ex sz ww ch tp ir ow))) := by
  refine Sp.ofF (by decide +kernel) rfl rfl (q_le rfl) ?_
  intro G d
  refine q_aload_n dX7_counted_0 rfl ?_
  refine q_iload_n dX7_counted_1 rfl ?_
  refine q_cW (c_isS_no hcnt hk) dX7_counted_2 kl_X7_118 rfl (q_blk_get (j := 0) rfl) rfl ⟨q_le rfl, q_le rfl⟩ (q_le rfl) (q_le rfl) (q_le rfl) ?_
  refine q_ifeq_b (tgt := 20) dX7_counted_5 (by decide) (fun c_5 => ?_) (fun h_n => absurd (h_n.symm.trans (rfl)) (by decide))
  refine q_ldc2 dX7_counted_20 cn_X7_107 ?_
  exact q_lret dX7_counted_23 rfl (rfl) (q_le rfl) (q_le rfl)

set_option maxHeartbeats 4000000 in
set_option maxRecDepth 100000 in
theorem m_cntd_rng {f : q_Hp} {n o cnt cl tn : Nat} {lost : Int32} {be by_ tc ta wa wr pl bi wo sh fa ca ph : Nat → Int32} {cm km gr : Nat → Int64} {kp : Nat → Int32} {su ro : Nat → Int64} {ou : Nat → Int32} {ex sz : Nat → Int64} {ww ch tp ir ow : Nat → Int32} {j : Nat} {v : Int32} (hcnt : cnt ≤ 8) (hj : j < cnt) (hx : x_in v 0 2 = false) : Sp yX7_counted uX7_counted [.ref o, .int (nI j), .int v] n (q_blk f o (mE o cnt cl tn lost be by_ tc ta wa wr pl bi wo sh fa ca ph cm km gr kp su ro ou ex sz ww ch tp ir ow)) (some (.long (-2)), n, (q_blk f o (mE o cnt cl tn lost be by_ tc ta wa wr pl bi wo sh fa ca ph cm km gr kp su ro ou ex sz ww ch tp ir ow))) := by
  refine Sp.ofF (by decide +kernel) rfl rfl (q_le rfl) ?_
  intro G d
  refine q_aload_n dX7_counted_0 rfl ?_
  refine q_iload_n dX7_counted_1 rfl ?_
  refine q_cW (c_isS_ok hcnt hj) dX7_counted_2 kl_X7_118 rfl (q_blk_get (j := 0) rfl) rfl ⟨q_le rfl, q_le rfl⟩ (q_le rfl) (q_le rfl) (q_le rfl) ?_
  refine q_ifeq_b (tgt := 20) dX7_counted_5 (by decide) (fun h_n => absurd (h_n.symm.trans (rfl)) (by decide)) (fun c_5 => ?_)
  refine q_iload_n dX7_counted_8 rfl ?_
  refine q_i2l dX7_counted_9 ?_
  refine q_lconst dX7_counted_10 (v := 0) (by decide) ?_
  refine q_ldc2 dX7_counted_11 cn_X7_136 ?_
  refine q_cS (c_in_x 0 2 rfl rfl) dX7_counted_14 kl_X7_97 rfl ⟨q_le rfl, q_le rfl⟩ (q_le rfl) (q_le rfl) (q_le rfl) ?_
  refine q_ifne_b (tgt := 24) dX7_counted_17 (by decide) (fun h_n => absurd (h_n.symm.trans (hx)) (by decide)) (fun c_17 => ?_)
  refine q_ldc2 dX7_counted_20 cn_X7_107 ?_
  exact q_lret dX7_counted_23 rfl (rfl) (q_le rfl) (q_le rfl)

set_option maxHeartbeats 4000000 in
set_option maxRecDepth 100000 in
theorem m_cntd_ok {f : q_Hp} {n o cnt cl tn : Nat} {lost : Int32} {be by_ tc ta wa wr pl bi wo sh fa ca ph : Nat → Int32} {cm km gr : Nat → Int64} {kp : Nat → Int32} {su ro : Nat → Int64} {ou : Nat → Int32} {ex sz : Nat → Int64} {ww ch tp ir ow : Nat → Int32} {j : Nat} {v : Int32} (hcnt : cnt ≤ 8) (hj : j < cnt) (hx : x_in v 0 2 = true) : Sp yX7_counted uX7_counted [.ref o, .int (nI j), .int v] n (q_blk f o (mE o cnt cl tn lost be by_ tc ta wa wr pl bi wo sh fa ca ph cm km gr kp su ro ou ex sz ww ch tp ir ow)) (some (.long (m_cntd pl cm km gr j v)), n, (q_blk f o (mE o cnt cl tn lost be by_ tc ta wa wr pl bi wo sh fa ca ph cm km gr kp su ro ou ex sz ww ch tp ir ow))) := by
  refine Sp.ofF (by decide +kernel) rfl rfl (q_le rfl) ?_
  intro G d
  refine q_aload_n dX7_counted_0 rfl ?_
  refine q_iload_n dX7_counted_1 rfl ?_
  refine q_cW (c_isS_ok hcnt hj) dX7_counted_2 kl_X7_118 rfl (q_blk_get (j := 0) rfl) rfl ⟨q_le rfl, q_le rfl⟩ (q_le rfl) (q_le rfl) (q_le rfl) ?_
  refine q_ifeq_b (tgt := 20) dX7_counted_5 (by decide) (fun h_n => absurd (h_n.symm.trans (rfl)) (by decide)) (fun c_5 => ?_)
  refine q_iload_n dX7_counted_8 rfl ?_
  refine q_i2l dX7_counted_9 ?_
  refine q_lconst dX7_counted_10 (v := 0) (by decide) ?_
  refine q_ldc2 dX7_counted_11 cn_X7_136 ?_
  refine q_cS (c_in_x 0 2 rfl rfl) dX7_counted_14 kl_X7_97 rfl ⟨q_le rfl, q_le rfl⟩ (q_le rfl) (q_le rfl) (q_le rfl) ?_
  refine q_ifne_b (tgt := 24) dX7_counted_17 (by decide) (fun c_17 => ?_) (fun h_n => absurd (h_n.symm.trans (hx)) (by decide))
  refine q_aload_n dX7_counted_24 rfl ?_
  refine q_getf dX7_counted_25 fl_X7_29 (q_blk_get (j := 0) rfl) rfl ?_
  refine q_iload_n dX7_counted_28 rfl ?_
  refine q_zaldN dX7_counted_29 (q_blk_get (j := 7) rfl) (k := j) rfl (by omega) (by decide) ?_
  refine q_if_ne (tgt := 37) dX7_counted_30 (by decide) (fun c_30 => ?_) (fun c_30 => ?_)
  · refine q_iload_n dX7_counted_37 rfl ?_
    refine q_if_ne (tgt := 50) dX7_counted_38 (by decide) (fun c_38 => ?_) (fun c_38 => ?_)
    · refine q_iload_n dX7_counted_50 rfl ?_
      refine q_iconst dX7_counted_51 (v := 1) (by decide) ?_
      refine q_icmp_ne (tgt := 64) dX7_counted_52 (by decide) (fun c_52 => ?_) (fun c_52 => ?_)
      · refine q_aload_n dX7_counted_64 rfl ?_
        refine q_getf dX7_counted_65 fl_X7_57 (q_blk_get (j := 0) rfl) rfl ?_
        refine q_iload_n dX7_counted_68 rfl ?_
        refine q_laldN dX7_counted_69 (q_blk_get (j := 16) rfl) (k := j) rfl (by omega) (by decide) ?_
        exact q_lret dX7_counted_70 rfl (by unfold m_cntd; rw [if_neg c_30, if_neg c_38, if_neg c_52]) (q_le rfl) (q_le rfl)
      · refine q_aload_n dX7_counted_55 rfl ?_
        refine q_getf dX7_counted_56 fl_X7_54 (q_blk_get (j := 0) rfl) rfl ?_
        refine q_iload_n dX7_counted_59 rfl ?_
        refine q_laldN dX7_counted_60 (q_blk_get (j := 15) rfl) (k := j) rfl (by omega) (by decide) ?_
        refine q_goto (tgt := 70) dX7_counted_61 (by decide) ?_
        exact q_lret dX7_counted_70 rfl (by unfold m_cntd; rw [if_neg c_30, if_neg c_38, if_pos c_52]) (q_le rfl) (q_le rfl)
    · refine q_aload_n dX7_counted_41 rfl ?_
      refine q_getf dX7_counted_42 fl_X7_50 (q_blk_get (j := 0) rfl) rfl ?_
      refine q_iload_n dX7_counted_45 rfl ?_
      refine q_laldN dX7_counted_46 (q_blk_get (j := 14) rfl) (k := j) rfl (by omega) (by decide) ?_
      refine q_goto (tgt := 70) dX7_counted_47 (by decide) ?_
      exact q_lret dX7_counted_70 rfl (by unfold m_cntd; rw [if_neg c_30, if_pos c_38]) (q_le rfl) (q_le rfl)
  · refine q_lconst dX7_counted_33 (v := 0) (by decide) ?_
    refine q_goto (tgt := 70) dX7_counted_34 (by decide) ?_
    exact q_lret dX7_counted_70 rfl (by unfold m_cntd; rw [if_pos c_30]) (q_le rfl) (q_le rfl)

set_option maxHeartbeats 4000000 in
set_option maxRecDepth 100000 in
theorem m_count_c {f : q_Hp} {n o cnt cl tn : Nat} {lost : Int32} {be by_ tc ta wa wr pl bi wo sh fa ca ph : Nat → Int32} {cm km gr : Nat → Int64} {kp : Nat → Int32} {su ro : Nat → Int64} {ou : Nat → Int32} {ex sz : Nat → Int64} {ww ch tp ir ow : Nat → Int32} {v : Int32} (hcnt : cnt ≤ 8)  : Sp yX7_count uX7_count [.ref o, .int v] n (q_blk f o (mE o cnt cl tn lost be by_ tc ta wa wr pl bi wo sh fa ca ph cm km gr kp su ro ou ex sz ww ch tp ir ow)) (some (.int (m_count cnt cl tn lost v)), n, (q_blk f o (mE o cnt cl tn lost be by_ tc ta wa wr pl bi wo sh fa ca ph cm km gr kp su ro ou ex sz ww ch tp ir ow))) := by
  refine Sp.ofF (by decide +kernel) rfl rfl (q_le rfl) ?_
  intro G d
  refine q_iload_n dX7_count_0 rfl ?_
  refine q_if_ne (tgt := 11) dX7_count_1 (by decide) (fun c_1 => ?_) (fun c_1 => ?_)
  · refine q_iload_n dX7_count_11 rfl ?_
    refine q_iconst dX7_count_12 (v := 1) (by decide) ?_
    refine q_icmp_ne (tgt := 23) dX7_count_13 (by decide) (fun c_13 => ?_) (fun c_13 => ?_)
    · refine q_iload_n dX7_count_23 rfl ?_
      refine q_iconst dX7_count_24 (v := 2) (by decide) ?_
      refine q_icmp_ne (tgt := 35) dX7_count_25 (by decide) (fun c_25 => ?_) (fun c_25 => ?_)
      · refine q_iload_n dX7_count_35 rfl ?_
        refine q_iconst dX7_count_36 (v := 3) (by decide) ?_
        refine q_icmp_ne (tgt := 47) dX7_count_37 (by decide) (fun c_37 => ?_) (fun c_37 => ?_)
        · refine q_bipush dX7_count_47 (v := (-2)) (by decide) ?_
          exact q_iret dX7_count_49 rfl (by unfold m_count; rw [if_neg c_1, if_neg c_13, if_neg c_25, if_neg c_37]) (q_le rfl) (q_le rfl)
        · refine q_aload_n dX7_count_40 rfl ?_
          refine q_getf dX7_count_41 fl_X7_204 (q_blk_get (j := 0) rfl) rfl ?_
          refine q_goto (tgt := 49) dX7_count_44 (by decide) ?_
          exact q_iret dX7_count_49 rfl (by unfold m_count; rw [if_neg c_1, if_neg c_13, if_neg c_25, if_pos c_37]) (q_le rfl) (q_le rfl)
      · refine q_aload_n dX7_count_28 rfl ?_
        refine q_getf dX7_count_29 fl_X7_201 (q_blk_get (j := 0) rfl) rfl ?_
        refine q_goto (tgt := 49) dX7_count_32 (by decide) ?_
        exact q_iret dX7_count_49 rfl (by unfold m_count; rw [if_neg c_1, if_neg c_13, if_pos c_25]) (q_le rfl) (q_le rfl)
    · refine q_aload_n dX7_count_16 rfl ?_
      refine q_getf dX7_count_17 fl_X7_109 (q_blk_get (j := 0) rfl) rfl ?_
      refine q_goto (tgt := 49) dX7_count_20 (by decide) ?_
      exact q_iret dX7_count_49 rfl (by unfold m_count; rw [if_neg c_1, if_pos c_13]) (q_le rfl) (q_le rfl)
  · refine q_aload_n dX7_count_4 rfl ?_
    refine q_getf dX7_count_5 fl_X7_93 (q_blk_get (j := 0) rfl) rfl ?_
    refine q_goto (tgt := 49) dX7_count_8 (by decide) ?_
    exact q_iret dX7_count_49 rfl (by unfold m_count; rw [if_pos c_1]) (q_le rfl) (q_le rfl)

