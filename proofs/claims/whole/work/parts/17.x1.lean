set_option maxHeartbeats 4000000 in
set_option maxRecDepth 100000 in
theorem c_X6_within {f : q_Hp} {n : Nat} {v lo up : Int32} : Sp yX6_within uX6_within [.int v, .int lo, .int up] n f (some (.int (q_b (x_in v lo up))), n, f) := by
  refine Sp.ofF (by decide +kernel) rfl rfl (q_le rfl) ?_
  intro G d
  refine q_iload_n dX6_within_0 rfl ?_
  refine q_iload_n dX6_within_1 rfl ?_
  refine q_icmp_lt (tgt := 14) dX6_within_2 (by decide) (fun c_2 => ?_) (fun c_2 => ?_)
  · refine q_iconst dX6_within_14 (v := 0) (by decide) ?_
    exact q_zret dX6_within_15 rfl rfl (by simp [x_in, q_b, c_2]) (q_le rfl) (q_le rfl)
  · refine q_iload_n dX6_within_5 rfl ?_
    refine q_iload_n dX6_within_6 rfl ?_
    refine q_icmp_gt (tgt := 14) dX6_within_7 (by decide) (fun c_7 => ?_) (fun c_7 => ?_)
    · refine q_iconst dX6_within_14 (v := 0) (by decide) ?_
      exact q_zret dX6_within_15 rfl rfl (by simp [x_in, q_b, c_2, c_7]) (q_le rfl) (q_le rfl)
    · refine q_iconst dX6_within_10 (v := 1) (by decide) ?_
      refine q_goto (tgt := 15) dX6_within_11 (by decide) ?_
      exact q_zret dX6_within_15 rfl rfl (by simp [x_in, q_b, c_2, c_7]) (q_le rfl) (q_le rfl)

set_option maxHeartbeats 4000000 in
set_option maxRecDepth 100000 in
theorem c_X6_isBy {f : q_Hp} {n : Nat} {v : Int32} : Sp yX6_isBy uX6_isBy [.int v] n f (some (.int (q_b (x_isBy v))), n, f) := by
  refine Sp.ofF (by decide +kernel) rfl rfl (q_le rfl) ?_
  intro G d
  refine q_iload_n dX6_isBy_0 rfl ?_
  refine q_iconst dX6_isBy_1 (v := 1) (by decide) ?_
  refine q_iconst dX6_isBy_2 (v := 4) (by decide) ?_
  refine q_cS (c_X6_within) dX6_isBy_3 kl_X6_44 rfl ⟨q_le rfl, q_le rfl⟩ (q_le rfl) (q_le rfl) (q_le rfl) ?_
  refine q_ifne_b (tgt := 20) dX6_isBy_6 (by decide) (fun c_6 => ?_) (fun c_6 => ?_)
  · refine q_iconst dX6_isBy_20 (v := 1) (by decide) ?_
    refine q_goto (tgt := 25) dX6_isBy_21 (by decide) ?_
    exact q_zret dX6_isBy_25 rfl rfl (by simp [x_isBy, q_b, c_6]) (q_le rfl) (q_le rfl)
  · refine q_iload_n dX6_isBy_9 rfl ?_
    refine q_bipush dX6_isBy_10 (v := (-4)) (by decide) ?_
    refine q_bipush dX6_isBy_12 (v := (-2)) (by decide) ?_
    refine q_cS (c_X6_within) dX6_isBy_14 kl_X6_44 rfl ⟨q_le rfl, q_le rfl⟩ (q_le rfl) (q_le rfl) (q_le rfl) ?_
    refine q_ifeq_b (tgt := 24) dX6_isBy_17 (by decide) (fun c_17 => ?_) (fun c_17 => ?_)
    · refine q_iconst dX6_isBy_24 (v := 0) (by decide) ?_
      exact q_zret dX6_isBy_25 rfl rfl (by simp [x_isBy, q_b, c_6, c_17]) (q_le rfl) (q_le rfl)
    · refine q_iconst dX6_isBy_20 (v := 1) (by decide) ?_
      refine q_goto (tgt := 25) dX6_isBy_21 (by decide) ?_
      exact q_zret dX6_isBy_25 rfl rfl (by simp [x_isBy, q_b, c_6, c_17]) (q_le rfl) (q_le rfl)

set_option maxHeartbeats 4000000 in
set_option maxRecDepth 100000 in
theorem c_X6_isPlan {f : q_Hp} {n : Nat} {bb ww : Int32} : Sp yX6_isPlan uX6_isPlan [.int bb, .int ww] n f (some (.int (q_b (x_isPlan bb ww))), n, f) := by
  refine Sp.ofF (by decide +kernel) rfl rfl (q_le rfl) ?_
  intro G d
  refine q_iload_n dX6_isPlan_0 rfl ?_
  refine q_iconst dX6_isPlan_1 (v := 4) (by decide) ?_
  refine q_bipush dX6_isPlan_2 (v := 16) (by decide) ?_
  refine q_cS (c_X6_within) dX6_isPlan_4 kl_X6_44 rfl ⟨q_le rfl, q_le rfl⟩ (q_le rfl) (q_le rfl) (q_le rfl) ?_
  refine q_ifeq_b (tgt := 25) dX6_isPlan_7 (by decide) (fun c_7 => ?_) (fun c_7 => ?_)
  · refine q_iconst dX6_isPlan_25 (v := 0) (by decide) ?_
    exact q_zret dX6_isPlan_26 rfl rfl (by simp [x_isPlan, q_b, c_7]) (q_le rfl) (q_le rfl)
  · refine q_iload_n dX6_isPlan_10 rfl ?_
    refine q_bipush dX6_isPlan_11 (v := 18) (by decide) ?_
    refine q_bipush dX6_isPlan_13 (v := 50) (by decide) ?_
    refine q_cS (c_X6_within) dX6_isPlan_15 kl_X6_44 rfl ⟨q_le rfl, q_le rfl⟩ (q_le rfl) (q_le rfl) (q_le rfl) ?_
    refine q_ifeq_b (tgt := 25) dX6_isPlan_18 (by decide) (fun c_18 => ?_) (fun c_18 => ?_)
    · refine q_iconst dX6_isPlan_25 (v := 0) (by decide) ?_
      exact q_zret dX6_isPlan_26 rfl rfl (by simp [x_isPlan, q_b, c_7, c_18]) (q_le rfl) (q_le rfl)
    · refine q_iconst dX6_isPlan_21 (v := 1) (by decide) ?_
      refine q_goto (tgt := 26) dX6_isPlan_22 (by decide) ?_
      exact q_zret dX6_isPlan_26 rfl rfl (by simp [x_isPlan, q_b, c_7, c_18]) (q_le rfl) (q_le rfl)

theorem q_nb (c : Bool) : narrow .boolean (.int (q_b c)) = .int (q_b c) := by cases c <;> rfl
set_option maxHeartbeats 4000000 in
set_option maxRecDepth 100000 in
theorem c_X6_isSample {f : q_Hp} {n : Nat} {v : Int32} : Sp yX6_isSample uX6_isSample [.int v] n f (some (.int (q_b (x_in v (-32768) 32767))), n, f) := by
  refine Sp.ofF (by decide +kernel) rfl rfl (q_le rfl) ?_
  intro G d
  refine q_iload_n dX6_isSample_0 rfl ?_
  refine q_sipush dX6_isSample_1 (v := (-32768)) (by decide) ?_
  refine q_sipush dX6_isSample_4 (v := 32767) (by decide) ?_
  refine q_cS (c_X6_within) dX6_isSample_7 kl_X6_44 rfl ⟨q_le rfl, q_le rfl⟩ (q_le rfl) (q_le rfl) (q_le rfl) ?_
  exact q_zret dX6_isSample_10 rfl (q_nb _) (rfl) (q_le rfl) (q_le rfl)

set_option maxHeartbeats 4000000 in
set_option maxRecDepth 100000 in
theorem c_find_ok {f : q_Hp} {n o b cnt : Nat} {S : Nat → q_St} {ch : Nat → Int32} {cl : Nat} {sam : Nat → Int32} {len lost : Int32} {r1 r2 : q_Rw} {i : Nat} (ho : o + 9 ≤ b) (hcnt : cnt ≤ 8) (hcl : cl ≤ 8) (hi : i < cnt) : Sp yX6_find uX6_find [.ref o, .int (nI i)] n (q_blk (stg f b cnt S) o (xE o cnt (xrf b cnt) ch cl sam len lost r1 r2)) (some (.ref (b + 7 * i)), n, (q_blk (stg f b cnt S) o (xE o cnt (xrf b cnt) ch cl sam len lost r1 r2))) := by
  refine Sp.ofF (by decide +kernel) rfl rfl (q_le rfl) ?_
  intro G d
  refine q_iload_n dX6_find_0 rfl ?_
  refine q_if_lt (tgt := 21) dX6_find_1 (by decide) (fun h_n => absurd h_n ((nI_pos (by omega)))) (fun c_1 => ?_)
  refine q_iload_n dX6_find_4 rfl ?_
  refine q_aload_n dX6_find_5 rfl ?_
  refine q_getf dX6_find_6 fl_X6_15 (q_blk_get (j := 0) rfl) rfl ?_
  refine q_icmp_ge (tgt := 21) dX6_find_9 (by decide) (fun h_n => absurd h_n ((nI_ge hi (by omega)))) (fun c_9 => ?_)
  refine q_iload_n dX6_find_12 rfl ?_
  refine q_aload_n dX6_find_13 rfl ?_
  refine q_getf dX6_find_14 fl_X6_11 (q_blk_get (j := 0) rfl) rfl ?_
  refine q_alen dX6_find_17 (q_blk_get (j := 1) rfl) rfl (v := 8) rfl ?_
  refine q_icmp_lt (tgt := 23) dX6_find_18 (by decide) (fun c_18 => ?_) (fun h_n => absurd ((nI_lt (b := 8) (by omega) (by decide))) h_n)
  refine q_aload_n dX6_find_23 rfl ?_
  refine q_getf dX6_find_24 fl_X6_11 (q_blk_get (j := 0) rfl) rfl ?_
  refine q_iload_n dX6_find_27 rfl ?_
  refine q_aald dX6_find_28 (q_blk_get (j := 1) rfl) (vp_in_nI (by omega) (by decide)) ?_
  refine q_stk (show _ = [Value.ref (b + 7 * i)] from by rw [xrf_at hi hcnt]; rfl) ?_
  exact q_aret dX6_find_29 rfl (Or.inr ⟨_, rfl⟩) rfl (q_le rfl) (q_le rfl)

set_option maxHeartbeats 4000000 in
set_option maxRecDepth 100000 in
theorem c_find_no {f : q_Hp} {n o b cnt : Nat} {S : Nat → q_St} {ch : Nat → Int32} {cl : Nat} {sam : Nat → Int32} {len lost : Int32} {r1 r2 : q_Rw} {k : Int32} (ho : o + 9 ≤ b) (hcnt : cnt ≤ 8) (hcl : cl ≤ 8) (hk : k < 0 ∨ nI cnt ≤ k) : Sp yX6_find uX6_find [.ref o, .int k] n (q_blk (stg f b cnt S) o (xE o cnt (xrf b cnt) ch cl sam len lost r1 r2)) (some .null, n, (q_blk (stg f b cnt S) o (xE o cnt (xrf b cnt) ch cl sam len lost r1 r2))) := by
  refine Sp.ofF (by decide +kernel) rfl rfl (q_le rfl) ?_
  intro G d
  rcases hk with h | h
  · refine q_iload_n dX6_find_0 rfl ?_
    refine q_if_lt (tgt := 21) dX6_find_1 (by decide) (fun c_1 => ?_) (fun h_n => absurd (h) h_n)
    refine q_null dX6_find_21 ?_
    exact q_aret dX6_find_22 rfl (Or.inl rfl) (rfl) (q_le rfl) (q_le rfl)
  · refine q_iload_n dX6_find_0 rfl ?_
    refine q_if_lt (tgt := 21) dX6_find_1 (by decide) (fun c_1 => ?_) (fun c_1 => ?_)
    · refine q_null dX6_find_21 ?_
      exact q_aret dX6_find_22 rfl (Or.inl rfl) (rfl) (q_le rfl) (q_le rfl)
    · refine q_iload_n dX6_find_4 rfl ?_
      refine q_aload_n dX6_find_5 rfl ?_
      refine q_getf dX6_find_6 fl_X6_15 (q_blk_get (j := 0) rfl) rfl ?_
      refine q_icmp_ge (tgt := 21) dX6_find_9 (by decide) (fun c_9 => ?_) (fun h_n => absurd (h) h_n)
      refine q_null dX6_find_21 ?_
      exact q_aret dX6_find_22 rfl (Or.inl rfl) (rfl) (q_le rfl) (q_le rfl)

set_option maxHeartbeats 4000000 in
set_option maxRecDepth 100000 in
theorem lp_X6_placeOf {G : q_G} {d : q_D} {f : q_Hp} {n o b cnt : Nat} {S : Nat → q_St} {ch : Nat → Int32} {cl : Nat} {sam : Nat → Int32} {len lost : Int32} {r1 r2 : q_Rw} {v : Int32} (ho : o + 9 ≤ b) (hcnt : cnt ≤ 8) (hcl : cl ≤ 8) : ∀ (k i : Nat), i + k = cl → J G d uX6_placeOf (some (.int ((x_fd ch v k i).elim (-1) nI)), n, q_blk (stg f b cnt S) o (xE o cnt (xrf b cnt) ch cl sam len lost r1 r2)) 0 0 n 2 (q_l [(0, .ref o), (1, .int v), (2, .int (nI i))]) [] (q_blk (stg f b cnt S) o (xE o cnt (xrf b cnt) ch cl sam len lost r1 r2)) := by
  intro k
  induction k with
  | zero =>
    intro i hi
    rw [show i = cl by omega]
    refine q_iload_n dX6_placeOf_2 rfl ?_
    refine q_aload_n dX6_placeOf_3 rfl ?_
    refine q_getf dX6_placeOf_4 fl_X6_23 (q_blk_get (j := 0) rfl) rfl ?_
    refine q_icmp_ge (tgt := 37) dX6_placeOf_7 (by decide) (fun c_7 => ?_) (fun h_n => absurd ((Int32.le_refl _)) h_n)
    refine q_iconst dX6_placeOf_37 (v := (-1)) (by decide) ?_
    exact q_iret dX6_placeOf_38 rfl (rfl) (q_le rfl) (q_le rfl)
  | succ k ih =>
    intro i hi
    refine q_iload_n dX6_placeOf_2 rfl ?_
    refine q_aload_n dX6_placeOf_3 rfl ?_
    refine q_getf dX6_placeOf_4 fl_X6_23 (q_blk_get (j := 0) rfl) rfl ?_
    refine q_icmp_ge (tgt := 37) dX6_placeOf_7 (by decide) (fun h_n => absurd h_n ((nI_ge (by omega) (by omega)))) (fun c_7 => ?_)
    refine q_iload_n dX6_placeOf_10 rfl ?_
    refine q_aload_n dX6_placeOf_11 rfl ?_
    refine q_getf dX6_placeOf_12 fl_X6_19 (q_blk_get (j := 0) rfl) rfl ?_
    refine q_alen dX6_placeOf_15 (q_blk_get (j := 2) rfl) rfl (v := 8) rfl ?_
    refine q_icmp_ge (tgt := 37) dX6_placeOf_16 (by decide) (fun h_n => absurd h_n ((nI_ge (b := 8) (by omega) (by decide)))) (fun c_16 => ?_)
    refine q_aload_n dX6_placeOf_19 rfl ?_
    refine q_getf dX6_placeOf_20 fl_X6_19 (q_blk_get (j := 0) rfl) rfl ?_
    refine q_iload_n dX6_placeOf_23 rfl ?_
    refine q_iald dX6_placeOf_24 (q_blk_get (j := 2) rfl) (vp_in_nI (by omega) (by decide)) ?_
    refine q_iload_n dX6_placeOf_25 rfl ?_
    refine q_icmp_ne (tgt := 31) dX6_placeOf_26 (by decide) (fun c_26 => ?_) (fun c_26 => ?_)
    · refine q_iinc dX6_placeOf_31 rfl (v := nI (i + 1)) (nI_1 i) ?_
      refine q_goto (tgt := 2) dX6_placeOf_34 (by decide) ?_
      exact q_zz (z' := (some (.int ((x_fd ch v k (i + 1)).elim (-1) nI)), n, q_blk (stg f b cnt S) o (xE o cnt (xrf b cnt) ch cl sam len lost r1 r2))) (by simp [x_fd, c_26]) (q_lo [(0, .ref o), (1, .int v), (2, .int (nI (i + 1)))] ⟨rfl, rfl, rfl, trivial⟩ (ih (i + 1) (by omega)))
    · refine q_iload_n dX6_placeOf_29 rfl ?_
      exact q_iret dX6_placeOf_30 rfl (by simp [x_fd, c_26]) (q_le rfl) (q_le rfl)

set_option maxHeartbeats 4000000 in
set_option maxRecDepth 100000 in
theorem c_X6_placeOf {f : q_Hp} {n o b cnt : Nat} {S : Nat → q_St} {ch : Nat → Int32} {cl : Nat} {sam : Nat → Int32} {len lost : Int32} {r1 r2 : q_Rw} {v : Int32} (ho : o + 9 ≤ b) (hcnt : cnt ≤ 8) (hcl : cl ≤ 8)  : Sp yX6_placeOf uX6_placeOf [.ref o, .int v] n (q_blk (stg f b cnt S) o (xE o cnt (xrf b cnt) ch cl sam len lost r1 r2)) (some (.int ((x_fd ch v cl 0).elim (-1) nI)), n, (q_blk (stg f b cnt S) o (xE o cnt (xrf b cnt) ch cl sam len lost r1 r2))) := by
  refine Sp.ofF (by decide +kernel) rfl rfl (q_le rfl) ?_
  intro G d
  refine q_iconst dX6_placeOf_0 (v := 0) (by decide) ?_
  refine q_istore_n dX6_placeOf_1 (q_le rfl) ?_
  exact q_lo [(0, .ref o), (1, .int v), (2, .int (nI 0))] ⟨rfl, rfl, rfl, trivial⟩ (lp_X6_placeOf ho hcnt hcl cl 0 (by omega))

set_option maxHeartbeats 4000000 in
set_option maxRecDepth 100000 in
theorem lp_X6_unplan {G : q_G} {d : q_D} {f : q_Hp} {n o b cnt : Nat} {S : Nat → q_St} {cl : Nat} {sam : Nat → Int32} {len lost : Int32} {r1 r2 : q_Rw} (ho : o + 9 ≤ b) (hcnt : cnt ≤ 8) (hcl : cl ≤ 8) : ∀ (k i : Nat) (ch : Nat → Int32), i + k + 1 = cl → J G d uX6_unplan (none, n, q_blk (stg f b cnt S) o (xE o cnt (xrf b cnt) (x_sh ch k i) (cl - 1) sam len lost r1 r2)) 0 0 n 19 (q_l [(0, .ref o), (4, .int (nI i))]) [] (q_blk (stg f b cnt S) o (xE o cnt (xrf b cnt) ch cl sam len lost r1 r2)) := by
  intro k
  induction k with
  | zero =>
    intro i ch hi
    refine q_iload dX6_unplan_19 rfl ?_
    refine q_iconst dX6_unplan_21 (v := 1) (by decide) ?_
    refine q_iadd dX6_unplan_22 ?_
    refine q_aload_n dX6_unplan_23 rfl ?_
    refine q_getf dX6_unplan_24 fl_X6_23 (q_blk_get (j := 0) rfl) rfl ?_
    refine q_icmp_ge (tgt := 64) dX6_unplan_27 (by decide) (fun c_27 => ?_) (fun h_n => absurd ((by rw [nI_1]; exact nI_le (by omega) (by omega))) h_n)
    refine q_aload_n dX6_unplan_64 rfl ?_
    refine q_dup dX6_unplan_65 rfl ?_
    refine q_getf dX6_unplan_66 fl_X6_23 (q_blk_get (j := 0) rfl) rfl ?_
    refine q_iconst dX6_unplan_69 (v := 1) (by decide) ?_
    refine q_isub dX6_unplan_70 ?_
    refine q_stk (show _ = [Value.int (nI (cl - 1)), Value.ref o] from by rw [x_pred (by omega)]) ?_
    refine q_putf dX6_unplan_71 pl_X6_23 (q_blk_get (j := 0) rfl) (q_le rfl) rfl rfl ?_
    refine q_heap (q_blk_up (j := 0) (q_le rfl)) ?_
    exact q_vret dX6_unplan_74 rfl (rfl) (q_le rfl) (q_le rfl)
  | succ k ih =>
    intro i ch hi
    refine q_iload dX6_unplan_19 rfl ?_
    refine q_iconst dX6_unplan_21 (v := 1) (by decide) ?_
    refine q_iadd dX6_unplan_22 ?_
    refine q_aload_n dX6_unplan_23 rfl ?_
    refine q_getf dX6_unplan_24 fl_X6_23 (q_blk_get (j := 0) rfl) rfl ?_
    refine q_icmp_ge (tgt := 64) dX6_unplan_27 (by decide) (fun h_n => absurd h_n ((by rw [nI_1]; exact nI_ge (by omega) (by omega)))) (fun c_27 => ?_)
    refine q_iload dX6_unplan_30 rfl ?_
    refine q_iconst dX6_unplan_32 (v := 1) (by decide) ?_
    refine q_iadd dX6_unplan_33 ?_
    refine q_aload_n dX6_unplan_34 rfl ?_
    refine q_getf dX6_unplan_35 fl_X6_19 (q_blk_get (j := 0) rfl) rfl ?_
    refine q_alen dX6_unplan_38 (q_blk_get (j := 2) rfl) rfl (v := 8) rfl ?_
    refine q_icmp_ge (tgt := 64) dX6_unplan_39 (by decide) (fun h_n => absurd h_n ((by rw [nI_1]; exact nI_ge (b := 8) (by omega) (by decide)))) (fun c_39 => ?_)
    refine q_aload_n dX6_unplan_42 rfl ?_
    refine q_getf dX6_unplan_43 fl_X6_19 (q_blk_get (j := 0) rfl) rfl ?_
    refine q_iload dX6_unplan_46 rfl ?_
    refine q_aload_n dX6_unplan_48 rfl ?_
    refine q_getf dX6_unplan_49 fl_X6_19 (q_blk_get (j := 0) rfl) rfl ?_
    refine q_iload dX6_unplan_52 rfl ?_
    refine q_iconst dX6_unplan_54 (v := 1) (by decide) ?_
    refine q_iadd dX6_unplan_55 ?_
    refine q_iald dX6_unplan_56 (q_blk_get (j := 2) rfl) (by rw [nI_1]; exact vp_in_nI (by omega) (by decide)) ?_
    refine q_iast dX6_unplan_57 (q_blk_get (j := 2) rfl) (vp_in_nI (by omega) (by decide)) ?_
    refine q_heap (q_blk_up (j := 2) (q_le rfl)) ?_
    refine q_iinc dX6_unplan_58 rfl (v := nI (i + 1)) (nI_1 i) ?_
    refine q_goto (tgt := 19) dX6_unplan_61 (by decide) ?_
    exact q_lo [(0, .ref o), (4, .int (nI (i + 1)))] ⟨rfl, rfl, trivial⟩ (ih (i + 1) _ (by omega))

set_option maxHeartbeats 4000000 in
set_option maxRecDepth 100000 in
theorem c_X6_unplan {f : q_Hp} {n o b cnt : Nat} {S : Nat → q_St} {ch : Nat → Int32} {cl : Nat} {sam : Nat → Int32} {len lost : Int32} {r1 r2 : q_Rw} {i : Nat} (ho : o + 9 ≤ b) (hcnt : cnt ≤ 8) (hcl : cl ≤ 8) (hi : i < cnt) : Sp yX6_unplan uX6_unplan [.ref o, .int (nI i), .ref (b + 7 * i)] n (q_blk (stg f b cnt S) o (xE o cnt (xrf b cnt) ch cl sam len lost r1 r2)) (none, n, (q_blk (stg f b cnt (va_up S i (S_drop (S i)))) o (xE o cnt (xrf b cnt) ((x_un ch cl (nI i)).1) ((x_un ch cl (nI i)).2) sam len lost r1 r2))) := by
  refine Sp.ofF (by decide +kernel) rfl rfl (q_le rfl) ?_
  intro G d
  cases hfd : x_fd ch (nI i) cl 0 with
  | none =>
    have hun : x_un ch cl (nI i) = (ch, cl) := by unfold x_un; rw [hfd]
    refine q_aload_n dX6_unplan_0 rfl ?_
    refine q_cSt (w_drop) dX6_unplan_1 kl_X6_222 rfl hi ho rfl ⟨q_le rfl, q_le rfl⟩ (q_le rfl) (q_le rfl) (q_le rfl) ?_
    refine q_aload_n dX6_unplan_4 rfl ?_
    refine q_iload_n dX6_unplan_5 rfl ?_
    refine q_cW (c_X6_placeOf ho hcnt hcl) dX6_unplan_6 kl_X6_126 rfl (q_blk_get (j := 0) rfl) rfl ⟨q_le rfl, q_le rfl⟩ (q_le rfl) (q_le rfl) (q_le rfl) ?_
    rw [hfd]
    refine q_istore_n dX6_unplan_9 (q_le rfl) ?_
    refine q_iload_n dX6_unplan_10 rfl ?_
    refine q_iconst dX6_unplan_11 (v := (-1)) (by decide) ?_
    refine q_icmp_ne (tgt := 16) dX6_unplan_12 (by decide) (fun h_n => absurd (rfl) h_n) (fun c_12 => ?_)
    exact q_vret dX6_unplan_15 rfl (by rw [hun]) (q_le rfl) (q_le rfl)
  | some a =>
    have ha := x_fd_lt hfd
    have hun : x_un ch cl (nI i) = (x_sh ch (cl - 1 - a) a, cl - 1) := by unfold x_un; rw [hfd]
    refine q_aload_n dX6_unplan_0 rfl ?_
    refine q_cSt (w_drop) dX6_unplan_1 kl_X6_222 rfl hi ho rfl ⟨q_le rfl, q_le rfl⟩ (q_le rfl) (q_le rfl) (q_le rfl) ?_
    refine q_aload_n dX6_unplan_4 rfl ?_
    refine q_iload_n dX6_unplan_5 rfl ?_
    refine q_cW (c_X6_placeOf ho hcnt hcl) dX6_unplan_6 kl_X6_126 rfl (q_blk_get (j := 0) rfl) rfl ⟨q_le rfl, q_le rfl⟩ (q_le rfl) (q_le rfl) (q_le rfl) ?_
    rw [hfd]
    refine q_istore_n dX6_unplan_9 (q_le rfl) ?_
    refine q_iload_n dX6_unplan_10 rfl ?_
    refine q_iconst dX6_unplan_11 (v := (-1)) (by decide) ?_
    refine q_icmp_ne (tgt := 16) dX6_unplan_12 (by decide) (fun c_12 => ?_) (fun h_n => absurd h_n ((x_nm1 (by omega))))
    refine q_iload_n dX6_unplan_16 rfl ?_
    refine q_istore dX6_unplan_17 (q_le rfl) ?_
    exact q_zz (by rw [hun]) (q_lo [(0, .ref o), (4, .int (nI a))] ⟨rfl, rfl, trivial⟩ (lp_X6_unplan ho hcnt hcl (cl - 1 - a) a ch (by omega)))

set_option maxHeartbeats 4000000 in
set_option maxRecDepth 100000 in
theorem lp_X6_filled {G : q_G} {d : q_D} {z : q_Z} {f : q_Hp} {n o b cnt : Nat} {S : Nat → q_St} {ch : Nat → Int32} {cl : Nat} {sam : Nat → Int32} {len lost : Int32} {r1 r2 : q_Rw} (ho : o + 9 ≤ b) (hcnt : cnt ≤ 8) (hcl : cl ≤ 8) (hch : ∀ t : Nat, t < cl → ∃ j : Nat, j < cnt ∧ ch t = nI j) (hx : J G d uX6_filledByChain z 0 0 n 49 (q_l [(1, .int (x_pr S ch cl))]) [] (q_blk (stg f b cnt S) o (xE o cnt (xrf b cnt) ch cl sam len lost r1 r2))) : ∀ (k i : Nat), i + k = cl → J G d uX6_filledByChain z 0 0 n 4 (q_l [(0, .ref o), (1, .int (x_pr S ch i)), (2, .int (nI i))]) [] (q_blk (stg f b cnt S) o (xE o cnt (xrf b cnt) ch cl sam len lost r1 r2)) := by
  intro k
  induction k with
  | zero =>
    intro i hi
    rw [show i = cl by omega]
    refine q_iload_n dX6_filledByChain_4 rfl ?_
    refine q_aload_n dX6_filledByChain_5 rfl ?_
    refine q_getf dX6_filledByChain_6 fl_X6_23 (q_blk_get (j := 0) rfl) rfl ?_
    refine q_icmp_ge (tgt := 49) dX6_filledByChain_9 (by decide) (fun c_9 => ?_) (fun h_n => absurd ((Int32.le_refl _)) h_n)
    exact q_lo [(1, .int (x_pr S ch cl))] ⟨rfl, trivial⟩ hx
  | succ k ih =>
    intro i hi
    refine q_iload_n dX6_filledByChain_4 rfl ?_
    refine q_aload_n dX6_filledByChain_5 rfl ?_
    refine q_getf dX6_filledByChain_6 fl_X6_23 (q_blk_get (j := 0) rfl) rfl ?_
    refine q_icmp_ge (tgt := 49) dX6_filledByChain_9 (by decide) (fun h_n => absurd h_n ((nI_ge (by omega) (by omega)))) (fun c_9 => ?_)
    refine q_iload_n dX6_filledByChain_12 rfl ?_
    refine q_aload_n dX6_filledByChain_13 rfl ?_
    refine q_getf dX6_filledByChain_14 fl_X6_19 (q_blk_get (j := 0) rfl) rfl ?_
    refine q_alen dX6_filledByChain_17 (q_blk_get (j := 2) rfl) rfl (v := 8) rfl ?_
    refine q_icmp_ge (tgt := 49) dX6_filledByChain_18 (by decide) (fun h_n => absurd h_n ((nI_ge (b := 8) (by omega) (by decide)))) (fun c_18 => ?_)
    refine q_aload_n dX6_filledByChain_21 rfl ?_
    refine q_aload_n dX6_filledByChain_22 rfl ?_
    refine q_getf dX6_filledByChain_23 fl_X6_19 (q_blk_get (j := 0) rfl) rfl ?_
    refine q_iload_n dX6_filledByChain_26 rfl ?_
    refine q_iald dX6_filledByChain_27 (q_blk_get (j := 2) rfl) (vp_in_nI (by omega) (by decide)) ?_
    obtain ⟨j, hj, ej⟩ := hch i (by omega)
    have ec : ch (nI i).toNatClampNeg = nI j := by rw [nI_clamp (by omega)]; exact ej
    rw [ec]
    refine q_cW (c_find_ok ho hcnt hcl hj) dX6_filledByChain_28 kl_X6_55 rfl (q_blk_get (j := 0) rfl) rfl ⟨q_le rfl, q_le rfl⟩ (q_le rfl) (q_le rfl) (q_le rfl) ?_
    refine q_astore_n dX6_filledByChain_31 (q_le rfl) ?_
    refine q_aload_n dX6_filledByChain_32 rfl ?_
    refine q_ifnull dX6_filledByChain_33 ?_
    refine q_iload_n dX6_filledByChain_36 rfl ?_
    refine q_aload_n dX6_filledByChain_37 rfl ?_
    refine q_cStr (w_fill) dX6_filledByChain_38 kl_X6_142 rfl hj ho rfl ⟨q_le rfl, q_le rfl⟩ (q_le rfl) (q_le rfl) (q_le rfl) ?_
    refine q_imul dX6_filledByChain_41 ?_
    refine q_istore_n dX6_filledByChain_42 (q_le rfl) ?_
    refine q_iinc dX6_filledByChain_43 rfl (v := nI (i + 1)) (nI_1 i) ?_
    refine q_goto (tgt := 4) dX6_filledByChain_46 (by decide) ?_
    exact q_lo [(0, .ref o), (1, .int (x_pr S ch (i + 1))), (2, .int (nI (i + 1)))] ⟨rfl, (by show some (Value.int (x_pr S ch i * s_fill (S_by (S j)))) = some (Value.int (x_pr S ch i * s_fill (S_by (S (ch i).toNatClampNeg)))); rw [ej, nI_clamp (by omega)]), rfl, trivial⟩ (ih (i + 1) (by omega))

set_option maxHeartbeats 4000000 in
set_option maxRecDepth 100000 in
theorem c_X6_filled {f : q_Hp} {n o b cnt : Nat} {S : Nat → q_St} {ch : Nat → Int32} {cl : Nat} {sam : Nat → Int32} {len lost : Int32} {r1 r2 : q_Rw}  (ho : o + 9 ≤ b) (hcnt : cnt ≤ 8) (hcl : cl ≤ 8) (hch : ∀ t : Nat, t < cl → ∃ j : Nat, j < cnt ∧ ch t = nI j) : Sp yX6_filledByChain uX6_filledByChain [.ref o] n (q_blk (stg f b cnt S) o (xE o cnt (xrf b cnt) ch cl sam len lost r1 r2)) (some (.int (x_pr S ch cl)), n, (q_blk (stg f b cnt S) o (xE o cnt (xrf b cnt) ch cl sam len lost r1 r2))) := by
  refine Sp.ofF (by decide +kernel) rfl rfl (q_le rfl) ?_
  intro G d
  refine q_iconst dX6_filledByChain_0 (v := 1) (by decide) ?_
  refine q_istore_n dX6_filledByChain_1 (q_le rfl) ?_
  refine q_iconst dX6_filledByChain_2 (v := 0) (by decide) ?_
  refine q_istore_n dX6_filledByChain_3 (q_le rfl) ?_
  refine q_lo [(0, .ref o), (1, .int (x_pr S ch 0)), (2, .int (nI 0))] ⟨rfl, rfl, rfl, trivial⟩ (lp_X6_filled ho hcnt hcl hch ?_ cl 0 (by omega))
  refine q_iload_n dX6_filledByChain_49 rfl ?_
  exact q_iret dX6_filledByChain_50 rfl (rfl) (q_le rfl) (q_le rfl)

