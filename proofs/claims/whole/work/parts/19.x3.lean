def x_jn (S : Nat → q_St) (ch : Nat → Int32) (cl i : Nat) : Bool := !decide (S_pst (S i) = 0) && decide (x_plc ch cl i = -1) && !decide (16 < x_pr S ch cl * s_fill (S_by (S i))) && decide (nI cl < 8)
theorem x_jn_cl {S : Nat → q_St} {ch : Nat → Int32} {cl i : Nat} (hcl : cl ≤ 8) (h : nI cl < 8) : cl < 8 := by
  rcases Nat.lt_or_ge cl 8 with h1 | h1
  · exact h1
  · have : cl = 8 := by omega
    subst this
    exact absurd h (by decide)
theorem x_in7 {cl : Nat} (hcl : cl ≤ 8) : x_in (nI cl) 0 7 = decide (nI cl < 8) := by
  have h : ∀ c : Nat, c < 9 → x_in (nI c) 0 7 = decide (nI c < 8) := by decide
  exact h cl (by omega)
theorem x_in7_t {cl : Nat} (hcl : cl ≤ 8) (h : x_in (nI cl) 0 7 = true) : nI cl < 8 := of_decide_eq_true ((x_in7 hcl).symm.trans h)
theorem x_in7_f {cl : Nat} (hcl : cl ≤ 8) (h : x_in (nI cl) 0 7 = false) : ¬ nI cl < 8 := of_decide_eq_false ((x_in7 hcl).symm.trans h)
theorem x_in7_lt {cl : Nat} (h : cl < 8) : x_in (nI cl) 0 7 = true := by
  have h2 : ∀ c : Nat, c < 8 → x_in (nI c) 0 7 = true := by decide
  exact h2 cl h
set_option maxHeartbeats 4000000 in
set_option maxRecDepth 100000 in
theorem c_join_bad {f : q_Hp} {n o b cnt : Nat} {S : Nat → q_St} {ch : Nat → Int32} {cl : Nat} {sam : Nat → Int32} {len lost : Int32} {r1 r2 : q_Rw} {k : Int32} (ho : o + 9 ≤ b) (hcnt : cnt ≤ 8) (hcl : cl ≤ 8) (hk : k < 0 ∨ nI cnt ≤ k) : Sp yX6_join uX6_join [.ref o, .int k] n (q_blk (stg f b cnt S) o (xE o cnt (xrf b cnt) ch cl sam len lost r1 r2)) (some (.int (-2)), n, (q_blk (stg f b cnt S) o (xE o cnt (xrf b cnt) ch cl sam len lost r1 r2))) := by
  refine Sp.ofF (by decide +kernel) rfl rfl (q_le rfl) ?_
  intro G d
  refine q_aload_n dX6_join_0 rfl ?_
  refine q_iload_n dX6_join_1 rfl ?_
  refine q_cW (c_find_no ho hcnt hcl hk) dX6_join_2 kl_X6_55 rfl (q_blk_get (j := 0) rfl) rfl ⟨q_le rfl, q_le rfl⟩ (q_le rfl) (q_le rfl) (q_le rfl) ?_
  refine q_astore_nN dX6_join_5 (q_le rfl) ?_
  refine q_aload_nN dX6_join_6 rfl ?_
  refine q_ifnonnullN dX6_join_7 ?_
  refine q_bipush dX6_join_10 (v := (-2)) (by decide) ?_
  exact q_iret dX6_join_12 rfl (rfl) (q_le rfl) (q_le rfl)

set_option maxHeartbeats 4000000 in
set_option maxRecDepth 100000 in
theorem c_join_ok {f : q_Hp} {n o b cnt : Nat} {S : Nat → q_St} {ch : Nat → Int32} {cl : Nat} {sam : Nat → Int32} {len lost : Int32} {r1 r2 : q_Rw} {i : Nat} (ho : o + 9 ≤ b) (hcnt : cnt ≤ 8) (hcl : cl ≤ 8) (hi : i < cnt) (hch : ∀ t : Nat, t < cl → ∃ j : Nat, j < cnt ∧ ch t = nI j) : Sp yX6_join uX6_join [.ref o, .int (nI i)] n (q_blk (stg f b cnt S) o (xE o cnt (xrf b cnt) ch cl sam len lost r1 r2)) (some (.int (bif x_jn S ch cl i then nI cl else -3)), n, (q_blk (stg f b cnt S) o (xE o cnt (xrf b cnt) (bif x_jn S ch cl i then upd ch (nI cl).toNatClampNeg (nI i) else ch) (bif x_jn S ch cl i then cl + 1 else cl) sam len lost r1 r2))) := by
  refine Sp.ofF (by decide +kernel) rfl rfl (q_le rfl) ?_
  intro G d
  refine q_aload_n dX6_join_0 rfl ?_
  refine q_iload_n dX6_join_1 rfl ?_
  refine q_cW (c_find_ok ho hcnt hcl hi) dX6_join_2 kl_X6_55 rfl (q_blk_get (j := 0) rfl) rfl ⟨q_le rfl, q_le rfl⟩ (q_le rfl) (q_le rfl) (q_le rfl) ?_
  refine q_astore_n dX6_join_5 (q_le rfl) ?_
  refine q_aload_n dX6_join_6 rfl ?_
  refine q_ifnonnull (tgt := 13) dX6_join_7 (by decide) ?_
  refine q_aload_n dX6_join_13 rfl ?_
  refine q_getf dX6_join_14 fl_X6_99 (xw_get hi ho (j := 0) rfl) rfl ?_
  refine q_getf dX6_join_17 fl_X6_103 (xw_get hi ho (j := 2) rfl) rfl ?_
  refine q_if_eq (tgt := 64) dX6_join_20 (by decide) (fun c_20 => ?_) (fun c_20 => ?_)
  · refine q_bipush dX6_join_64 (v := (-3)) (by decide) ?_
    exact q_iret dX6_join_66 rfl (by rw [show x_jn S ch cl i = false by unfold x_jn; simp [(show S_pst (S i) = 0 from c_20)]] <;> rfl) (q_le rfl) (q_le rfl)
  · refine q_aload_n dX6_join_23 rfl ?_
    refine q_iload_n dX6_join_24 rfl ?_
    refine q_cW (c_X6_placeOf ho hcnt hcl) dX6_join_25 kl_X6_126 rfl (q_blk_get (j := 0) rfl) rfl ⟨q_le rfl, q_le rfl⟩ (q_le rfl) (q_le rfl) (q_le rfl) ?_
    refine q_iconst dX6_join_28 (v := (-1)) (by decide) ?_
    refine q_icmp_ne (tgt := 64) dX6_join_29 (by decide) (fun c_29 => ?_) (fun c_29 => ?_)
    · refine q_bipush dX6_join_64 (v := (-3)) (by decide) ?_
      exact q_iret dX6_join_66 rfl (by rw [show x_jn S ch cl i = false by unfold x_jn; simp [(show ¬ S_pst (S i) = 0 from c_20), (show ¬ x_plc ch cl i = -1 from c_29)]] <;> rfl) (q_le rfl) (q_le rfl)
    · refine q_aload_n dX6_join_32 rfl ?_
      refine q_cW (c_X6_filled ho hcnt hcl hch) dX6_join_33 kl_X6_139 rfl (q_blk_get (j := 0) rfl) rfl ⟨q_le rfl, q_le rfl⟩ (q_le rfl) (q_le rfl) (q_le rfl) ?_
      refine q_aload_n dX6_join_36 rfl ?_
      refine q_cStr (w_fill) dX6_join_37 kl_X6_142 rfl hi ho rfl ⟨q_le rfl, q_le rfl⟩ (q_le rfl) (q_le rfl) (q_le rfl) ?_
      refine q_imul dX6_join_40 ?_
      refine q_bipush dX6_join_41 (v := 16) (by decide) ?_
      refine q_icmp_gt (tgt := 64) dX6_join_43 (by decide) (fun c_43 => ?_) (fun c_43 => ?_)
      · refine q_bipush dX6_join_64 (v := (-3)) (by decide) ?_
        exact q_iret dX6_join_66 rfl (by rw [show x_jn S ch cl i = false by unfold x_jn; simp [(show ¬ S_pst (S i) = 0 from c_20), (show x_plc ch cl i = -1 from c_29), (show 16 < x_pr S ch cl * s_fill (S_by (S i)) from c_43)]] <;> rfl) (q_le rfl) (q_le rfl)
      · refine q_aload_n dX6_join_46 rfl ?_
        refine q_getf dX6_join_47 fl_X6_23 (q_blk_get (j := 0) rfl) rfl ?_
        refine q_iconst dX6_join_50 (v := 0) (by decide) ?_
        refine q_aload_n dX6_join_51 rfl ?_
        refine q_getf dX6_join_52 fl_X6_19 (q_blk_get (j := 0) rfl) rfl ?_
        refine q_alen dX6_join_55 (q_blk_get (j := 2) rfl) rfl (v := 8) rfl ?_
        refine q_iconst dX6_join_56 (v := 1) (by decide) ?_
        refine q_isub dX6_join_57 ?_
        refine q_cS (c_X6_within) dX6_join_58 kl_X6_44 rfl ⟨q_le rfl, q_le rfl⟩ (q_le rfl) (q_le rfl) (q_le rfl) ?_
        refine q_ifne_b (tgt := 67) dX6_join_61 (by decide) (fun c_61 => ?_) (fun c_61 => ?_)
        · refine q_aload_n dX6_join_67 rfl ?_
          refine q_getf dX6_join_68 fl_X6_19 (q_blk_get (j := 0) rfl) rfl ?_
          refine q_aload_n dX6_join_71 rfl ?_
          refine q_getf dX6_join_72 fl_X6_23 (q_blk_get (j := 0) rfl) rfl ?_
          refine q_iload_n dX6_join_75 rfl ?_
          refine q_iast dX6_join_76 (q_blk_get (j := 2) rfl) (vp_in_nI (x_jn_cl (S := S) (ch := ch) (i := i) hcl (x_in7_t hcl c_61)) (by decide)) ?_
          refine q_heap (q_blk_up (j := 2) (q_le rfl)) ?_
          refine q_aload_n dX6_join_77 rfl ?_
          refine q_dup dX6_join_78 rfl ?_
          refine q_getf dX6_join_79 fl_X6_23 (q_blk_get (j := 0) rfl) rfl ?_
          refine q_iconst dX6_join_82 (v := 1) (by decide) ?_
          refine q_iadd dX6_join_83 ?_
          refine q_stk (show _ = [Value.int (nI (cl + 1)), Value.ref o] from by rw [nI_1]; rfl) ?_
          refine q_putf dX6_join_84 pl_X6_23 (q_blk_get (j := 0) rfl) (q_le rfl) rfl rfl ?_
          refine q_heap (q_blk_up (j := 0) (q_le rfl)) ?_
          refine q_aload_n dX6_join_87 rfl ?_
          refine q_getf dX6_join_88 fl_X6_23 (q_blk_get (j := 0) rfl) rfl ?_
          refine q_iconst dX6_join_91 (v := 1) (by decide) ?_
          refine q_isub dX6_join_92 ?_
          exact q_iret dX6_join_93 rfl (by rw [show x_jn S ch cl i = true by unfold x_jn; simp [(show ¬ S_pst (S i) = 0 from c_20), (show x_plc ch cl i = -1 from c_29), (show ¬ 16 < x_pr S ch cl * s_fill (S_by (S i)) from c_43), (show nI cl < 8 from x_in7_t hcl c_61)]]; rw [show nI (cl + 1) - 1 = nI cl from nI_pred cl]; rfl) (q_le rfl) (q_le rfl)
        · refine q_bipush dX6_join_64 (v := (-3)) (by decide) ?_
          exact q_iret dX6_join_66 rfl (by rw [show x_jn S ch cl i = false by unfold x_jn; simp [(show ¬ S_pst (S i) = 0 from c_20), (show x_plc ch cl i = -1 from c_29), (show ¬ 16 < x_pr S ch cl * s_fill (S_by (S i)) from c_43), (show ¬ nI cl < 8 from x_in7_f hcl c_61)]] <;> rfl) (q_le rfl) (q_le rfl)

set_option maxHeartbeats 4000000 in
set_option maxRecDepth 100000 in
theorem c_part {f : q_Hp} {n o b cnt : Nat} {S : Nat → q_St} {ch : Nat → Int32} {cl : Nat} {sam : Nat → Int32} {len lost : Int32} {r1 r2 : q_Rw}  (ho : o + 9 ≤ b) (hcnt : cnt ≤ 8) (hcl : cl ≤ 8)  : Sp yX6_part uX6_part [.ref o] n (q_blk (stg f b cnt S) o (xE o cnt (xrf b cnt) ch cl sam len lost r1 r2)) (some (.int (nI cl)), n, (q_blk (stg f b cnt S) o (xE o cnt (xrf b cnt) ch 0 sam len lost r1 r2))) := by
  refine Sp.ofF (by decide +kernel) rfl rfl (q_le rfl) ?_
  intro G d
  refine q_aload_n dX6_part_0 rfl ?_
  refine q_getf dX6_part_1 fl_X6_23 (q_blk_get (j := 0) rfl) rfl ?_
  refine q_istore_n dX6_part_4 (q_le rfl) ?_
  refine q_aload_n dX6_part_5 rfl ?_
  refine q_iconst dX6_part_6 (v := 0) (by decide) ?_
  refine q_putf dX6_part_7 pl_X6_23 (q_blk_get (j := 0) rfl) (q_le rfl) rfl rfl ?_
  refine q_heap (q_blk_up (j := 0) (q_le rfl)) ?_
  refine q_iload_n dX6_part_10 rfl ?_
  exact q_iret dX6_part_11 rfl (rfl) (q_le rfl) (q_le rfl)

set_option maxHeartbeats 4000000 in
set_option maxRecDepth 100000 in
theorem c_out {f : q_Hp} {n o b cnt : Nat} {S : Nat → q_St} {ch : Nat → Int32} {cl : Nat} {sam : Nat → Int32} {len lost : Int32} {r1 r2 : q_Rw} {k : Int32} (ho : o + 9 ≤ b) (hcnt : cnt ≤ 8) (hcl : cl ≤ 8)  : Sp yX6_out uX6_out [.ref o, .int k] n (q_blk (stg f b cnt S) o (xE o cnt (xrf b cnt) ch cl sam len lost r1 r2)) (some (.int (bif t_has len k then t_at sam len k else 2000000000)), n, (q_blk (stg f b cnt S) o (xE o cnt (xrf b cnt) ch cl sam len lost r1 r2))) := by
  refine Sp.ofF (by decide +kernel) rfl rfl (q_le rfl) ?_
  intro G d
  refine q_aload_n dX6_out_0 rfl ?_
  refine q_getf dX6_out_1 fl_X6_29 (q_blk_get (j := 0) rfl) rfl ?_
  refine q_iload_n dX6_out_4 rfl ?_
  refine q_cVr (j := 3) (c_X5_has) dX6_out_5 kl_X6_151 rfl rfl rfl rfl ⟨q_le rfl, q_le rfl⟩ (q_le rfl) (q_le rfl) (q_le rfl) ?_
  refine q_ifne_b (tgt := 14) dX6_out_8 (by decide) (fun c_8 => ?_) (fun c_8 => ?_)
  · refine q_aload_n dX6_out_14 rfl ?_
    refine q_getf dX6_out_15 fl_X6_29 (q_blk_get (j := 0) rfl) rfl ?_
    refine q_iload_n dX6_out_18 rfl ?_
    refine q_cVr (j := 3) (c_X5_at) dX6_out_19 kl_X6_154 rfl rfl rfl rfl ⟨q_le rfl, q_le rfl⟩ (q_le rfl) (q_le rfl) (q_le rfl) ?_
    exact q_iret dX6_out_22 rfl (by rw [c_8]; rfl) (q_le rfl) (q_le rfl)
  · refine q_ldc dX6_out_11 cn_X6_73 ?_
    exact q_iret dX6_out_13 rfl (by rw [c_8]; rfl) (q_le rfl) (q_le rfl)

set_option maxHeartbeats 4000000 in
set_option maxRecDepth 100000 in
theorem c_empty {f : q_Hp} {n o b cnt : Nat} {S : Nat → q_St} {ch : Nat → Int32} {cl : Nat} {sam : Nat → Int32} {len lost : Int32} {r1 r2 : q_Rw}  (ho : o + 9 ≤ b) (hcnt : cnt ≤ 8) (hcl : cl ≤ 8)  : Sp yX6_empty uX6_empty [.ref o] n (q_blk (stg f b cnt S) o (xE o cnt (xrf b cnt) ch cl sam len lost r1 r2)) (some (.int len), n, (q_blk (stg f b cnt S) o (xE o cnt (xrf b cnt) ch cl sam 0 lost r1 r2))) := by
  refine Sp.ofF (by decide +kernel) rfl rfl (q_le rfl) ?_
  intro G d
  refine q_aload_n dX6_empty_0 rfl ?_
  refine q_getf dX6_empty_1 fl_X6_29 (q_blk_get (j := 0) rfl) rfl ?_
  refine q_getf dX6_empty_4 fl_X6_157 (q_blk_get (j := 3) rfl) rfl ?_
  refine q_istore_n dX6_empty_7 (q_le rfl) ?_
  refine q_aload_n dX6_empty_8 rfl ?_
  refine q_getf dX6_empty_9 fl_X6_29 (q_blk_get (j := 0) rfl) rfl ?_
  refine q_iconst dX6_empty_12 (v := 0) (by decide) ?_
  refine q_putf dX6_empty_13 pl_X6_157 (q_blk_get (j := 3) rfl) (q_le rfl) rfl rfl ?_
  refine q_heap (q_blk_up (j := 3) (q_le rfl)) ?_
  refine q_iload_n dX6_empty_16 rfl ?_
  exact q_iret dX6_empty_17 rfl (rfl) (q_le rfl) (q_le rfl)

def x_rs (S : Nat → q_St) : Nat → Nat → q_St
  | 0 => S
  | k + 1 => va_up (x_rs S k) k (S_forget (x_rs S k k))
set_option maxHeartbeats 4000000 in
set_option maxRecDepth 100000 in
theorem lp_X6_reset {G : q_G} {d : q_D} {z : q_Z} {f : q_Hp} {n o b cnt : Nat} {S : Nat → q_St} {ch : Nat → Int32} {cl : Nat} {sam : Nat → Int32} {len lost : Int32} {r1 r2 : q_Rw} (ho : o + 9 ≤ b) (hcnt : cnt ≤ 8) (hcl : cl ≤ 8) (hx : J G d uX6_reset z 0 0 n 30 (q_l [(0, .ref o)]) [] (q_blk (stg f b cnt (x_rs S cnt)) o (xE o cnt (xrf b cnt) ch cl sam len lost r1 r2))) : ∀ (k i : Nat), i + k = cnt → J G d uX6_reset z 0 0 n 2 (q_l [(0, .ref o), (1, .int (nI i))]) [] (q_blk (stg f b cnt (x_rs S i)) o (xE o cnt (xrf b cnt) ch cl sam len lost r1 r2)) := by
  intro k
  induction k with
  | zero =>
    intro i hi
    rw [show i = cnt by omega]
    refine q_iload_n dX6_reset_2 rfl ?_
    refine q_aload_n dX6_reset_3 rfl ?_
    refine q_getf dX6_reset_4 fl_X6_15 (q_blk_get (j := 0) rfl) rfl ?_
    refine q_icmp_ge (tgt := 30) dX6_reset_7 (by decide) (fun c_7 => ?_) (fun h_n => absurd ((Int32.le_refl _)) h_n)
    exact q_lo [(0, .ref o)] ⟨rfl, trivial⟩ hx
  | succ k ih =>
    intro i hi
    refine q_iload_n dX6_reset_2 rfl ?_
    refine q_aload_n dX6_reset_3 rfl ?_
    refine q_getf dX6_reset_4 fl_X6_15 (q_blk_get (j := 0) rfl) rfl ?_
    refine q_icmp_ge (tgt := 30) dX6_reset_7 (by decide) (fun h_n => absurd h_n ((nI_ge (by omega) (by omega)))) (fun c_7 => ?_)
    refine q_aload_n dX6_reset_10 rfl ?_
    refine q_iload_n dX6_reset_11 rfl ?_
    refine q_cW (c_find_ok ho hcnt hcl (show i < cnt by omega)) dX6_reset_12 kl_X6_55 rfl (q_blk_get (j := 0) rfl) rfl ⟨q_le rfl, q_le rfl⟩ (q_le rfl) (q_le rfl) (q_le rfl) ?_
    refine q_astore_n dX6_reset_15 (q_le rfl) ?_
    refine q_aload_n dX6_reset_16 rfl ?_
    refine q_ifnull dX6_reset_17 ?_
    refine q_aload_n dX6_reset_20 rfl ?_
    refine q_cSt (w_forget) dX6_reset_21 kl_X6_160 rfl (show i < cnt by omega) ho rfl ⟨q_le rfl, q_le rfl⟩ (q_le rfl) (q_le rfl) (q_le rfl) ?_
    refine q_iinc dX6_reset_24 rfl (v := nI (i + 1)) (nI_1 i) ?_
    refine q_goto (tgt := 2) dX6_reset_27 (by decide) ?_
    exact q_lo [(0, .ref o), (1, .int (nI (i + 1)))] ⟨rfl, rfl, trivial⟩ (ih (i + 1) (by omega))

set_option maxHeartbeats 4000000 in
set_option maxRecDepth 100000 in
theorem c_reset {f : q_Hp} {n o b cnt : Nat} {S : Nat → q_St} {ch : Nat → Int32} {cl : Nat} {sam : Nat → Int32} {len lost : Int32} {r1 r2 : q_Rw}  (ho : o + 9 ≤ b) (hcnt : cnt ≤ 8) (hcl : cl ≤ 8)  : Sp yX6_reset uX6_reset [.ref o] n (q_blk (stg f b cnt S) o (xE o cnt (xrf b cnt) ch cl sam len lost r1 r2)) (some (.int (nI cnt)), n, (q_blk (stg f b cnt (x_rs S cnt)) o (xE o cnt (xrf b cnt) ch cl sam len lost r1 r2))) := by
  refine Sp.ofF (by decide +kernel) rfl rfl (q_le rfl) ?_
  intro G d
  refine q_iconst dX6_reset_0 (v := 0) (by decide) ?_
  refine q_istore_n dX6_reset_1 (q_le rfl) ?_
  refine q_lo [(0, .ref o), (1, .int (nI 0))] ⟨rfl, rfl, trivial⟩ (lp_X6_reset ho hcnt hcl ?_ cnt 0 (by omega))
  refine q_aload_n dX6_reset_30 rfl ?_
  refine q_getf dX6_reset_31 fl_X6_15 (q_blk_get (j := 0) rfl) rfl ?_
  exact q_iret dX6_reset_34 rfl (rfl) (q_le rfl) (q_le rfl)

set_option maxHeartbeats 4000000 in
set_option maxRecDepth 100000 in
theorem c_through_bad {f : q_Hp} {n o b cnt : Nat} {S : Nat → q_St} {ch : Nat → Int32} {cl : Nat} {sam : Nat → Int32} {len lost : Int32} {r1 r2 : q_Rw} {k x : Int32} (ho : o + 9 ≤ b) (hcnt : cnt ≤ 8) (hcl : cl ≤ 8) (hk : k < 0 ∨ nI cnt ≤ k) : Sp yX6_through uX6_through [.ref o, .int k, .int x] n (q_blk (stg f b cnt S) o (xE o cnt (xrf b cnt) ch cl sam len lost r1 r2)) (some (.int 2000000000), n, (q_blk (stg f b cnt S) o (xE o cnt (xrf b cnt) ch cl sam len lost r1 r2))) := by
  refine Sp.ofF (by decide +kernel) rfl rfl (q_le rfl) ?_
  intro G d
  refine q_aload_n dX6_through_0 rfl ?_
  refine q_iload_n dX6_through_1 rfl ?_
  refine q_cW (c_find_no ho hcnt hcl hk) dX6_through_2 kl_X6_55 rfl (q_blk_get (j := 0) rfl) rfl ⟨q_le rfl, q_le rfl⟩ (q_le rfl) (q_le rfl) (q_le rfl) ?_
  refine q_astore_nN dX6_through_5 (q_le rfl) ?_
  refine q_aload_nN dX6_through_6 rfl ?_
  refine q_ifnullN (tgt := 17) dX6_through_7 (by decide) ?_
  refine q_ldc dX6_through_17 cn_X6_73 ?_
  exact q_iret dX6_through_19 rfl (rfl) (q_le rfl) (q_le rfl)

set_option maxHeartbeats 4000000 in
set_option maxRecDepth 100000 in
theorem c_through_rng {f : q_Hp} {n o b cnt : Nat} {S : Nat → q_St} {ch : Nat → Int32} {cl : Nat} {sam : Nat → Int32} {len lost : Int32} {r1 r2 : q_Rw} {i : Nat} {x : Int32} (ho : o + 9 ≤ b) (hcnt : cnt ≤ 8) (hcl : cl ≤ 8) (hi : i < cnt) (hx : x_in x (-32768) 32767 = false) : Sp yX6_through uX6_through [.ref o, .int (nI i), .int x] n (q_blk (stg f b cnt S) o (xE o cnt (xrf b cnt) ch cl sam len lost r1 r2)) (some (.int 2000000000), n, (q_blk (stg f b cnt S) o (xE o cnt (xrf b cnt) ch cl sam len lost r1 r2))) := by
  refine Sp.ofF (by decide +kernel) rfl rfl (q_le rfl) ?_
  intro G d
  refine q_aload_n dX6_through_0 rfl ?_
  refine q_iload_n dX6_through_1 rfl ?_
  refine q_cW (c_find_ok ho hcnt hcl hi) dX6_through_2 kl_X6_55 rfl (q_blk_get (j := 0) rfl) rfl ⟨q_le rfl, q_le rfl⟩ (q_le rfl) (q_le rfl) (q_le rfl) ?_
  refine q_astore_n dX6_through_5 (q_le rfl) ?_
  refine q_aload_n dX6_through_6 rfl ?_
  refine q_ifnull dX6_through_7 ?_
  refine q_iload_n dX6_through_10 rfl ?_
  refine q_cS (c_X6_isSample) dX6_through_11 kl_X6_145 rfl ⟨q_le rfl, q_le rfl⟩ (q_le rfl) (q_le rfl) (q_le rfl) ?_
  refine q_ifne_b (tgt := 20) dX6_through_14 (by decide) (fun h_n => absurd (h_n.symm.trans (hx)) (by decide)) (fun c_14 => ?_)
  refine q_ldc dX6_through_17 cn_X6_73 ?_
  exact q_iret dX6_through_19 rfl (rfl) (q_le rfl) (q_le rfl)

set_option maxHeartbeats 4000000 in
set_option maxRecDepth 100000 in
theorem c_through_no {f : q_Hp} {n o b cnt : Nat} {S : Nat → q_St} {ch : Nat → Int32} {cl : Nat} {sam : Nat → Int32} {len lost : Int32} {r1 r2 : q_Rw} {i : Nat} {x : Int32} (ho : o + 9 ≤ b) (hcnt : cnt ≤ 8) (hcl : cl ≤ 8) (hi : i < cnt) (hx : x_in x (-32768) 32767 = true) (hp : S_pst (S i) = 0 ∨ ¬ S_by (S i) = 1) : Sp yX6_through uX6_through [.ref o, .int (nI i), .int x] n (q_blk (stg f b cnt S) o (xE o cnt (xrf b cnt) ch cl sam len lost r1 r2)) (some (.int 2000000001), n, (q_blk (stg f b cnt S) o (xE o cnt (xrf b cnt) ch cl sam len lost r1 r2))) := by
  refine Sp.ofF (by decide +kernel) rfl rfl (q_le rfl) ?_
  intro G d
  rcases hp with h | h
  · refine q_aload_n dX6_through_0 rfl ?_
    refine q_iload_n dX6_through_1 rfl ?_
    refine q_cW (c_find_ok ho hcnt hcl hi) dX6_through_2 kl_X6_55 rfl (q_blk_get (j := 0) rfl) rfl ⟨q_le rfl, q_le rfl⟩ (q_le rfl) (q_le rfl) (q_le rfl) ?_
    refine q_astore_n dX6_through_5 (q_le rfl) ?_
    refine q_aload_n dX6_through_6 rfl ?_
    refine q_ifnull dX6_through_7 ?_
    refine q_iload_n dX6_through_10 rfl ?_
    refine q_cS (c_X6_isSample) dX6_through_11 kl_X6_145 rfl ⟨q_le rfl, q_le rfl⟩ (q_le rfl) (q_le rfl) (q_le rfl) ?_
    refine q_ifne_b (tgt := 20) dX6_through_14 (by decide) (fun c_14 => ?_) (fun h_n => absurd (h_n.symm.trans (hx)) (by decide))
    refine q_aload_n dX6_through_20 rfl ?_
    refine q_getf dX6_through_21 fl_X6_99 (xw_get hi ho (j := 0) rfl) rfl ?_
    refine q_getf dX6_through_24 fl_X6_103 (xw_get hi ho (j := 2) rfl) rfl ?_
    refine q_if_eq (tgt := 38) dX6_through_27 (by decide) (fun c_27 => ?_) (fun h_n => absurd (h) h_n)
    refine q_ldc dX6_through_38 cn_X6_163 ?_
    exact q_iret dX6_through_40 rfl (rfl) (q_le rfl) (q_le rfl)
  · refine q_aload_n dX6_through_0 rfl ?_
    refine q_iload_n dX6_through_1 rfl ?_
    refine q_cW (c_find_ok ho hcnt hcl hi) dX6_through_2 kl_X6_55 rfl (q_blk_get (j := 0) rfl) rfl ⟨q_le rfl, q_le rfl⟩ (q_le rfl) (q_le rfl) (q_le rfl) ?_
    refine q_astore_n dX6_through_5 (q_le rfl) ?_
    refine q_aload_n dX6_through_6 rfl ?_
    refine q_ifnull dX6_through_7 ?_
    refine q_iload_n dX6_through_10 rfl ?_
    refine q_cS (c_X6_isSample) dX6_through_11 kl_X6_145 rfl ⟨q_le rfl, q_le rfl⟩ (q_le rfl) (q_le rfl) (q_le rfl) ?_
    refine q_ifne_b (tgt := 20) dX6_through_14 (by decide) (fun c_14 => ?_) (fun h_n => absurd (h_n.symm.trans (hx)) (by decide))
    refine q_aload_n dX6_through_20 rfl ?_
    refine q_getf dX6_through_21 fl_X6_99 (xw_get hi ho (j := 0) rfl) rfl ?_
    refine q_getf dX6_through_24 fl_X6_103 (xw_get hi ho (j := 2) rfl) rfl ?_
    refine q_if_eq (tgt := 38) dX6_through_27 (by decide) (fun c_27 => ?_) (fun c_27 => ?_)
    · refine q_ldc dX6_through_38 cn_X6_163 ?_
      exact q_iret dX6_through_40 rfl (rfl) (q_le rfl) (q_le rfl)
    · refine q_aload_n dX6_through_30 rfl ?_
      refine q_getf dX6_through_31 fl_X6_114 (xw_get hi ho (j := 0) rfl) rfl ?_
      refine q_iconst dX6_through_34 (v := 1) (by decide) ?_
      refine q_icmp_eq (tgt := 41) dX6_through_35 (by decide) (fun h_n => absurd h_n (h)) (fun c_35 => ?_)
      refine q_ldc dX6_through_38 cn_X6_163 ?_
      exact q_iret dX6_through_40 rfl (rfl) (q_le rfl) (q_le rfl)

set_option maxHeartbeats 4000000 in
set_option maxRecDepth 100000 in
theorem c_through_ok {f : q_Hp} {n o b cnt : Nat} {S : Nat → q_St} {ch : Nat → Int32} {cl : Nat} {sam : Nat → Int32} {len lost : Int32} {r1 r2 : q_Rw} {i : Nat} {x : Int32} (ho : o + 9 ≤ b) (hcnt : cnt ≤ 8) (hcl : cl ≤ 8) (hi : i < cnt) (hok : S_ok (S i)) (hx : x_in x (-32768) 32767 = true) (hp : ¬ S_pst (S i) = 0) (hb : S_by (S i) = 1) : Sp yX6_through uX6_through [.ref o, .int (nI i), .int x] n (q_blk (stg f b cnt S) o (xE o cnt (xrf b cnt) ch cl sam len lost r1 r2)) (some (.int (S_out x (S i))), n, (q_blk (stg f b cnt (va_up S i (S_take x (S i)))) o (xE o cnt (xrf b cnt) ch cl sam len lost r1 r2))) := by
  refine Sp.ofF (by decide +kernel) rfl rfl (q_le rfl) ?_
  intro G d
  refine q_aload_n dX6_through_0 rfl ?_
  refine q_iload_n dX6_through_1 rfl ?_
  refine q_cW (c_find_ok ho hcnt hcl hi) dX6_through_2 kl_X6_55 rfl (q_blk_get (j := 0) rfl) rfl ⟨q_le rfl, q_le rfl⟩ (q_le rfl) (q_le rfl) (q_le rfl) ?_
  refine q_astore_n dX6_through_5 (q_le rfl) ?_
  refine q_aload_n dX6_through_6 rfl ?_
  refine q_ifnull dX6_through_7 ?_
  refine q_iload_n dX6_through_10 rfl ?_
  refine q_cS (c_X6_isSample) dX6_through_11 kl_X6_145 rfl ⟨q_le rfl, q_le rfl⟩ (q_le rfl) (q_le rfl) (q_le rfl) ?_
  refine q_ifne_b (tgt := 20) dX6_through_14 (by decide) (fun c_14 => ?_) (fun h_n => absurd (h_n.symm.trans (hx)) (by decide))
  refine q_aload_n dX6_through_20 rfl ?_
  refine q_getf dX6_through_21 fl_X6_99 (xw_get hi ho (j := 0) rfl) rfl ?_
  refine q_getf dX6_through_24 fl_X6_103 (xw_get hi ho (j := 2) rfl) rfl ?_
  refine q_if_eq (tgt := 38) dX6_through_27 (by decide) (fun h_n => absurd h_n (hp)) (fun c_27 => ?_)
  refine q_aload_n dX6_through_30 rfl ?_
  refine q_getf dX6_through_31 fl_X6_114 (xw_get hi ho (j := 0) rfl) rfl ?_
  refine q_iconst dX6_through_34 (v := 1) (by decide) ?_
  refine q_icmp_eq (tgt := 41) dX6_through_35 (by decide) (fun c_35 => ?_) (fun h_n => absurd (hb) h_n)
  refine q_aload_n dX6_through_41 rfl ?_
  refine q_iload_n dX6_through_42 rfl ?_
  refine q_cSt (w_take hok) dX6_through_43 kl_X6_164 rfl hi ho rfl ⟨q_le rfl, q_le rfl⟩ (q_le rfl) (q_le rfl) (q_le rfl) ?_
  exact q_iret dX6_through_46 rfl (rfl) (q_le rfl) (q_le rfl)

def x_told (X : q_St) (v : Int32) : Int64 := if S_lst X = 0 then 0 else if v = 0 then S_sum X else if v = 1 then S_rnd X else if v = 2 then (S_lout X).toInt64 else if v = 3 then S_ex X else if v = 4 then S_psz X * 32768 else 0
def x_near (X : q_St) : Int32 := if S_lst X = 0 then -3 else bif l_near (S_rnd X) (S_ex X) (S_ssz X) (S_rby X) (S_below X) (S_shift X) then 1 else 0
def x_cntd (X : q_St) (v : Int32) : Int64 := if v = 0 then (if S_pst X = 0 then 0 else S_cin X) else if v = 1 then (if S_pst X = 0 then 0 else S_hld X) else if v = 2 then (if S_pst X = 0 then 0 else S_gst X) else -2
def x_count (cnt cl : Nat) (len lost v : Int32) : Int32 := if v = 0 then nI cnt else if v = 1 then nI cl else if v = 2 then len else if v = 3 then lost else -2
set_option maxHeartbeats 4000000 in
set_option maxRecDepth 100000 in
theorem c_told_bad {f : q_Hp} {n o b cnt : Nat} {S : Nat → q_St} {ch : Nat → Int32} {cl : Nat} {sam : Nat → Int32} {len lost : Int32} {r1 r2 : q_Rw} {k v : Int32} (ho : o + 9 ≤ b) (hcnt : cnt ≤ 8) (hcl : cl ≤ 8) (hk : k < 0 ∨ nI cnt ≤ k) : Sp yX6_told uX6_told [.ref o, .int k, .int v] n (q_blk (stg f b cnt S) o (xE o cnt (xrf b cnt) ch cl sam len lost r1 r2)) (some (.long 0), n, (q_blk (stg f b cnt S) o (xE o cnt (xrf b cnt) ch cl sam len lost r1 r2))) := by
  refine Sp.ofF (by decide +kernel) rfl rfl (q_le rfl) ?_
  intro G d
  refine q_aload_n dX6_told_0 rfl ?_
  refine q_iload_n dX6_told_1 rfl ?_
  refine q_cW (c_find_no ho hcnt hcl hk) dX6_told_2 kl_X6_55 rfl (q_blk_get (j := 0) rfl) rfl ⟨q_le rfl, q_le rfl⟩ (q_le rfl) (q_le rfl) (q_le rfl) ?_
  refine q_astore_nN dX6_told_5 (q_le rfl) ?_
  refine q_aload_nN dX6_told_6 rfl ?_
  refine q_ifnullN (tgt := 20) dX6_told_7 (by decide) ?_
  refine q_lconst dX6_told_20 (v := 0) (by decide) ?_
  exact q_lret dX6_told_21 rfl (rfl) (q_le rfl) (q_le rfl)

set_option maxHeartbeats 4000000 in
set_option maxRecDepth 100000 in
theorem c_told_ok {f : q_Hp} {n o b cnt : Nat} {S : Nat → q_St} {ch : Nat → Int32} {cl : Nat} {sam : Nat → Int32} {len lost : Int32} {r1 r2 : q_Rw} {i : Nat} {v : Int32} (ho : o + 9 ≤ b) (hcnt : cnt ≤ 8) (hcl : cl ≤ 8) (hi : i < cnt) : Sp yX6_told uX6_told [.ref o, .int (nI i), .int v] n (q_blk (stg f b cnt S) o (xE o cnt (xrf b cnt) ch cl sam len lost r1 r2)) (some (.long (x_told (S i) v)), n, (q_blk (stg f b cnt S) o (xE o cnt (xrf b cnt) ch cl sam len lost r1 r2))) := by
  refine Sp.ofF (by decide +kernel) rfl rfl (q_le rfl) ?_
  intro G d
  refine q_aload_n dX6_told_0 rfl ?_
  refine q_iload_n dX6_told_1 rfl ?_
  refine q_cW (c_find_ok ho hcnt hcl hi) dX6_told_2 kl_X6_55 rfl (q_blk_get (j := 0) rfl) rfl ⟨q_le rfl, q_le rfl⟩ (q_le rfl) (q_le rfl) (q_le rfl) ?_
  refine q_astore_n dX6_told_5 (q_le rfl) ?_
  refine q_aload_n dX6_told_6 rfl ?_
  refine q_ifnull dX6_told_7 ?_
  refine q_aload_n dX6_told_10 rfl ?_
  refine q_getf dX6_told_11 fl_X6_167 (xw_get hi ho (j := 0) rfl) rfl ?_
  refine q_getf dX6_told_14 fl_X6_171 (xw_get hi ho (j := 4) rfl) rfl ?_
  refine q_if_ne (tgt := 22) dX6_told_17 (by decide) (fun c_17 => ?_) (fun c_17 => ?_)
  · refine q_aload_n dX6_told_22 rfl ?_
    refine q_getf dX6_told_23 fl_X6_167 (xw_get hi ho (j := 0) rfl) rfl ?_
    refine q_astore dX6_told_26 (q_le rfl) ?_
    refine q_iload_n dX6_told_28 rfl ?_
    by_cases s_29_0 : v = 0
    · refine q_tblIn (off := 35) (tgt := 64) dX6_told_29 (by rw [s_29_0]; decide) (by rw [s_29_0]; decide) (by rw [s_29_0]; rfl) (by decide) ?_
      refine q_aload dX6_told_64 rfl ?_
      refine q_getf dX6_told_66 fl_X6_174 (xw_get hi ho (j := 4) rfl) rfl ?_
      exact q_lret dX6_told_69 rfl (by unfold x_told; rw [if_neg (show ¬ S_lst (S i) = 0 from c_17), if_pos s_29_0] <;> rfl) (q_le rfl) (q_le rfl)
    by_cases s_29_1 : v = 1
    · refine q_tblIn (off := 41) (tgt := 70) dX6_told_29 (by rw [s_29_1]; decide) (by rw [s_29_1]; decide) (by rw [s_29_1]; rfl) (by decide) ?_
      refine q_aload dX6_told_70 rfl ?_
      refine q_getf dX6_told_72 fl_X6_177 (xw_get hi ho (j := 4) rfl) rfl ?_
      exact q_lret dX6_told_75 rfl (by unfold x_told; rw [if_neg (show ¬ S_lst (S i) = 0 from c_17), if_neg s_29_0, if_pos s_29_1] <;> rfl) (q_le rfl) (q_le rfl)
    by_cases s_29_2 : v = 2
    · refine q_tblIn (off := 47) (tgt := 76) dX6_told_29 (by rw [s_29_2]; decide) (by rw [s_29_2]; decide) (by rw [s_29_2]; rfl) (by decide) ?_
      refine q_aload dX6_told_76 rfl ?_
      refine q_getf dX6_told_78 fl_X6_180 (xw_get hi ho (j := 4) rfl) rfl ?_
      refine q_i2l dX6_told_81 ?_
      exact q_lret dX6_told_82 rfl (by unfold x_told; rw [if_neg (show ¬ S_lst (S i) = 0 from c_17), if_neg s_29_0, if_neg s_29_1, if_pos s_29_2] <;> rfl) (q_le rfl) (q_le rfl)
    by_cases s_29_3 : v = 3
    · refine q_tblIn (off := 54) (tgt := 83) dX6_told_29 (by rw [s_29_3]; decide) (by rw [s_29_3]; decide) (by rw [s_29_3]; rfl) (by decide) ?_
      refine q_aload dX6_told_83 rfl ?_
      refine q_getf dX6_told_85 fl_X6_183 (xw_get hi ho (j := 4) rfl) rfl ?_
      exact q_lret dX6_told_88 rfl (by unfold x_told; rw [if_neg (show ¬ S_lst (S i) = 0 from c_17), if_neg s_29_0, if_neg s_29_1, if_neg s_29_2, if_pos s_29_3] <;> rfl) (q_le rfl) (q_le rfl)
    by_cases s_29_4 : v = 4
    · refine q_tblIn (off := 60) (tgt := 89) dX6_told_29 (by rw [s_29_4]; decide) (by rw [s_29_4]; decide) (by rw [s_29_4]; rfl) (by decide) ?_
      refine q_aload_n dX6_told_89 rfl ?_
      refine q_getf dX6_told_90 fl_X6_99 (xw_get hi ho (j := 0) rfl) rfl ?_
      refine q_getf dX6_told_93 fl_X6_135 (xw_get hi ho (j := 2) rfl) rfl ?_
      refine q_ldc2 dX6_told_96 cn_X6_186 ?_
      refine q_lmul dX6_told_99 ?_
      exact q_lret dX6_told_100 rfl (by unfold x_told; rw [if_neg (show ¬ S_lst (S i) = 0 from c_17), if_neg s_29_0, if_neg s_29_1, if_neg s_29_2, if_neg s_29_3, if_pos s_29_4] <;> rfl) (q_le rfl) (q_le rfl)
    have is_29_0 := q_ne s_29_0 (i := 0) (by decide)
    have is_29_1 := q_ne s_29_1 (i := 1) (by decide)
    have is_29_2 := q_ne s_29_2 (i := 2) (by decide)
    have is_29_3 := q_ne s_29_3 (i := 3) (by decide)
    have is_29_4 := q_ne s_29_4 (i := 4) (by decide)
    refine q_tblOut (tgt := 101) dX6_told_29 (by omega) (by decide) ?_
    refine q_lconst dX6_told_101 (v := 0) (by decide) ?_
    exact q_lret dX6_told_102 rfl (by unfold x_told; rw [if_neg (show ¬ S_lst (S i) = 0 from c_17), if_neg s_29_0, if_neg s_29_1, if_neg s_29_2, if_neg s_29_3, if_neg s_29_4] <;> rfl) (q_le rfl) (q_le rfl)
  · refine q_lconst dX6_told_20 (v := 0) (by decide) ?_
    exact q_lret dX6_told_21 rfl (by unfold x_told; rw [if_pos (show S_lst (S i) = 0 from c_17)] <;> rfl) (q_le rfl) (q_le rfl)

set_option maxHeartbeats 4000000 in
set_option maxRecDepth 100000 in
theorem c_near_bad {f : q_Hp} {n o b cnt : Nat} {S : Nat → q_St} {ch : Nat → Int32} {cl : Nat} {sam : Nat → Int32} {len lost : Int32} {r1 r2 : q_Rw} {k : Int32} (ho : o + 9 ≤ b) (hcnt : cnt ≤ 8) (hcl : cl ≤ 8) (hk : k < 0 ∨ nI cnt ≤ k) : Sp yX6_near uX6_near [.ref o, .int k] n (q_blk (stg f b cnt S) o (xE o cnt (xrf b cnt) ch cl sam len lost r1 r2)) (some (.int (-2)), n, (q_blk (stg f b cnt S) o (xE o cnt (xrf b cnt) ch cl sam len lost r1 r2))) := by
  refine Sp.ofF (by decide +kernel) rfl rfl (q_le rfl) ?_
  intro G d
  refine q_aload_n dX6_near_0 rfl ?_
  refine q_iload_n dX6_near_1 rfl ?_
  refine q_cW (c_find_no ho hcnt hcl hk) dX6_near_2 kl_X6_55 rfl (q_blk_get (j := 0) rfl) rfl ⟨q_le rfl, q_le rfl⟩ (q_le rfl) (q_le rfl) (q_le rfl) ?_
  refine q_astore_nN dX6_near_5 (q_le rfl) ?_
  refine q_aload_nN dX6_near_6 rfl ?_
  refine q_ifnonnullN dX6_near_7 ?_
  refine q_bipush dX6_near_10 (v := (-2)) (by decide) ?_
  exact q_iret dX6_near_12 rfl (rfl) (q_le rfl) (q_le rfl)

set_option maxHeartbeats 4000000 in
set_option maxRecDepth 100000 in
theorem c_near_ok {f : q_Hp} {n o b cnt : Nat} {S : Nat → q_St} {ch : Nat → Int32} {cl : Nat} {sam : Nat → Int32} {len lost : Int32} {r1 r2 : q_Rw} {i : Nat} (ho : o + 9 ≤ b) (hcnt : cnt ≤ 8) (hcl : cl ≤ 8) (hi : i < cnt) : Sp yX6_near uX6_near [.ref o, .int (nI i)] n (q_blk (stg f b cnt S) o (xE o cnt (xrf b cnt) ch cl sam len lost r1 r2)) (some (.int (x_near (S i))), n, (q_blk (stg f b cnt S) o (xE o cnt (xrf b cnt) ch cl sam len lost r1 r2))) := by
  refine Sp.ofF (by decide +kernel) rfl rfl (q_le rfl) ?_
  intro G d
  refine q_aload_n dX6_near_0 rfl ?_
  refine q_iload_n dX6_near_1 rfl ?_
  refine q_cW (c_find_ok ho hcnt hcl hi) dX6_near_2 kl_X6_55 rfl (q_blk_get (j := 0) rfl) rfl ⟨q_le rfl, q_le rfl⟩ (q_le rfl) (q_le rfl) (q_le rfl) ?_
  refine q_astore_n dX6_near_5 (q_le rfl) ?_
  refine q_aload_n dX6_near_6 rfl ?_
  refine q_ifnonnull (tgt := 13) dX6_near_7 (by decide) ?_
  refine q_aload_n dX6_near_13 rfl ?_
  refine q_getf dX6_near_14 fl_X6_167 (xw_get hi ho (j := 0) rfl) rfl ?_
  refine q_getf dX6_near_17 fl_X6_171 (xw_get hi ho (j := 4) rfl) rfl ?_
  refine q_if_ne (tgt := 26) dX6_near_20 (by decide) (fun c_20 => ?_) (fun c_20 => ?_)
  · refine q_aload_n dX6_near_26 rfl ?_
    refine q_getf dX6_near_27 fl_X6_167 (xw_get hi ho (j := 0) rfl) rfl ?_
    refine q_aload_n dX6_near_30 rfl ?_
    refine q_getf dX6_near_31 fl_X6_111 (xw_get hi ho (j := 0) rfl) rfl ?_
    refine q_aload_n dX6_near_34 rfl ?_
    refine q_getf dX6_near_35 fl_X6_99 (xw_get hi ho (j := 0) rfl) rfl ?_
    refine q_getf dX6_near_38 fl_X6_117 (xw_get hi ho (j := 2) rfl) rfl ?_
    refine q_cSs (j := 4) (c_X0_isWithinBound) dX6_near_41 kl_X6_188 rfl hi ho rfl rfl rfl ⟨q_le rfl, q_le rfl⟩ (q_le rfl) (q_le rfl) (q_le rfl) ?_
    refine q_ifeq_b (tgt := 51) dX6_near_44 (by decide) (fun c_44 => ?_) (fun c_44 => ?_)
    · refine q_iconst dX6_near_51 (v := 0) (by decide) ?_
      exact q_iret dX6_near_52 rfl (by unfold x_near; rw [if_neg (show ¬ S_lst (S i) = 0 from c_20), show l_near (S_rnd (S i)) (S_ex (S i)) (S_ssz (S i)) (S_rby (S i)) (S_below (S i)) (S_shift (S i)) = false from c_44] <;> rfl) (q_le rfl) (q_le rfl)
    · refine q_iconst dX6_near_47 (v := 1) (by decide) ?_
      refine q_goto (tgt := 52) dX6_near_48 (by decide) ?_
      exact q_iret dX6_near_52 rfl (by unfold x_near; rw [if_neg (show ¬ S_lst (S i) = 0 from c_20), show l_near (S_rnd (S i)) (S_ex (S i)) (S_ssz (S i)) (S_rby (S i)) (S_below (S i)) (S_shift (S i)) = true from c_44] <;> rfl) (q_le rfl) (q_le rfl)
  · refine q_bipush dX6_near_23 (v := (-3)) (by decide) ?_
    exact q_iret dX6_near_25 rfl (by unfold x_near; rw [if_pos (show S_lst (S i) = 0 from c_20)]) (q_le rfl) (q_le rfl)

set_option maxHeartbeats 4000000 in
set_option maxRecDepth 100000 in
theorem c_cntd_bad {f : q_Hp} {n o b cnt : Nat} {S : Nat → q_St} {ch : Nat → Int32} {cl : Nat} {sam : Nat → Int32} {len lost : Int32} {r1 r2 : q_Rw} {k v : Int32} (ho : o + 9 ≤ b) (hcnt : cnt ≤ 8) (hcl : cl ≤ 8) (hk : k < 0 ∨ nI cnt ≤ k) : Sp yX6_counted uX6_counted [.ref o, .int k, .int v] n (q_blk (stg f b cnt S) o (xE o cnt (xrf b cnt) ch cl sam len lost r1 r2)) (some (.long (-2)), n, (q_blk (stg f b cnt S) o (xE o cnt (xrf b cnt) ch cl sam len lost r1 r2))) := by
  refine Sp.ofF (by decide +kernel) rfl rfl (q_le rfl) ?_
  intro G d
  refine q_aload_n dX6_counted_0 rfl ?_
  refine q_iload_n dX6_counted_1 rfl ?_
  refine q_cW (c_find_no ho hcnt hcl hk) dX6_counted_2 kl_X6_55 rfl (q_blk_get (j := 0) rfl) rfl ⟨q_le rfl, q_le rfl⟩ (q_le rfl) (q_le rfl) (q_le rfl) ?_
  refine q_astore_nN dX6_counted_5 (q_le rfl) ?_
  refine q_aload_nN dX6_counted_6 rfl ?_
  refine q_ifnonnullN dX6_counted_7 ?_
  refine q_ldc2 dX6_counted_10 cn_X6_133 ?_
  exact q_lret dX6_counted_13 rfl (rfl) (q_le rfl) (q_le rfl)

set_option maxHeartbeats 4000000 in
set_option maxRecDepth 100000 in
theorem c_cntd_ok {f : q_Hp} {n o b cnt : Nat} {S : Nat → q_St} {ch : Nat → Int32} {cl : Nat} {sam : Nat → Int32} {len lost : Int32} {r1 r2 : q_Rw} {i : Nat} {v : Int32} (ho : o + 9 ≤ b) (hcnt : cnt ≤ 8) (hcl : cl ≤ 8) (hi : i < cnt) : Sp yX6_counted uX6_counted [.ref o, .int (nI i), .int v] n (q_blk (stg f b cnt S) o (xE o cnt (xrf b cnt) ch cl sam len lost r1 r2)) (some (.long (x_cntd (S i) v)), n, (q_blk (stg f b cnt S) o (xE o cnt (xrf b cnt) ch cl sam len lost r1 r2))) := by
  refine Sp.ofF (by decide +kernel) rfl rfl (q_le rfl) ?_
  intro G d
  refine q_aload_n dX6_counted_0 rfl ?_
  refine q_iload_n dX6_counted_1 rfl ?_
  refine q_cW (c_find_ok ho hcnt hcl hi) dX6_counted_2 kl_X6_55 rfl (q_blk_get (j := 0) rfl) rfl ⟨q_le rfl, q_le rfl⟩ (q_le rfl) (q_le rfl) (q_le rfl) ?_
  refine q_astore_n dX6_counted_5 (q_le rfl) ?_
  refine q_aload_n dX6_counted_6 rfl ?_
  refine q_ifnonnull (tgt := 14) dX6_counted_7 (by decide) ?_
  refine q_aload_n dX6_counted_14 rfl ?_
  refine q_getf dX6_counted_15 fl_X6_99 (xw_get hi ho (j := 0) rfl) rfl ?_
  refine q_getf dX6_counted_18 fl_X6_103 (xw_get hi ho (j := 2) rfl) rfl ?_
  refine q_istore dX6_counted_21 (q_le rfl) ?_
  refine q_iload_n dX6_counted_23 rfl ?_
  by_cases s_24_0 : v = 0
  · refine q_tblIn (off := 28) (tgt := 52) dX6_counted_24 (by rw [s_24_0]; decide) (by rw [s_24_0]; decide) (by rw [s_24_0]; rfl) (by decide) ?_
    refine q_iload dX6_counted_52 rfl ?_
    refine q_if_eq (tgt := 64) dX6_counted_54 (by decide) (fun c_54 => ?_) (fun c_54 => ?_)
    · refine q_lconst dX6_counted_64 (v := 0) (by decide) ?_
      exact q_lret dX6_counted_65 rfl (by unfold x_cntd; rw [if_pos s_24_0, if_pos (show S_pst (S i) = 0 from c_54)] <;> rfl) (q_le rfl) (q_le rfl)
    · refine q_aload_n dX6_counted_57 rfl ?_
      refine q_getf dX6_counted_58 fl_X6_191 (xw_get hi ho (j := 0) rfl) rfl ?_
      refine q_goto (tgt := 65) dX6_counted_61 (by decide) ?_
      exact q_lret dX6_counted_65 rfl (by unfold x_cntd; rw [if_pos s_24_0, if_neg (show ¬ S_pst (S i) = 0 from c_54)] <;> rfl) (q_le rfl) (q_le rfl)
  by_cases s_24_1 : v = 1
  · refine q_tblIn (off := 42) (tgt := 66) dX6_counted_24 (by rw [s_24_1]; decide) (by rw [s_24_1]; decide) (by rw [s_24_1]; rfl) (by decide) ?_
    refine q_iload dX6_counted_66 rfl ?_
    refine q_if_eq (tgt := 78) dX6_counted_68 (by decide) (fun c_68 => ?_) (fun c_68 => ?_)
    · refine q_lconst dX6_counted_78 (v := 0) (by decide) ?_
      exact q_lret dX6_counted_79 rfl (by unfold x_cntd; rw [if_neg s_24_0, if_pos s_24_1, if_pos (show S_pst (S i) = 0 from c_68)] <;> rfl) (q_le rfl) (q_le rfl)
    · refine q_aload_n dX6_counted_71 rfl ?_
      refine q_getf dX6_counted_72 fl_X6_194 (xw_get hi ho (j := 0) rfl) rfl ?_
      refine q_goto (tgt := 79) dX6_counted_75 (by decide) ?_
      exact q_lret dX6_counted_79 rfl (by unfold x_cntd; rw [if_neg s_24_0, if_pos s_24_1, if_neg (show ¬ S_pst (S i) = 0 from c_68)] <;> rfl) (q_le rfl) (q_le rfl)
  by_cases s_24_2 : v = 2
  · refine q_tblIn (off := 56) (tgt := 80) dX6_counted_24 (by rw [s_24_2]; decide) (by rw [s_24_2]; decide) (by rw [s_24_2]; rfl) (by decide) ?_
    refine q_iload dX6_counted_80 rfl ?_
    refine q_if_eq (tgt := 92) dX6_counted_82 (by decide) (fun c_82 => ?_) (fun c_82 => ?_)
    · refine q_lconst dX6_counted_92 (v := 0) (by decide) ?_
      exact q_lret dX6_counted_93 rfl (by unfold x_cntd; rw [if_neg s_24_0, if_neg s_24_1, if_pos s_24_2, if_pos (show S_pst (S i) = 0 from c_82)] <;> rfl) (q_le rfl) (q_le rfl)
    · refine q_aload_n dX6_counted_85 rfl ?_
      refine q_getf dX6_counted_86 fl_X6_197 (xw_get hi ho (j := 0) rfl) rfl ?_
      refine q_goto (tgt := 93) dX6_counted_89 (by decide) ?_
      exact q_lret dX6_counted_93 rfl (by unfold x_cntd; rw [if_neg s_24_0, if_neg s_24_1, if_pos s_24_2, if_neg (show ¬ S_pst (S i) = 0 from c_82)] <;> rfl) (q_le rfl) (q_le rfl)
  have is_24_0 := q_ne s_24_0 (i := 0) (by decide)
  have is_24_1 := q_ne s_24_1 (i := 1) (by decide)
  have is_24_2 := q_ne s_24_2 (i := 2) (by decide)
  refine q_tblOut (tgt := 94) dX6_counted_24 (by omega) (by decide) ?_
  refine q_ldc2 dX6_counted_94 cn_X6_133 ?_
  exact q_lret dX6_counted_97 rfl (by unfold x_cntd; rw [if_neg s_24_0, if_neg s_24_1, if_neg s_24_2] <;> rfl) (q_le rfl) (q_le rfl)

set_option maxHeartbeats 4000000 in
set_option maxRecDepth 100000 in
theorem c_count {f : q_Hp} {n o b cnt : Nat} {S : Nat → q_St} {ch : Nat → Int32} {cl : Nat} {sam : Nat → Int32} {len lost : Int32} {r1 r2 : q_Rw} {v : Int32} (ho : o + 9 ≤ b) (hcnt : cnt ≤ 8) (hcl : cl ≤ 8)  : Sp yX6_count uX6_count [.ref o, .int v] n (q_blk (stg f b cnt S) o (xE o cnt (xrf b cnt) ch cl sam len lost r1 r2)) (some (.int (x_count cnt cl len lost v)), n, (q_blk (stg f b cnt S) o (xE o cnt (xrf b cnt) ch cl sam len lost r1 r2))) := by
  refine Sp.ofF (by decide +kernel) rfl rfl (q_le rfl) ?_
  intro G d
  refine q_iload_n dX6_count_0 rfl ?_
  by_cases s_1_0 : v = 0
  · refine q_tblIn (off := 31) (tgt := 32) dX6_count_1 (by rw [s_1_0]; decide) (by rw [s_1_0]; decide) (by rw [s_1_0]; rfl) (by decide) ?_
    refine q_aload_n dX6_count_32 rfl ?_
    refine q_getf dX6_count_33 fl_X6_15 (q_blk_get (j := 0) rfl) rfl ?_
    exact q_iret dX6_count_36 rfl (by unfold x_count; rw [if_pos s_1_0] <;> rfl) (q_le rfl) (q_le rfl)
  by_cases s_1_1 : v = 1
  · refine q_tblIn (off := 36) (tgt := 37) dX6_count_1 (by rw [s_1_1]; decide) (by rw [s_1_1]; decide) (by rw [s_1_1]; rfl) (by decide) ?_
    refine q_aload_n dX6_count_37 rfl ?_
    refine q_getf dX6_count_38 fl_X6_23 (q_blk_get (j := 0) rfl) rfl ?_
    exact q_iret dX6_count_41 rfl (by unfold x_count; rw [if_neg s_1_0, if_pos s_1_1] <;> rfl) (q_le rfl) (q_le rfl)
  by_cases s_1_2 : v = 2
  · refine q_tblIn (off := 41) (tgt := 42) dX6_count_1 (by rw [s_1_2]; decide) (by rw [s_1_2]; decide) (by rw [s_1_2]; rfl) (by decide) ?_
    refine q_aload_n dX6_count_42 rfl ?_
    refine q_getf dX6_count_43 fl_X6_29 (q_blk_get (j := 0) rfl) rfl ?_
    refine q_getf dX6_count_46 fl_X6_157 (q_blk_get (j := 3) rfl) rfl ?_
    exact q_iret dX6_count_49 rfl (by unfold x_count; rw [if_neg s_1_0, if_neg s_1_1, if_pos s_1_2] <;> rfl) (q_le rfl) (q_le rfl)
  by_cases s_1_3 : v = 3
  · refine q_tblIn (off := 49) (tgt := 50) dX6_count_1 (by rw [s_1_3]; decide) (by rw [s_1_3]; decide) (by rw [s_1_3]; rfl) (by decide) ?_
    refine q_aload_n dX6_count_50 rfl ?_
    refine q_getf dX6_count_51 fl_X6_29 (q_blk_get (j := 0) rfl) rfl ?_
    refine q_getf dX6_count_54 fl_X6_200 (q_blk_get (j := 3) rfl) rfl ?_
    exact q_iret dX6_count_57 rfl (by unfold x_count; rw [if_neg s_1_0, if_neg s_1_1, if_neg s_1_2, if_pos s_1_3] <;> rfl) (q_le rfl) (q_le rfl)
  have is_1_0 := q_ne s_1_0 (i := 0) (by decide)
  have is_1_1 := q_ne s_1_1 (i := 1) (by decide)
  have is_1_2 := q_ne s_1_2 (i := 2) (by decide)
  have is_1_3 := q_ne s_1_3 (i := 3) (by decide)
  refine q_tblOut (tgt := 58) dX6_count_1 (by omega) (by decide) ?_
  refine q_bipush dX6_count_58 (v := (-2)) (by decide) ?_
  exact q_iret dX6_count_60 rfl (by unfold x_count; rw [if_neg s_1_0, if_neg s_1_1, if_neg s_1_2, if_neg s_1_3] <;> rfl) (q_le rfl) (q_le rfl)

def x_d1 (X : q_St) (pl : Int32) (h : Int64) : Nat → Int64
  | 0 => h
  | w + 1 => 31 * x_d1 X pl h w + (x_about X pl (nI w)).toInt64
def x_d (S : Nat → q_St) (ch : Nat → Int32) (cl : Nat) : Nat → Int64
  | 0 => 43
  | i + 1 => 31 * (31 * S_mix (x_d1 (S i) (x_plc ch cl i) (x_d S ch cl i) 10) (S i) + x_cntd (S i) 0) + x_cntd (S i) 1
set_option maxHeartbeats 4000000 in
set_option maxRecDepth 100000 in
theorem lp_X6_dig1 {G : q_G} {d : q_D} {z : q_Z} {f : q_Hp} {n o b cnt : Nat} {S : Nat → q_St} {ch : Nat → Int32} {cl : Nat} {sam : Nat → Int32} {len lost : Int32} {r1 r2 : q_Rw} {t : Nat} {g : Int64} (ho : o + 9 ≤ b) (hcnt : cnt ≤ 8) (hcl : cl ≤ 8) (ht : t < cnt) (hok : S_ok (S t)) (hx : J G d uX6_digest z 0 0 n 45 (q_l [(0, .ref o), (1, .long (x_d1 (S t) (x_plc ch cl t) g 10)), (3, .int (nI t))]) [] (q_blk (stg f b cnt S) o (xE o cnt (xrf b cnt) ch cl sam len lost r1 r2))) : ∀ (k i : Nat), i + k = 10 → J G d uX6_digest z 0 0 n 17 (q_l [(0, .ref o), (1, .long (x_d1 (S t) (x_plc ch cl t) g i)), (3, .int (nI t)), (4, .int (nI i))]) [] (q_blk (stg f b cnt S) o (xE o cnt (xrf b cnt) ch cl sam len lost r1 r2)) := by
  intro k
  induction k with
  | zero =>
    intro i hi
    rw [show i = 10 by omega]
    refine q_iload dX6_digest_17 rfl ?_
    refine q_bipush dX6_digest_19 (v := 9) (by decide) ?_
    refine q_icmp_gt (tgt := 45) dX6_digest_21 (by decide) (fun c_21 => ?_) (fun h_n => absurd ((by decide)) h_n)
    exact q_lo [(0, .ref o), (1, .long (x_d1 (S t) (x_plc ch cl t) g 10)), (3, .int (nI t))] ⟨rfl, rfl, rfl, trivial⟩ hx
  | succ k ih =>
    intro i hi
    refine q_iload dX6_digest_17 rfl ?_
    refine q_bipush dX6_digest_19 (v := 9) (by decide) ?_
    refine q_icmp_gt (tgt := 45) dX6_digest_21 (by decide) (fun h_n => absurd h_n ((nI_nlt (a := 9) (b := i) (by omega) (by decide)))) (fun c_21 => ?_)
    refine q_ldc2 dX6_digest_24 cn_X6_205 ?_
    refine q_lload_n dX6_digest_27 rfl ?_
    refine q_lmul dX6_digest_28 ?_
    refine q_aload_n dX6_digest_29 rfl ?_
    refine q_iload_n dX6_digest_30 rfl ?_
    refine q_iload dX6_digest_31 rfl ?_
    refine q_cW (c_about_ok ho hcnt hcl ht hok) dX6_digest_33 kl_X6_207 rfl (q_blk_get (j := 0) rfl) rfl ⟨q_le rfl, q_le rfl⟩ (q_le rfl) (q_le rfl) (q_le rfl) ?_
    refine q_i2l dX6_digest_36 ?_
    refine q_ladd dX6_digest_37 ?_
    refine q_lstore_n dX6_digest_38 (q_le rfl) ?_
    refine q_iinc dX6_digest_39 rfl (v := nI (i + 1)) (nI_1 i) ?_
    refine q_goto (tgt := 17) dX6_digest_42 (by decide) ?_
    exact q_lo [(0, .ref o), (1, .long (x_d1 (S t) (x_plc ch cl t) g (i + 1))), (3, .int (nI t)), (4, .int (nI (i + 1)))] ⟨rfl, rfl, rfl, rfl, trivial⟩ (ih (i + 1) (by omega))

set_option maxHeartbeats 4000000 in
set_option maxRecDepth 100000 in
theorem lp_X6_dig {G : q_G} {d : q_D} {z : q_Z} {f : q_Hp} {n o b cnt : Nat} {S : Nat → q_St} {ch : Nat → Int32} {cl : Nat} {sam : Nat → Int32} {len lost : Int32} {r1 r2 : q_Rw} (ho : o + 9 ≤ b) (hcnt : cnt ≤ 8) (hcl : cl ≤ 8) (hok : ∀ t : Nat, t < cnt → S_ok (S t)) (hx : J G d uX6_digest z 0 0 n 96 (q_l [(0, .ref o), (1, .long (x_d S ch cl cnt))]) [] (q_blk (stg f b cnt S) o (xE o cnt (xrf b cnt) ch cl sam len lost r1 r2))) : ∀ (k i : Nat), i + k = cnt → J G d uX6_digest z 0 0 n 6 (q_l [(0, .ref o), (1, .long (x_d S ch cl i)), (3, .int (nI i))]) [] (q_blk (stg f b cnt S) o (xE o cnt (xrf b cnt) ch cl sam len lost r1 r2)) := by
  intro k
  induction k with
  | zero =>
    intro i hi
    rw [show i = cnt by omega]
    refine q_iload_n dX6_digest_6 rfl ?_
    refine q_aload_n dX6_digest_7 rfl ?_
    refine q_getf dX6_digest_8 fl_X6_15 (q_blk_get (j := 0) rfl) rfl ?_
    refine q_icmp_ge (tgt := 96) dX6_digest_11 (by decide) (fun c_11 => ?_) (fun h_n => absurd ((Int32.le_refl _)) h_n)
    exact q_lo [(0, .ref o), (1, .long (x_d S ch cl cnt))] ⟨rfl, rfl, trivial⟩ hx
  | succ k ih =>
    intro i hi
    refine q_iload_n dX6_digest_6 rfl ?_
    refine q_aload_n dX6_digest_7 rfl ?_
    refine q_getf dX6_digest_8 fl_X6_15 (q_blk_get (j := 0) rfl) rfl ?_
    refine q_icmp_ge (tgt := 96) dX6_digest_11 (by decide) (fun h_n => absurd h_n ((nI_ge (by omega) (by omega)))) (fun c_11 => ?_)
    refine q_iconst dX6_digest_14 (v := 0) (by decide) ?_
    refine q_istore dX6_digest_15 (q_le rfl) ?_
    refine q_lo [(0, .ref o), (1, .long (x_d1 (S i) (x_plc ch cl i) (x_d S ch cl i) 0)), (3, .int (nI i)), (4, .int (nI 0))] ⟨rfl, rfl, rfl, rfl, trivial⟩ (lp_X6_dig1 ho hcnt hcl (show i < cnt by omega) (hok i (by omega)) ?_ 10 0 (by omega))
    refine q_aload_n dX6_digest_45 rfl ?_
    refine q_iload_n dX6_digest_46 rfl ?_
    refine q_cW (c_find_ok ho hcnt hcl (show i < cnt by omega)) dX6_digest_47 kl_X6_55 rfl (q_blk_get (j := 0) rfl) rfl ⟨q_le rfl, q_le rfl⟩ (q_le rfl) (q_le rfl) (q_le rfl) ?_
    refine q_astore dX6_digest_50 (q_le rfl) ?_
    refine q_aload dX6_digest_52 rfl ?_
    refine q_ifnull dX6_digest_54 ?_
    refine q_aload dX6_digest_57 rfl ?_
    refine q_lload_n dX6_digest_59 rfl ?_
    refine q_cStr (w_mix (hok i (by omega))) dX6_digest_60 kl_X6_211 rfl (show i < cnt by omega) ho rfl ⟨q_le rfl, q_le rfl⟩ (q_le rfl) (q_le rfl) (q_le rfl) ?_
    refine q_lstore_n dX6_digest_63 (q_le rfl) ?_
    refine q_ldc2 dX6_digest_64 cn_X6_205 ?_
    refine q_lload_n dX6_digest_67 rfl ?_
    refine q_lmul dX6_digest_68 ?_
    refine q_aload_n dX6_digest_69 rfl ?_
    refine q_iload_n dX6_digest_70 rfl ?_
    refine q_iconst dX6_digest_71 (v := 0) (by decide) ?_
    refine q_cW (c_cntd_ok ho hcnt hcl (show i < cnt by omega)) dX6_digest_72 kl_X6_215 rfl (q_blk_get (j := 0) rfl) rfl ⟨q_le rfl, q_le rfl⟩ (q_le rfl) (q_le rfl) (q_le rfl) ?_
    refine q_ladd dX6_digest_75 ?_
    refine q_lstore_n dX6_digest_76 (q_le rfl) ?_
    refine q_ldc2 dX6_digest_77 cn_X6_205 ?_
    refine q_lload_n dX6_digest_80 rfl ?_
    refine q_lmul dX6_digest_81 ?_
    refine q_aload_n dX6_digest_82 rfl ?_
    refine q_iload_n dX6_digest_83 rfl ?_
    refine q_iconst dX6_digest_84 (v := 1) (by decide) ?_
    refine q_cW (c_cntd_ok ho hcnt hcl (show i < cnt by omega)) dX6_digest_85 kl_X6_215 rfl (q_blk_get (j := 0) rfl) rfl ⟨q_le rfl, q_le rfl⟩ (q_le rfl) (q_le rfl) (q_le rfl) ?_
    refine q_ladd dX6_digest_88 ?_
    refine q_lstore_n dX6_digest_89 (q_le rfl) ?_
    refine q_iinc dX6_digest_90 rfl (v := nI (i + 1)) (nI_1 i) ?_
    refine q_goto (tgt := 6) dX6_digest_93 (by decide) ?_
    exact q_lo [(0, .ref o), (1, .long (x_d S ch cl (i + 1))), (3, .int (nI (i + 1)))] ⟨rfl, rfl, rfl, trivial⟩ (ih (i + 1) (by omega))

set_option maxHeartbeats 4000000 in
set_option maxRecDepth 100000 in
theorem c_digest {f : q_Hp} {n o b cnt : Nat} {S : Nat → q_St} {ch : Nat → Int32} {cl : Nat} {sam : Nat → Int32} {len lost : Int32} {r1 r2 : q_Rw} {m : Nat} (ho : o + 9 ≤ b) (hcnt : cnt ≤ 8) (hcl : cl ≤ 8) (hok : ∀ t : Nat, t < cnt → S_ok (S t)) (hln : len = nI m) (hm : m ≤ 600) : Sp yX6_digest uX6_digest [.ref o] n (q_blk (stg f b cnt S) o (xE o cnt (xrf b cnt) ch cl sam len lost r1 r2)) (some (.long (t_mix sam len (x_d S ch cl cnt) m)), n, (q_blk (stg f b cnt S) o (xE o cnt (xrf b cnt) ch cl sam len lost r1 r2))) := by
  refine Sp.ofF (by decide +kernel) rfl rfl (q_le rfl) ?_
  intro G d
  subst hln
  refine q_ldc2 dX6_digest_0 cn_X6_203 ?_
  refine q_lstore_n dX6_digest_3 (q_le rfl) ?_
  refine q_iconst dX6_digest_4 (v := 0) (by decide) ?_
  refine q_istore_n dX6_digest_5 (q_le rfl) ?_
  refine q_lo [(0, .ref o), (1, .long (x_d S ch cl 0)), (3, .int (nI 0))] ⟨rfl, rfl, rfl, trivial⟩ (lp_X6_dig ho hcnt hcl hok ?_ cnt 0 (by omega))
  refine q_aload_n dX6_digest_96 rfl ?_
  refine q_getf dX6_digest_97 fl_X6_29 (q_blk_get (j := 0) rfl) rfl ?_
  refine q_lload_n dX6_digest_100 rfl ?_
  refine q_cVr (j := 3) (c_X5_mixSamples hm) dX6_digest_101 kl_X6_219 rfl rfl rfl rfl ⟨q_le rfl, q_le rfl⟩ (q_le rfl) (q_le rfl) (q_le rfl) ?_
  exact q_lret dX6_digest_104 rfl (rfl) (q_le rfl) (q_le rfl)

