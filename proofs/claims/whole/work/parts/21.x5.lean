theorem y_ok_go {cnt cl : Nat} {ch : Nat → Int32} (hch : ∀ t : Nat, t < cl → (ch t).toNatClampNeg < cnt ∧ ch t = nI (ch t).toNatClampNeg) : ∀ (k t : Nat) (w : q_Y), t + k = cl → y_ok cnt w → y_ok cnt (y_go ch k t w)
  | 0, _, _, _, h => h
  | k + 1, t, w, hk, h => y_ok_go hch k (t + 1) (y_nx ch t w) (by omega) (y_ok_nx h (hch t (by omega)).1)
/-- what a sample changes: stages, tape, the two rows -/
abbrev q_U : Type := (Nat → q_St) × q_T × q_Rw × q_Rw
def u_y (ch : Nat → Int32) (cl : Nat) (x : Int32) (u : q_U) : q_Y := y_fin u.1 ch cl u.2.2.1 u.2.2.2 x
def u_send (ch : Nat → Int32) (cl : Nat) (x : Int32) (u : q_U) : q_U := ((u_y ch cl x u).1, y_tape (u_y ch cl x u) u.2.1, (y_row cl (u_y ch cl x u)).1, (y_row cl (u_y ch cl x u)).2)
def u_ok (cnt : Nat) (S : Nat → q_St) : Prop := ∀ j : Nat, j < cnt → S_ok (S j) ∧ ∃ e : Nat, e ≤ 4 ∧ s_fill (S_by (S j)) = nI e
theorem u_send_ok {cnt cl : Nat} {ch : Nat → Int32} (hch : ∀ t : Nat, t < cl → (ch t).toNatClampNeg < cnt ∧ ch t = nI (ch t).toNatClampNeg) {x : Int32} {u : q_U} (h : u_ok cnt u.1) : u_ok cnt (u_send ch cl x u).1 := (y_ok_go hch cl 0 (u.1, 1, upd u.2.2.1.1 (0 : Int32).toNatClampNeg x, u.2.2.2) (by omega) ⟨h, q_le rfl⟩).1
def u_rm (ch : Nat → Int32) (cl : Nat) (v s : Int32) (u : q_U) : Nat → q_U × Int32 × Int32
  | 0 => (u, 0, v)
  | i + 1 => (u_send ch cl (u_rm ch cl v s u i).2.2 (u_rm ch cl v s u i).1, (u_rm ch cl v s u i).2.1 + nI (u_y ch cl (u_rm ch cl v s u i).2.2 (u_rm ch cl v s u i).1).2.1, ((u_rm ch cl v s u i).2.2 + s).toInt16.toInt32)
theorem u_rm_ok {cnt cl : Nat} {ch : Nat → Int32} (hch : ∀ t : Nat, t < cl → (ch t).toNatClampNeg < cnt ∧ ch t = nI (ch t).toNatClampNeg) {v s : Int32} {u : q_U} (h : u_ok cnt u.1) : ∀ i : Nat, u_ok cnt (u_rm ch cl v s u i).1.1
  | 0 => h
  | i + 1 => u_send_ok hch (u_rm_ok hch h i)
set_option maxHeartbeats 4000000 in
set_option maxRecDepth 100000 in
theorem lp_ramp {G : q_G} {d : q_D} {z : q_Z} {f : q_Hp} {n o b cnt : Nat} {S : Nat → q_St} {ch : Nat → Int32} {cl : Nat} {sam : Nat → Int32} {len lost : Int32} {r1 r2 : q_Rw} {v s : Int32} {k0 : Nat} (ho : o + 9 ≤ b) (hcnt : cnt ≤ 8) (hcl : cl ≤ 8) (hch : ∀ t : Nat, t < cl → (ch t).toNatClampNeg < cnt ∧ ch t = nI (ch t).toNatClampNeg) (hok : u_ok cnt S) (hk0 : k0 ≤ 64) (hx : J G d uX6_ramp z 0 0 n 59 (q_l [(4, .int (u_rm ch cl v s (S, (sam, len, lost), r1, r2) k0).2.1)]) [] (q_blk (stg f b cnt ((u_rm ch cl v s (S, (sam, len, lost), r1, r2) k0).1.1)) o (xE o cnt (xrf b cnt) ch cl ((u_rm ch cl v s (S, (sam, len, lost), r1, r2) k0).1.2.1.1) ((u_rm ch cl v s (S, (sam, len, lost), r1, r2) k0).1.2.1.2.1) ((u_rm ch cl v s (S, (sam, len, lost), r1, r2) k0).1.2.1.2.2) ((u_rm ch cl v s (S, (sam, len, lost), r1, r2) k0).1.2.2.1) ((u_rm ch cl v s (S, (sam, len, lost), r1, r2) k0).1.2.2.2)))) : ∀ (k i : Nat), i + k = k0 → J G d uX6_ramp z 0 0 n 29 (q_l [(0, .ref o), (2, .int s), (3, .int (nI k0)), (4, .int (u_rm ch cl v s (S, (sam, len, lost), r1, r2) i).2.1), (5, .int (u_rm ch cl v s (S, (sam, len, lost), r1, r2) i).2.2), (6, .int (nI i))]) [] (q_blk (stg f b cnt ((u_rm ch cl v s (S, (sam, len, lost), r1, r2) i).1.1)) o (xE o cnt (xrf b cnt) ch cl ((u_rm ch cl v s (S, (sam, len, lost), r1, r2) i).1.2.1.1) ((u_rm ch cl v s (S, (sam, len, lost), r1, r2) i).1.2.1.2.1) ((u_rm ch cl v s (S, (sam, len, lost), r1, r2) i).1.2.1.2.2) ((u_rm ch cl v s (S, (sam, len, lost), r1, r2) i).1.2.2.1) ((u_rm ch cl v s (S, (sam, len, lost), r1, r2) i).1.2.2.2))) := by
  intro k
  induction k with
  | zero =>
    intro i hi
    rw [show i = k0 by omega]
    refine q_iload dX6_ramp_29 rfl ?_
    refine q_iload_n dX6_ramp_31 rfl ?_
    refine q_icmp_ge (tgt := 59) dX6_ramp_32 (by decide) (fun c_32 => ?_) (fun h_n => absurd ((Int32.le_refl _)) h_n)
    exact q_lo [(4, .int (u_rm ch cl v s (S, (sam, len, lost), r1, r2) k0).2.1)] ⟨rfl, trivial⟩ hx
  | succ k ih =>
    intro i hi
    refine q_iload dX6_ramp_29 rfl ?_
    refine q_iload_n dX6_ramp_31 rfl ?_
    refine q_icmp_ge (tgt := 59) dX6_ramp_32 (by decide) (fun h_n => absurd h_n ((nI_ge (by omega) (by omega)))) (fun c_32 => ?_)
    refine q_iload dX6_ramp_35 rfl ?_
    refine q_aload_n dX6_ramp_37 rfl ?_
    refine q_iload dX6_ramp_38 rfl ?_
    refine q_cW (c_send ho hcnt hcl hch (u_rm_ok hch (v := v) (s := s) (u := (S, (sam, len, lost), r1, r2)) hok i)) dX6_ramp_40 kl_X6_148 rfl (q_blk_get (j := 0) rfl) rfl ⟨q_le rfl, q_le rfl⟩ (q_le rfl) (q_le rfl) (q_le rfl) ?_
    refine q_iadd dX6_ramp_43 ?_
    refine q_istore dX6_ramp_44 (q_le rfl) ?_
    refine q_iload dX6_ramp_46 rfl ?_
    refine q_iload_n dX6_ramp_48 rfl ?_
    refine q_iadd dX6_ramp_49 ?_
    refine q_i2s dX6_ramp_50 ?_
    refine q_istore dX6_ramp_51 (q_le rfl) ?_
    refine q_iinc dX6_ramp_53 rfl (v := nI (i + 1)) (nI_1 i) ?_
    refine q_goto (tgt := 29) dX6_ramp_56 (by decide) ?_
    exact q_lo [(0, .ref o), (2, .int s), (3, .int (nI k0)), (4, .int (u_rm ch cl v s (S, (sam, len, lost), r1, r2) (i + 1)).2.1), (5, .int (u_rm ch cl v s (S, (sam, len, lost), r1, r2) (i + 1)).2.2), (6, .int (nI (i + 1)))] ⟨rfl, rfl, rfl, rfl, rfl, rfl, trivial⟩ (ih (i + 1) (by omega))

set_option maxHeartbeats 4000000 in
set_option maxRecDepth 100000 in
theorem c_ramp_rng {f : q_Hp} {n o b cnt : Nat} {S : Nat → q_St} {ch : Nat → Int32} {cl : Nat} {sam : Nat → Int32} {len lost : Int32} {r1 r2 : q_Rw} {v s nn : Int32} (ho : o + 9 ≤ b) (hcnt : cnt ≤ 8) (hcl : cl ≤ 8) (hx : x_in v (-32768) 32767 = false) : Sp yX6_ramp uX6_ramp [.ref o, .int v, .int s, .int nn] n (q_blk (stg f b cnt S) o (xE o cnt (xrf b cnt) ch cl sam len lost r1 r2)) (some (.int (-2)), n, (q_blk (stg f b cnt S) o (xE o cnt (xrf b cnt) ch cl sam len lost r1 r2))) := by
  refine Sp.ofF (by decide +kernel) rfl rfl (q_le rfl) ?_
  intro G d
  refine q_iload_n dX6_ramp_0 rfl ?_
  refine q_cS (c_X6_isSample) dX6_ramp_1 kl_X6_145 rfl ⟨q_le rfl, q_le rfl⟩ (q_le rfl) (q_le rfl) (q_le rfl) ?_
  refine q_ifeq_b (tgt := 17) dX6_ramp_4 (by decide) (fun c_4 => ?_) (fun h_n => absurd (h_n.symm.trans (hx)) (by decide))
  refine q_bipush dX6_ramp_17 (v := (-2)) (by decide) ?_
  exact q_iret dX6_ramp_19 rfl (rfl) (q_le rfl) (q_le rfl)

set_option maxHeartbeats 4000000 in
set_option maxRecDepth 100000 in
theorem c_ramp_rng2 {f : q_Hp} {n o b cnt : Nat} {S : Nat → q_St} {ch : Nat → Int32} {cl : Nat} {sam : Nat → Int32} {len lost : Int32} {r1 r2 : q_Rw} {v s nn : Int32} (ho : o + 9 ≤ b) (hcnt : cnt ≤ 8) (hcl : cl ≤ 8) (hx : x_in v (-32768) 32767 = true) (hr : x_in nn 1 64 = false) : Sp yX6_ramp uX6_ramp [.ref o, .int v, .int s, .int nn] n (q_blk (stg f b cnt S) o (xE o cnt (xrf b cnt) ch cl sam len lost r1 r2)) (some (.int (-2)), n, (q_blk (stg f b cnt S) o (xE o cnt (xrf b cnt) ch cl sam len lost r1 r2))) := by
  refine Sp.ofF (by decide +kernel) rfl rfl (q_le rfl) ?_
  intro G d
  refine q_iload_n dX6_ramp_0 rfl ?_
  refine q_cS (c_X6_isSample) dX6_ramp_1 kl_X6_145 rfl ⟨q_le rfl, q_le rfl⟩ (q_le rfl) (q_le rfl) (q_le rfl) ?_
  refine q_ifeq_b (tgt := 17) dX6_ramp_4 (by decide) (fun h_n => absurd (h_n.symm.trans (hx)) (by decide)) (fun c_4 => ?_)
  refine q_iload_n dX6_ramp_7 rfl ?_
  refine q_iconst dX6_ramp_8 (v := 1) (by decide) ?_
  refine q_bipush dX6_ramp_9 (v := 64) (by decide) ?_
  refine q_cS (c_X6_within) dX6_ramp_11 kl_X6_44 rfl ⟨q_le rfl, q_le rfl⟩ (q_le rfl) (q_le rfl) (q_le rfl) ?_
  refine q_ifne_b (tgt := 20) dX6_ramp_14 (by decide) (fun h_n => absurd (h_n.symm.trans (hr)) (by decide)) (fun c_14 => ?_)
  refine q_bipush dX6_ramp_17 (v := (-2)) (by decide) ?_
  exact q_iret dX6_ramp_19 rfl (rfl) (q_le rfl) (q_le rfl)

set_option maxHeartbeats 4000000 in
set_option maxRecDepth 100000 in
theorem c_ramp_ok {f : q_Hp} {n o b cnt : Nat} {S : Nat → q_St} {ch : Nat → Int32} {cl : Nat} {sam : Nat → Int32} {len lost : Int32} {r1 r2 : q_Rw} {v s : Int32} {k0 : Nat} (ho : o + 9 ≤ b) (hcnt : cnt ≤ 8) (hcl : cl ≤ 8) (hx : x_in v (-32768) 32767 = true) (hr : x_in (nI k0) 1 64 = true) (hk0 : k0 ≤ 64) (hch : ∀ t : Nat, t < cl → (ch t).toNatClampNeg < cnt ∧ ch t = nI (ch t).toNatClampNeg) (hok : u_ok cnt S) : Sp yX6_ramp uX6_ramp [.ref o, .int v, .int s, .int (nI k0)] n (q_blk (stg f b cnt S) o (xE o cnt (xrf b cnt) ch cl sam len lost r1 r2)) (some (.int (u_rm ch cl v s (S, (sam, len, lost), r1, r2) k0).2.1), n, (q_blk (stg f b cnt ((u_rm ch cl v s (S, (sam, len, lost), r1, r2) k0).1.1)) o (xE o cnt (xrf b cnt) ch cl ((u_rm ch cl v s (S, (sam, len, lost), r1, r2) k0).1.2.1.1) ((u_rm ch cl v s (S, (sam, len, lost), r1, r2) k0).1.2.1.2.1) ((u_rm ch cl v s (S, (sam, len, lost), r1, r2) k0).1.2.1.2.2) ((u_rm ch cl v s (S, (sam, len, lost), r1, r2) k0).1.2.2.1) ((u_rm ch cl v s (S, (sam, len, lost), r1, r2) k0).1.2.2.2)))) := by
  refine Sp.ofF (by decide +kernel) rfl rfl (q_le rfl) ?_
  intro G d
  refine q_iload_n dX6_ramp_0 rfl ?_
  refine q_cS (c_X6_isSample) dX6_ramp_1 kl_X6_145 rfl ⟨q_le rfl, q_le rfl⟩ (q_le rfl) (q_le rfl) (q_le rfl) ?_
  refine q_ifeq_b (tgt := 17) dX6_ramp_4 (by decide) (fun h_n => absurd (h_n.symm.trans (hx)) (by decide)) (fun c_4 => ?_)
  refine q_iload_n dX6_ramp_7 rfl ?_
  refine q_iconst dX6_ramp_8 (v := 1) (by decide) ?_
  refine q_bipush dX6_ramp_9 (v := 64) (by decide) ?_
  refine q_cS (c_X6_within) dX6_ramp_11 kl_X6_44 rfl ⟨q_le rfl, q_le rfl⟩ (q_le rfl) (q_le rfl) (q_le rfl) ?_
  refine q_ifne_b (tgt := 20) dX6_ramp_14 (by decide) (fun c_14 => ?_) (fun h_n => absurd (h_n.symm.trans (hr)) (by decide))
  refine q_iconst dX6_ramp_20 (v := 0) (by decide) ?_
  refine q_istore dX6_ramp_21 (q_le rfl) ?_
  refine q_iload_n dX6_ramp_23 rfl ?_
  refine q_istore dX6_ramp_24 (q_le rfl) ?_
  refine q_iconst dX6_ramp_26 (v := 0) (by decide) ?_
  refine q_istore dX6_ramp_27 (q_le rfl) ?_
  refine q_lo [(0, .ref o), (2, .int s), (3, .int (nI k0)), (4, .int (u_rm ch cl v s (S, (sam, len, lost), r1, r2) 0).2.1), (5, .int (u_rm ch cl v s (S, (sam, len, lost), r1, r2) 0).2.2), (6, .int (nI 0))] ⟨rfl, rfl, rfl, rfl, rfl, rfl, trivial⟩ (lp_ramp ho hcnt hcl hch hok hk0 ?_ k0 0 (by omega))
  refine q_iload dX6_ramp_59 rfl ?_
  exact q_iret dX6_ramp_61 rfl (rfl) (q_le rfl) (q_le rfl)

set_option maxHeartbeats 4000000 in
set_option maxRecDepth 100000 in
theorem c_stage_bad {f : q_Hp} {n o b cnt : Nat} {S : Nat → q_St} {ch : Nat → Int32} {cl : Nat} {sam : Nat → Int32} {len lost : Int32} {r1 r2 : q_Rw} {below by_ : Int32} (ho : o + 9 ≤ b) (hcnt : cnt ≤ 8) (hcl : cl ≤ 8) (hx : (x_in below 1 1000000 && x_isBy by_) = false) : Sp yX6_stage uX6_stage [.ref o, .int below, .int by_] n (q_blk (stg f b cnt S) o (xE o cnt (xrf b cnt) ch cl sam len lost r1 r2)) (some (.int (-2)), n, (q_blk (stg f b cnt S) o (xE o cnt (xrf b cnt) ch cl sam len lost r1 r2))) := by
  refine Sp.ofF (by decide +kernel) rfl rfl (q_le rfl) ?_
  intro G d
  cases h : x_in below 1 1000000 with
  | false =>
    refine q_iload_n dX6_stage_0 rfl ?_
    refine q_iconst dX6_stage_1 (v := 1) (by decide) ?_
    refine q_ldc dX6_stage_2 cn_X6_43 ?_
    refine q_cS (c_X6_within) dX6_stage_4 kl_X6_44 rfl ⟨q_le rfl, q_le rfl⟩ (q_le rfl) (q_le rfl) (q_le rfl) ?_
    refine q_ifeq_b (tgt := 17) dX6_stage_7 (by decide) (fun c_7 => ?_) (fun h_n => absurd (h_n.symm.trans (h)) (by decide))
    refine q_bipush dX6_stage_17 (v := (-2)) (by decide) ?_
    exact q_iret dX6_stage_19 rfl (rfl) (q_le rfl) (q_le rfl)
  | true =>
    have h2 : x_isBy by_ = false := by rw [h] at hx; exact hx
    refine q_iload_n dX6_stage_0 rfl ?_
    refine q_iconst dX6_stage_1 (v := 1) (by decide) ?_
    refine q_ldc dX6_stage_2 cn_X6_43 ?_
    refine q_cS (c_X6_within) dX6_stage_4 kl_X6_44 rfl ⟨q_le rfl, q_le rfl⟩ (q_le rfl) (q_le rfl) (q_le rfl) ?_
    refine q_ifeq_b (tgt := 17) dX6_stage_7 (by decide) (fun h_n => absurd (h_n.symm.trans (h)) (by decide)) (fun c_7 => ?_)
    refine q_iload_n dX6_stage_10 rfl ?_
    refine q_cS (c_X6_isBy) dX6_stage_11 kl_X6_48 rfl ⟨q_le rfl, q_le rfl⟩ (q_le rfl) (q_le rfl) (q_le rfl) ?_
    refine q_ifne_b (tgt := 20) dX6_stage_14 (by decide) (fun h_n => absurd (h_n.symm.trans (h2)) (by decide)) (fun c_14 => ?_)
    refine q_bipush dX6_stage_17 (v := (-2)) (by decide) ?_
    exact q_iret dX6_stage_19 rfl (rfl) (q_le rfl) (q_le rfl)

set_option maxHeartbeats 4000000 in
set_option maxRecDepth 100000 in
theorem c_stage_full {f : q_Hp} {n o b cnt : Nat} {S : Nat → q_St} {ch : Nat → Int32} {cl : Nat} {sam : Nat → Int32} {len lost : Int32} {r1 r2 : q_Rw} {below by_ : Int32} (ho : o + 9 ≤ b) (hcnt : cnt ≤ 8) (hcl : cl ≤ 8) (hx : x_in below 1 1000000 = true) (hy : x_isBy by_ = true) (h8 : cnt = 8) : Sp yX6_stage uX6_stage [.ref o, .int below, .int by_] n (q_blk (stg f b cnt S) o (xE o cnt (xrf b cnt) ch cl sam len lost r1 r2)) (some (.int (-4)), n, (q_blk (stg f b cnt S) o (xE o cnt (xrf b cnt) ch cl sam len lost r1 r2))) := by
  refine Sp.ofF (by decide +kernel) rfl rfl (q_le rfl) ?_
  intro G d
  subst h8
  refine q_iload_n dX6_stage_0 rfl ?_
  refine q_iconst dX6_stage_1 (v := 1) (by decide) ?_
  refine q_ldc dX6_stage_2 cn_X6_43 ?_
  refine q_cS (c_X6_within) dX6_stage_4 kl_X6_44 rfl ⟨q_le rfl, q_le rfl⟩ (q_le rfl) (q_le rfl) (q_le rfl) ?_
  refine q_ifeq_b (tgt := 17) dX6_stage_7 (by decide) (fun h_n => absurd (h_n.symm.trans (hx)) (by decide)) (fun c_7 => ?_)
  refine q_iload_n dX6_stage_10 rfl ?_
  refine q_cS (c_X6_isBy) dX6_stage_11 kl_X6_48 rfl ⟨q_le rfl, q_le rfl⟩ (q_le rfl) (q_le rfl) (q_le rfl) ?_
  refine q_ifne_b (tgt := 20) dX6_stage_14 (by decide) (fun c_14 => ?_) (fun h_n => absurd (h_n.symm.trans (hy)) (by decide))
  refine q_aload_n dX6_stage_20 rfl ?_
  refine q_getf dX6_stage_21 fl_X6_15 (q_blk_get (j := 0) rfl) rfl ?_
  refine q_iconst dX6_stage_24 (v := 0) (by decide) ?_
  refine q_aload_n dX6_stage_25 rfl ?_
  refine q_getf dX6_stage_26 fl_X6_11 (q_blk_get (j := 0) rfl) rfl ?_
  refine q_alen dX6_stage_29 (q_blk_get (j := 1) rfl) rfl (v := 8) rfl ?_
  refine q_iconst dX6_stage_30 (v := 1) (by decide) ?_
  refine q_isub dX6_stage_31 ?_
  refine q_cS (c_X6_within) dX6_stage_32 kl_X6_44 rfl ⟨q_le rfl, q_le rfl⟩ (q_le rfl) (q_le rfl) (q_le rfl) ?_
  refine q_ifne_b (tgt := 41) dX6_stage_35 (by decide) (fun h_n => absurd (h_n.symm.trans ((show x_in (nI 8) 0 7 = false by decide))) (by decide)) (fun c_35 => ?_)
  refine q_bipush dX6_stage_38 (v := (-4)) (by decide) ?_
  exact q_iret dX6_stage_40 rfl (rfl) (q_le rfl) (q_le rfl)

theorem xrf_push {b cnt : Nat} (h : cnt < 8) : va_up (xrf b cnt) (nI cnt).toNatClampNeg (some (b + 7 * cnt)) = xrf b (cnt + 1) := by
  funext j
  rw [nI_clamp (by omega)]
  unfold xrf
  by_cases hj : j = cnt
  · subst hj
    rw [vu_self, if_pos (Nat.lt_succ_self _)]
  · rw [show va_up (fun i => if i < cnt then some (b + 7 * i) else none) cnt (some (b + 7 * cnt)) j = (if j < cnt then some (b + 7 * j) else none) from if_neg hj]
    by_cases h2 : j < cnt
    · rw [if_pos h2, if_pos (by omega)]
    · rw [if_neg h2, if_neg (by omega)]
set_option maxHeartbeats 4000000 in
set_option maxRecDepth 100000 in
theorem c_stage_ok {f : q_Hp} {o b cnt : Nat} {S : Nat → q_St} {ch : Nat → Int32} {cl : Nat} {sam : Nat → Int32} {len lost : Int32} {r1 r2 : q_Rw} {below by_ : Int32} (ho : o + 9 ≤ b) (hcnt : cnt ≤ 8) (hcl : cl ≤ 8) (hx : x_in below 1 1000000 = true) (hy : x_isBy by_ = true) (h8 : cnt < 8) : Sp yX6_stage uX6_stage [.ref o, .int below, .int by_] (b + 7 * cnt) (q_blk (stg f b cnt S) o (xE o cnt (xrf b cnt) ch cl sam len lost r1 r2)) (some (.int (nI cnt)), b + 7 * cnt + 7, q_blk (stg f b (cnt + 1) (va_up S cnt (s_new below by_))) o (xE o (cnt + 1) (xrf b (cnt + 1)) ch cl sam len lost r1 r2)) := by
  refine Sp.ofF (by decide +kernel) rfl rfl (q_le rfl) ?_
  intro G d
  refine q_iload_n dX6_stage_0 rfl ?_
  refine q_iconst dX6_stage_1 (v := 1) (by decide) ?_
  refine q_ldc dX6_stage_2 cn_X6_43 ?_
  refine q_cS (c_X6_within) dX6_stage_4 kl_X6_44 rfl ⟨q_le rfl, q_le rfl⟩ (q_le rfl) (q_le rfl) (q_le rfl) ?_
  refine q_ifeq_b (tgt := 17) dX6_stage_7 (by decide) (fun h_n => absurd (h_n.symm.trans (hx)) (by decide)) (fun c_7 => ?_)
  refine q_iload_n dX6_stage_10 rfl ?_
  refine q_cS (c_X6_isBy) dX6_stage_11 kl_X6_48 rfl ⟨q_le rfl, q_le rfl⟩ (q_le rfl) (q_le rfl) (q_le rfl) ?_
  refine q_ifne_b (tgt := 20) dX6_stage_14 (by decide) (fun c_14 => ?_) (fun h_n => absurd (h_n.symm.trans (hy)) (by decide))
  refine q_aload_n dX6_stage_20 rfl ?_
  refine q_getf dX6_stage_21 fl_X6_15 (q_blk_get (j := 0) rfl) rfl ?_
  refine q_iconst dX6_stage_24 (v := 0) (by decide) ?_
  refine q_aload_n dX6_stage_25 rfl ?_
  refine q_getf dX6_stage_26 fl_X6_11 (q_blk_get (j := 0) rfl) rfl ?_
  refine q_alen dX6_stage_29 (q_blk_get (j := 1) rfl) rfl (v := 8) rfl ?_
  refine q_iconst dX6_stage_30 (v := 1) (by decide) ?_
  refine q_isub dX6_stage_31 ?_
  refine q_cS (c_X6_within) dX6_stage_32 kl_X6_44 rfl ⟨q_le rfl, q_le rfl⟩ (q_le rfl) (q_le rfl) (q_le rfl) ?_
  refine q_ifne_b (tgt := 41) dX6_stage_35 (by decide) (fun c_35 => ?_) (fun h_n => absurd (h_n.symm.trans ((x_in7_lt h8))) (by decide))
  refine q_aload_n dX6_stage_41 rfl ?_
  refine q_getf dX6_stage_42 fl_X6_11 (q_blk_get (j := 0) rfl) rfl ?_
  refine q_aload_n dX6_stage_45 rfl ?_
  refine q_getf dX6_stage_46 fl_X6_15 (q_blk_get (j := 0) rfl) rfl ?_
  refine q_new (ci := 4) (ty := tyX4) dX6_stage_49 nl_X6_9 ni_X4 nz_X4 rfl iqX4 tyX4_ok (dfX4_ok d) (q_le rfl) (q_le rfl) ?_
  refine q_dup dX6_stage_52 rfl ?_
  refine q_iload_n dX6_stage_53 rfl ?_
  refine q_iload_n dX6_stage_54 rfl ?_
  refine q_heap (q_up_blk ..) ?_
  refine q_cI (c_X4_init (p := b + 7 * cnt)) dX6_stage_55 kl_X6_52 rfl ⟨q_le rfl, q_le rfl⟩ (q_le rfl) (q_le rfl) (q_le rfl) ?_
  refine q_heap (show _ = q_blk (stg f b (cnt + 1) (va_up S cnt (s_new below by_))) o (xE o cnt (xrf b cnt) ch cl sam len lost r1 r2) from by rw [← q_blk_comm (show o + 9 ≤ b + 7 * cnt by omega), stg_push]) ?_
  refine q_aast (ci := 4) dX6_stage_58 (q_blk_get (j := 1) rfl) (vp_in_nI h8 (by decide)) (xw_getX (i := cnt) (X := s_new below by_) (Nat.lt_succ_self _) ho (vu_self ..) (j := 0) rfl) rfl ?_
  refine q_heap (q_blk_up (j := 1) (q_le rfl)) ?_
  rw [xrf_push h8]
  refine q_aload_n dX6_stage_59 rfl ?_
  refine q_dup dX6_stage_60 rfl ?_
  refine q_getf dX6_stage_61 fl_X6_15 (q_blk_get (j := 0) rfl) rfl ?_
  refine q_iconst dX6_stage_64 (v := 1) (by decide) ?_
  refine q_iadd dX6_stage_65 ?_
  refine q_stk (show _ = [Value.int (nI (cnt + 1)), Value.ref o] from by rw [nI_1]; rfl) ?_
  refine q_putf dX6_stage_66 pl_X6_15 (q_blk_get (j := 0) rfl) (q_le rfl) rfl rfl ?_
  refine q_heap (q_blk_up (j := 0) (q_le rfl)) ?_
  refine q_aload_n dX6_stage_69 rfl ?_
  refine q_getf dX6_stage_70 fl_X6_15 (q_blk_get (j := 0) rfl) rfl ?_
  refine q_iconst dX6_stage_73 (v := 1) (by decide) ?_
  refine q_isub dX6_stage_74 ?_
  exact q_iret dX6_stage_75 rfl (by rw [show nI (cnt + 1) - 1 = nI cnt from nI_pred cnt]; rfl) (q_le rfl) (q_le rfl)

set_option maxHeartbeats 4000000 in
set_option maxRecDepth 100000 in
theorem c_X6_init {f : q_Hp} {o : Nat} : Sp yX6_init uX6_init [.ref o] (o + 1) (q_blk f o [.inr (6, dfX6)]) (none, o + 9, q_blk f o (xE o 0 (fun _ => none) (fun _ => 0) 0 (fun _ => 0) 0 0 ((fun _ => 0), 0) ((fun _ => 0), 0))) := by
  refine Sp.ofF (by decide +kernel) rfl rfl (q_le rfl) ?_
  intro G d
  refine q_aload_n dX6_init_0 rfl ?_
  refine q_objInit dX6_init_1 kl_X6_1 ko_1 ko_2 (q_le rfl) (q_le rfl) ?_
  refine q_aload_n dX6_init_4 rfl ?_
  refine q_bipush dX6_init_5 (v := 8) (by decide) ?_
  refine q_anew (m := 8) dX6_init_7 nl_X6_9 (by decide) (by decide) (by decide) (q_le rfl) (q_le rfl) ?_
  refine q_heap (q_blk_push (j := 1) rfl) ?_
  refine q_putF dX6_init_10 pl_X6_11 rfl (q_blk_get (j := 0) rfl) (q_le rfl) rfl rfl ?_
  refine q_heap (q_blk_up (j := 0) (q_le rfl)) ?_
  refine q_aload_n dX6_init_13 rfl ?_
  refine q_iconst dX6_init_14 (v := 0) (by decide) ?_
  refine q_putf dX6_init_15 pl_X6_15 (q_blk_get (j := 0) rfl) (q_le rfl) rfl rfl ?_
  refine q_heap (q_blk_up (j := 0) (q_le rfl)) ?_
  refine q_aload_n dX6_init_18 rfl ?_
  refine q_bipush dX6_init_19 (v := 8) (by decide) ?_
  refine q_newa (t := 0) (m := 8) (a := (8, .inl (fun _ => 0))) (ty := .int) dX6_init_21 na_int rfl rfl (fun h => h) (fun _ => rfl) (by decide) (by decide) (by decide) (q_le rfl) (q_le rfl) ?_
  refine q_heap (q_blk_push (j := 2) rfl) ?_
  refine q_putF dX6_init_23 pl_X6_19 rfl (q_blk_get (j := 0) rfl) (q_le rfl) rfl rfl ?_
  refine q_heap (q_blk_up (j := 0) (q_le rfl)) ?_
  refine q_aload_n dX6_init_26 rfl ?_
  refine q_iconst dX6_init_27 (v := 0) (by decide) ?_
  refine q_putf dX6_init_28 pl_X6_23 (q_blk_get (j := 0) rfl) (q_le rfl) rfl rfl ?_
  refine q_heap (q_blk_up (j := 0) (q_le rfl)) ?_
  refine q_aload_n dX6_init_31 rfl ?_
  refine q_new (ci := 5) (ty := tyX5) dX6_init_32 nl_X6_26 ni_X5 nz_X5 rfl iqX5 tyX5_ok (dfX5_ok d) (q_le rfl) (q_le rfl) ?_
  refine q_heap (q_blk_push (j := 3) rfl) ?_
  refine q_dup dX6_init_35 rfl ?_
  refine q_cIg (j := 3) (c_X5_init) dX6_init_36 kl_X6_28 rfl rfl (q_le rfl) (q_le rfl) ⟨q_le rfl, q_le rfl⟩ (q_le rfl) (q_le rfl) (q_le rfl) ?_
  refine q_putF dX6_init_39 pl_X6_29 rfl (q_blk_get (j := 0) rfl) (q_le rfl) rfl rfl ?_
  refine q_heap (q_blk_up (j := 0) (q_le rfl)) ?_
  refine q_aload_n dX6_init_42 rfl ?_
  refine q_new (ci := 3) (ty := tyX3) dX6_init_43 nl_X6_33 ni_X3 nz_X3 rfl iqX3 tyX3_ok (dfX3_ok d) (q_le rfl) (q_le rfl) ?_
  refine q_heap (q_blk_push (j := 5) rfl) ?_
  refine q_dup dX6_init_46 rfl ?_
  refine q_cIg (j := 5) (c_X3_init) dX6_init_47 kl_X6_35 rfl rfl (q_le rfl) (q_le rfl) ⟨q_le rfl, q_le rfl⟩ (q_le rfl) (q_le rfl) (q_le rfl) ?_
  refine q_putF dX6_init_50 pl_X6_36 rfl (q_blk_get (j := 0) rfl) (q_le rfl) rfl rfl ?_
  refine q_heap (q_blk_up (j := 0) (q_le rfl)) ?_
  refine q_aload_n dX6_init_53 rfl ?_
  refine q_new (ci := 3) (ty := tyX3) dX6_init_54 nl_X6_33 ni_X3 nz_X3 rfl iqX3 tyX3_ok (dfX3_ok d) (q_le rfl) (q_le rfl) ?_
  refine q_heap (q_blk_push (j := 7) rfl) ?_
  refine q_dup dX6_init_57 rfl ?_
  refine q_cIg (j := 7) (c_X3_init) dX6_init_58 kl_X6_35 rfl rfl (q_le rfl) (q_le rfl) ⟨q_le rfl, q_le rfl⟩ (q_le rfl) (q_le rfl) (q_le rfl) ?_
  refine q_putF dX6_init_61 pl_X6_40 rfl (q_blk_get (j := 0) rfl) (q_le rfl) rfl rfl ?_
  refine q_heap (q_blk_up (j := 0) (q_le rfl)) ?_
  exact q_vret dX6_init_64 rfl (rfl) (q_le rfl) (q_le rfl)

