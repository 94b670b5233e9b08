/-! THE RELATION of the law's world -/
def Rel (n : Nat) (h : q_Hp) : Prop := ∃ (cnt cl tn : Nat) (lost : Int32) (S : Nat → q_St) (ch sam : Nat → Int32) (r1 r2 : q_Rw) (be by_ tc ta wa wr pl bi wo sh fa ch' tp ir ow : Nat → Int32) (D : q_Dy), n = 38 + 7 * cnt ∧ h = lW cnt S (xE 1 cnt (xrf 38 cnt) ch cl sam (nI tn) lost r1 r2) (mD 10 cnt cl tn lost be by_ tc ta wa wr pl bi wo sh fa ch' tp ir ow D) ∧ cnt ≤ 8 ∧ cl ≤ 8 ∧ RW cnt S be by_ tc ta wa wr pl bi wo sh fa D ∧ RC cnt cl by_ pl ch ch' ∧ RT (sam, nI tn, lost) (tp, tn, lost)
theorem bI {Rl : Nat → q_Hp → Prop} {yX yM : MethodName} {uX uM : q_M} {as : List Value} {n n1 cnt cnt' : Nat} {S S' : Nat → q_St} {eX eX' eM eM' : List q_E} {r : Int32} {f5 f6 : List Value} (h5 : eX[0]? = some (.inr (6, f5))) (h6 : eM[0]? = some (.inr (7, f6))) (l1 : eX'.length = 9) (l2 : eM.length = 28) (l3 : eM'.length = 28) (hX : Sp yX uX (.ref 1 :: as) n (q_blk (stg (q_blk (fun _ => none) 10 eM) 38 cnt S) 1 eX) (some (.int r), n1, q_blk (stg (q_blk (fun _ => none) 10 eM) 38 cnt' S') 1 eX')) (hM : Sp yM uM (.ref 10 :: as) n1 (q_blk (q_blk (stg (fun _ => none) 38 cnt' S') 1 eX') 10 eM) (some (.int r), n1, q_blk (q_blk (stg (fun _ => none) 38 cnt' S') 1 eX') 10 eM')) (hR : Rl n1 (lW cnt' S' eX' eM')) : ∃ (r : Int32) (n1 : Nat) (h1 h2 : q_Hp) (f5 f6 : List Value), lW cnt S eX eM 1 = some (.inr (6, f5)) ∧ h1 10 = some (.inr (7, f6)) ∧ Sp yX uX (.ref 1 :: as) n (lW cnt S eX eM) (some (.int r), n1, h1) ∧ Sp yM uM (.ref 10 :: as) n1 h1 (some (.int r), n1, h2) ∧ Rl n1 h2 := ⟨r, n1, lW cnt' S' eX' eM, lW cnt' S' eX' eM', f5, f6, lW_1 h5, lW_8 l1 l2 h6, hX, lW_M l1 l2 l3 hM, hR⟩
theorem bL {Rl : Nat → q_Hp → Prop} {yX yM : MethodName} {uX uM : q_M} {as : List Value} {n n1 cnt cnt' : Nat} {S S' : Nat → q_St} {eX eX' eM eM' : List q_E} {r : Int64} {f5 f6 : List Value} (h5 : eX[0]? = some (.inr (6, f5))) (h6 : eM[0]? = some (.inr (7, f6))) (l1 : eX'.length = 9) (l2 : eM.length = 28) (l3 : eM'.length = 28) (hX : Sp yX uX (.ref 1 :: as) n (q_blk (stg (q_blk (fun _ => none) 10 eM) 38 cnt S) 1 eX) (some (.long r), n1, q_blk (stg (q_blk (fun _ => none) 10 eM) 38 cnt' S') 1 eX')) (hM : Sp yM uM (.ref 10 :: as) n1 (q_blk (q_blk (stg (fun _ => none) 38 cnt' S') 1 eX') 10 eM) (some (.long r), n1, q_blk (q_blk (stg (fun _ => none) 38 cnt' S') 1 eX') 10 eM')) (hR : Rl n1 (lW cnt' S' eX' eM')) : ∃ (r : Int64) (n1 : Nat) (h1 h2 : q_Hp) (f5 f6 : List Value), lW cnt S eX eM 1 = some (.inr (6, f5)) ∧ h1 10 = some (.inr (7, f6)) ∧ Sp yX uX (.ref 1 :: as) n (lW cnt S eX eM) (some (.long r), n1, h1) ∧ Sp yM uM (.ref 10 :: as) n1 h1 (some (.long r), n1, h2) ∧ Rl n1 h2 := ⟨r, n1, lW cnt' S' eX' eM, lW cnt' S' eX' eM', f5, f6, lW_1 h5, lW_8 l1 l2 h6, hX, lW_M l1 l2 l3 hM, hR⟩
theorem RS_tc {i : Nat} {X : q_St} {be by_ tc ta wa wr pl bi wo sh fa : Nat → Int32} {D : q_Dy} (h : RA i X be by_ tc ta wa wr pl bi wo sh fa D) : S_tc X = tc i ∧ ∃ c : Nat, c ≤ 32 ∧ tc i = nI c := h.1.2.2.1
theorem RS_ok {i : Nat} {X : q_St} {be by_ tc ta wa wr pl bi wo sh fa : Nat → Int32} {D : q_Dy} (h : RA i X be by_ tc ta wa wr pl bi wo sh fa D) : S_ok X := by
  obtain ⟨e, c, hc, e2⟩ := RS_tc h
  exact ⟨c, hc, e.trans e2⟩
theorem RS_pl {i : Nat} {X : q_St} {be by_ tc ta wa wr pl bi wo sh fa : Nat → Int32} {D : q_Dy} (h : RA i X be by_ tc ta wa wr pl bi wo sh fa D) : S_pst X = pl i := h.1.2.2.2.2.2.2.1.1
theorem ix2 {cnt : Nat} (a : Int32) (h8 : cnt ≤ 8) : (a < 0 ∨ nI cnt ≤ a) ∨ ∃ i : Nat, i < cnt ∧ a = nI i := by
  rcases pk_ix a (n := cnt) (by omega) with g | g | g
  · exact Or.inl (Or.inl g)
  · exact Or.inl (Or.inr g)
  · exact Or.inr g
theorem SpI {y : MethodName} {u : q_M} {as : List Value} {n n' : Nat} {f f' : q_Hp} {r r' : Int32} (e : r = r') (h : Sp y u as n f (some (.int r), n', f')) : Sp y u as n f (some (.int r'), n', f') := e ▸ h
theorem SpL {y : MethodName} {u : q_M} {as : List Value} {n n' : Nat} {f f' : q_Hp} {r r' : Int64} (e : r = r') (h : Sp y u as n f (some (.long r), n', f')) : Sp y u as n f (some (.long r'), n', f') := e ▸ h
theorem one_ne : ∀ h : Nat, h < 25 → ¬ m_one (nI h) = 0 ∧ ¬ 2 * m_one (nI h) = 0 := by decide +kernel
theorem RS_D {i : Nat} {X : q_St} {be by_ tc ta wa wr pl bi wo sh fa : Nat → Int32} {D : q_Dy} (h : RA i X be by_ tc ta wa wr pl bi wo sh fa D) : D_ok tc sh i := by
  obtain ⟨⟨_, _, ⟨_, c, hc, e2⟩, _, _, _, _, _, ⟨_, g, hg, e4⟩, _⟩, _⟩ := h
  refine ⟨⟨c, hc, e2⟩, ?_⟩
  rw [e4]
  exact one_ne g hg
theorem RS_st {cnt : Nat} {S : Nat → q_St} {be by_ tc ta wa wr pl bi wo sh fa : Nat → Int32} {D : q_Dy} (h : RW cnt S be by_ tc ta wa wr pl bi wo sh fa D) : (∀ j : Nat, j < cnt → S_ok (S j) ∧ ∃ e : Nat, e ≤ 4 ∧ s_fill (S_by (S j)) = nI e) ∧ ∀ j : Nat, j < cnt → D_ok tc sh j ∧ ∃ e : Nat, e ≤ 4 ∧ s_fill (by_ j) = nI e := by
  refine ⟨fun j hj => ⟨RS_ok (h.1 j hj), ?_⟩, fun j hj => ⟨RS_D (h.1 j hj), ?_⟩⟩
  · obtain ⟨e, e1, e2, e3⟩ := fill_rng (h.1 j hj).1.2.1.2
    refine ⟨e, e2, ?_⟩
    rw [(h.1 j hj).1.2.1.1]
    exact e3
  · obtain ⟨e, e1, e2, e3⟩ := fill_rng (h.1 j hj).1.2.1.2
    exact ⟨e, e2, e3⟩
theorem RC_ch {cnt cl : Nat} {by_ pl ch ch' : Nat → Int32} (h : RC cnt cl by_ pl ch ch') : (∀ t : Nat, t < cl → (ch t).toNatClampNeg < cnt ∧ ch t = nI (ch t).toNatClampNeg) ∧ (∀ t : Nat, t < cl → (ch' t).toNatClampNeg < cnt ∧ ch' t = nI (ch' t).toNatClampNeg) ∧ ∀ t : Nat, t < cl → ∃ j : Nat, j < cnt ∧ ch t = nI j := by
  refine ⟨fun t ht => ?_, fun t ht => ?_, fun t ht => ?_⟩
  · obtain ⟨c1, c2, c3, _⟩ := h.1 t ht
    rw [c1]
    exact ⟨c2, c3⟩
  · obtain ⟨c1, c2, c3, _⟩ := h.1 t ht
    exact ⟨c2, c3⟩
  · obtain ⟨c1, c2, c3, _⟩ := h.1 t ht
    rw [c1]
    exact ⟨_, c2, c3⟩
theorem short_rng {x : Int32} (h : x_in x (-32768) 32767 = true) : -32768 ≤ x.toInt ∧ x.toInt ≤ 32767 := by
  rw [x_in_iff, show (-32768 : Int32).toInt = -32768 by decide, show (32767 : Int32).toInt = 32767 by decide] at h
  exact h
/-! the calls that ask alone -/
set_option maxHeartbeats 1000000 in
theorem b_told (a b : Int32) : BothL Rel yX6_told uX6_told yX7_told uX7_told [.int a, .int b] := by
  intro n h hR
  obtain ⟨cnt, cl, tn, lost, S, ch, sam, r1, r2, be, by_, tc, ta, wa, wr, pl, bi, wo, sh, fa, ch', tp, ir, ow, ⟨ca, ph, cm, km, gr, kp, su, ro, ou, ex, sz, ww⟩, rfl, rfl, h8, hcl, hW, hC, hT⟩ := id hR
  rcases ix2 a h8 with hk | ⟨i, hi, rfl⟩
  · exact bL rfl rfl rfl rfl rfl (c_told_bad (by omega) h8 hcl hk) (m_told_bad h8 hk) hR
  have hA := hW.1 i hi
  obtain ⟨etc, c, hc, htc⟩ := RS_tc hA
  have hcc : (nI c).toNatClampNeg = c := nI_clamp (by omega)
  have e := told_rel (wa := wa) (wr := wr) (bi := bi) (wo := wo) (v := b) hA.2.1 hA.2.2
  rw [htc, hcc] at e
  exact bL rfl rfl rfl rfl rfl (c_told_ok (by omega) h8 hcl hi) (SpL e.symm (m_told_ok h8 hi hc htc)) hR
set_option maxHeartbeats 1000000 in
theorem b_near (a : Int32) : BothI Rel yX6_near uX6_near yX7_near uX7_near [.int a] := by
  intro n h hR
  obtain ⟨cnt, cl, tn, lost, S, ch, sam, r1, r2, be, by_, tc, ta, wa, wr, pl, bi, wo, sh, fa, ch', tp, ir, ow, ⟨ca, ph, cm, km, gr, kp, su, ro, ou, ex, sz, ww⟩, rfl, rfl, h8, hcl, hW, hC, hT⟩ := id hR
  rcases ix2 a h8 with hk | ⟨i, hi, rfl⟩
  · exact bI rfl rfl rfl rfl rfl (c_near_bad (by omega) h8 hcl hk) (m_near_bad h8 hk) hR
  have hA := hW.1 i hi
  obtain ⟨etc, c, hc, htc⟩ := RS_tc hA
  have hcc : (nI c).toNatClampNeg = c := nI_clamp (by omega)
  have e := near_rel hA.1 hA.2.1 hA.2.2
  exact bI rfl rfl rfl rfl rfl (c_near_ok (by omega) h8 hcl hi) (SpI e.symm (m_near_ok h8 hi (RS_D hA).2.2)) hR
set_option maxHeartbeats 1000000 in
theorem b_counted (a b : Int32) : BothL Rel yX6_counted uX6_counted yX7_counted uX7_counted [.int a, .int b] := by
  intro n h hR
  obtain ⟨cnt, cl, tn, lost, S, ch, sam, r1, r2, be, by_, tc, ta, wa, wr, pl, bi, wo, sh, fa, ch', tp, ir, ow, ⟨ca, ph, cm, km, gr, kp, su, ro, ou, ex, sz, ww⟩, rfl, rfl, h8, hcl, hW, hC, hT⟩ := id hR
  rcases ix2 a h8 with hk | ⟨i, hi, rfl⟩
  · exact bL rfl rfl rfl rfl rfl (c_cntd_bad (by omega) h8 hcl hk) (m_cntd_bad h8 hk) hR
  have hA := hW.1 i hi
  obtain ⟨etc, c, hc, htc⟩ := RS_tc hA
  have hcc : (nI c).toNatClampNeg = c := nI_clamp (by omega)
  have e := cntd_rel (v := b) hA.1 hA.2.1
  cases hx : x_in b 0 2 with
  | false =>
    rw [hx] at e
    exact bL rfl rfl rfl rfl rfl (c_cntd_ok (by omega) h8 hcl hi) (SpL e.symm (m_cntd_rng h8 hi hx)) hR
  | true =>
    rw [hx] at e
    exact bL rfl rfl rfl rfl rfl (c_cntd_ok (by omega) h8 hcl hi) (SpL e.symm (m_cntd_ok h8 hi hx)) hR
set_option maxHeartbeats 1000000 in
theorem b_count (a : Int32) : BothI Rel yX6_count uX6_count yX7_count uX7_count [.int a] := by
  intro n h hR
  obtain ⟨cnt, cl, tn, lost, S, ch, sam, r1, r2, be, by_, tc, ta, wa, wr, pl, bi, wo, sh, fa, ch', tp, ir, ow, ⟨ca, ph, cm, km, gr, kp, su, ro, ou, ex, sz, ww⟩, rfl, rfl, h8, hcl, hW, hC, hT⟩ := id hR
  exact bI rfl rfl rfl rfl rfl (c_count (by omega) h8 hcl) (m_count_c h8) hR
set_option maxHeartbeats 1000000 in
theorem b_digest : BothL Rel yX6_digest uX6_digest yX7_digest uX7_digest [] := by
  intro n h hR
  obtain ⟨cnt, cl, tn, lost, S, ch, sam, r1, r2, be, by_, tc, ta, wa, wr, pl, bi, wo, sh, fa, ch', tp, ir, ow, ⟨ca, ph, cm, km, gr, kp, su, ro, ou, ex, sz, ww⟩, rfl, rfl, h8, hcl, hW, hC, hT⟩ := id hR
  have e : t_mix sam (nI tn) (x_d S ch cl cnt) tn = m_e3 tp (m_dg cnt cl be by_ tc ta wa wr pl bi wo sh ch' fa ca cm km gr cnt) tn := by
    rw [digest_rel hcl hC hW cnt (Nat.le_refl _)]
    exact mix_eq hT.2.1 hT.2.2.2 tn (Nat.le_refl _)
  exact bL rfl rfl rfl rfl rfl (c_digest (by omega) h8 hcl (fun t ht => RS_ok (hW.1 t ht)) rfl hT.2.1) (SpL e.symm (m_digest h8 hcl hT.2.1 (fun t ht => (RS_tc (hW.1 t ht)).2))) hR
set_option maxHeartbeats 1000000 in
theorem b_norm (a : Int32) : BothL Rel yX6_norm uX6_norm yX7_norm uX7_norm [.int a] := by
  intro n h hR
  obtain ⟨cnt, cl, tn, lost, S, ch, sam, r1, r2, be, by_, tc, ta, wa, wr, pl, bi, wo, sh, fa, ch', tp, ir, ow, ⟨ca, ph, cm, km, gr, kp, su, ro, ou, ex, sz, ww⟩, rfl, rfl, h8, hcl, hW, hC, hT⟩ := id hR
  rcases ix2 a h8 with hk | ⟨i, hi, rfl⟩
  · exact bL rfl rfl rfl rfl rfl (c_norm_bad (by omega) h8 hcl hk) (m_norm_bad h8 hk) hR
  have hA := hW.1 i hi
  obtain ⟨etc, c, hc, htc⟩ := RS_tc hA
  have hcc : (nI c).toNatClampNeg = c := nI_clamp (by omega)
  have e : (if S_pst (S i) = 0 then -2 else S_psz (S i)) = if pl i = 0 then -2 else m_nrm fa i c := by
    rw [RS_pl hA]
    by_cases hp : pl i = 0
    · rw [if_pos hp, if_pos hp]
    · rw [if_neg hp, if_neg hp, (hA.2.2.2.1 hp).1, htc, hcc]
  exact bL rfl rfl rfl rfl rfl (c_norm_ok (by omega) h8 hcl hi) (SpL e.symm (m_norm_ok h8 hi hc htc)) hR
set_option maxHeartbeats 1000000 in
theorem b_coef (a b : Int32) : BothI Rel yX6_coefficient uX6_coefficient yX7_coefficient uX7_coefficient [.int a, .int b] := by
  intro n h hR
  obtain ⟨cnt, cl, tn, lost, S, ch, sam, r1, r2, be, by_, tc, ta, wa, wr, pl, bi, wo, sh, fa, ch', tp, ir, ow, ⟨ca, ph, cm, km, gr, kp, su, ro, ou, ex, sz, ww⟩, rfl, rfl, h8, hcl, hW, hC, hT⟩ := id hR
  rcases ix2 a h8 with hk | ⟨i, hi, rfl⟩
  · exact bI rfl rfl rfl rfl rfl (c_coef_bad (by omega) h8 hcl hk) (m_coef_bad h8 hk) hR
  have hA := hW.1 i hi
  obtain ⟨etc, c, hc, htc⟩ := RS_tc hA
  have hcc : (nI c).toNatClampNeg = c := nI_clamp (by omega)
  by_cases hp : pl i = 0
  · have e : x_coef (S i) b = 2000000000 := by
      unfold x_coef
      rw [RS_pl hA, if_pos hp]
    exact bI rfl rfl rfl rfl rfl (c_coef_ok (by omega) h8 hcl hi) (SpI e.symm (m_coef_np h8 hi hp)) hR
  · rcases pk_ix b (n := c) (by omega) with g | g | ⟨kk, hk, rfl⟩
    · have e : x_coef (S i) b = 2000000000 := by
        unfold x_coef
        rw [RS_pl hA, if_neg hp, etc, htc, ok_f (Or.inl g)]
        rfl
      exact bI rfl rfl rfl rfl rfl (c_coef_ok (by omega) h8 hcl hi) (SpI e.symm (m_coef_no h8 hi hp (by rw [htc]; exact x_in_noc (by omega) (Or.inl g)))) hR
    · have e : x_coef (S i) b = 2000000000 := by
        unfold x_coef
        rw [RS_pl hA, if_neg hp, etc, htc, ok_f (Or.inr g)]
        rfl
      exact bI rfl rfl rfl rfl rfl (c_coef_ok (by omega) h8 hcl hi) (SpI e.symm (m_coef_no h8 hi hp (by rw [htc]; exact x_in_noc (by omega) (Or.inr g)))) hR
    · have e : x_coef (S i) (nI kk) = fa (32 * i + kk) := by
        unfold x_coef
        rw [RS_pl hA, if_neg hp, etc, htc, ok_t hk hc, k_in_t (by omega), cond_true, cond_true, nI_clamp (by omega)]
        exact hA.1.2.2.2.2.2.2.2.2.2 kk (by omega)
      exact bI rfl rfl rfl rfl rfl (c_coef_ok (by omega) h8 hcl hi) (SpI e.symm (m_coef_ok h8 hi (by omega) hp (by rw [htc]; exact x_in_okc hk (by omega)))) hR
set_option maxHeartbeats 1000000 in
theorem b_about (a b : Int32) : BothI Rel yX6_about uX6_about yX7_about uX7_about [.int a, .int b] := by
  intro n h hR
  obtain ⟨cnt, cl, tn, lost, S, ch, sam, r1, r2, be, by_, tc, ta, wa, wr, pl, bi, wo, sh, fa, ch', tp, ir, ow, ⟨ca, ph, cm, km, gr, kp, su, ro, ou, ex, sz, ww⟩, rfl, rfl, h8, hcl, hW, hC, hT⟩ := id hR
  rcases ix2 a h8 with hk | ⟨i, hi, rfl⟩
  · exact bI rfl rfl rfl rfl rfl (c_about_bad (by omega) h8 hcl hk) (m_about_bad h8 hk) hR
  have hA := hW.1 i hi
  obtain ⟨etc, c, hc, htc⟩ := RS_tc hA
  have hcc : (nI c).toNatClampNeg = c := nI_clamp (by omega)
  cases hx : x_in b 0 9 with
  | false => exact bI rfl rfl rfl rfl rfl (c_about_ok (by omega) h8 hcl hi (RS_ok hA)) (SpI (about_no hx).symm (m_about_rng h8 hi hx)) hR
  | true =>
    have e : x_about (S i) (x_plc ch cl i) b = m_about cnt cl be by_ tc ta wa wr pl bi wo sh ch' i c b := by
      rw [plc_eq hcl hC]
      exact about_rel hc htc hx hA.1
    exact bI rfl rfl rfl rfl rfl (c_about_ok (by omega) h8 hcl hi (RS_ok hA)) (SpI e.symm (m_about_ok h8 hi hc htc hcl hx)) hR
set_option maxHeartbeats 1000000 in
theorem b_out (a : Int32) : BothI Rel yX6_out uX6_out yX7_out uX7_out [.int a] := by
  intro n h hR
  obtain ⟨cnt, cl, tn, lost, S, ch, sam, r1, r2, be, by_, tc, ta, wa, wr, pl, bi, wo, sh, fa, ch', tp, ir, ow, ⟨ca, ph, cm, km, gr, kp, su, ro, ou, ex, sz, ww⟩, rfl, rfl, h8, hcl, hW, hC, hT⟩ := id hR
  have htn : tn ≤ 600 := hT.2.1
  rcases pk_ix a (n := tn) (by omega) with g | g | ⟨t, ht, rfl⟩
  · have e : (bif t_has (nI tn) a then t_at sam (nI tn) a else 2000000000) = 2000000000 := by
      have : t_has (nI tn) a = false := by
        unfold t_has
        simp [g]
      rw [this]
      rfl
    exact bI rfl rfl rfl rfl rfl (c_out (by omega) h8 hcl) (SpI e.symm (m_out_no h8 (x_in_noc (by omega) (Or.inl g)))) hR
  · have e : (bif t_has (nI tn) a then t_at sam (nI tn) a else 2000000000) = 2000000000 := by
      have : t_has (nI tn) a = false := by
        unfold t_has
        simp [g]
      rw [this]
      rfl
    exact bI rfl rfl rfl rfl rfl (c_out (by omega) h8 hcl) (SpI e.symm (m_out_no h8 (x_in_noc (by omega) (Or.inr g)))) hR
  · have e : (bif t_has (nI tn) (nI t) then t_at sam (nI tn) (nI t) else 2000000000) = tp t := by
      have : t_has (nI tn) (nI t) = true := by
        have h1 : ¬ nI t < 0 := nI_pos (by omega)
        have h2 : ¬ nI tn ≤ nI t := nI_ge ht (by omega)
        have h3 : ¬ (600 : Int32) ≤ nI t := nI_ge (b := 600) (by omega) (by decide)
        unfold t_has
        simp [h1, h2, h3]
      rw [this, cond_true, t_at_in ht htn]
      exact hT.2.2.2 t ht
    exact bI rfl rfl rfl rfl rfl (c_out (by omega) h8 hcl) (SpI e.symm (m_out_ok h8 htn ht (x_in_okc ht (by omega)))) hR
