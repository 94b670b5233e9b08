/-! the calls that change -/
set_option maxHeartbeats 1000000 in
theorem b_part : BothI Rel yX6_part uX6_part yX7_part uX7_part [] := by
  intro n h hR
  obtain ⟨cnt, cl, tn, lost, S, ch, sam, r1, r2, be, by_, tc, ta, wa, wr, pl, bi, wo, sh, fa, ch', tp, ir, ow, ⟨ca, ph, cm, km, gr, kp, su, ro, ou, ex, sz, ww⟩, rfl, rfl, h8, hcl, hW, hC, hT⟩ := id hR
  exact bI rfl rfl rfl rfl rfl (c_part (by omega) h8 hcl) (m_part h8) ⟨cnt, 0, tn, lost, S, ch, sam, r1, r2, be, by_, tc, ta, wa, wr, pl, bi, wo, sh, fa, ch', tp, ir, ow, (ca, ph, cm, km, gr, kp, su, ro, ou, ex, sz, ww), rfl, rfl, h8, Nat.zero_le _, hW, ⟨fun t ht => absurd ht (Nat.not_lt_zero t), fun s t _ ht => absurd ht (Nat.not_lt_zero t), show 1 ≤ 16 by decide⟩, hT⟩
set_option maxHeartbeats 1000000 in
theorem b_empty : BothI Rel yX6_empty uX6_empty yX7_empty uX7_empty [] := by
  intro n h hR
  obtain ⟨cnt, cl, tn, lost, S, ch, sam, r1, r2, be, by_, tc, ta, wa, wr, pl, bi, wo, sh, fa, ch', tp, ir, ow, ⟨ca, ph, cm, km, gr, kp, su, ro, ou, ex, sz, ww⟩, rfl, rfl, h8, hcl, hW, hC, hT⟩ := id hR
  exact bI rfl rfl rfl rfl rfl (c_empty (by omega) h8 hcl) (m_empty h8) ⟨cnt, cl, 0, lost, S, ch, sam, r1, r2, be, by_, tc, ta, wa, wr, pl, bi, wo, sh, fa, ch', tp, ir, ow, (ca, ph, cm, km, gr, kp, su, ro, ou, ex, sz, ww), rfl, rfl, h8, hcl, hW, hC, rfl, Nat.zero_le _, rfl, fun q hq => absurd hq (Nat.not_lt_zero q)⟩
set_option maxHeartbeats 1000000 in
theorem b_reset : BothI Rel yX6_reset uX6_reset yX7_reset uX7_reset [] := by
  intro n h hR
  obtain ⟨cnt, cl, tn, lost, S, ch, sam, r1, r2, be, by_, tc, ta, wa, wr, pl, bi, wo, sh, fa, ch', tp, ir, ow, ⟨ca, ph, cm, km, gr, kp, su, ro, ou, ex, sz, ww⟩, rfl, rfl, h8, hcl, hW, hC, hT⟩ := id hR
  exact bI rfl rfl rfl rfl rfl (c_reset (by omega) h8 hcl) (m_reset h8) ⟨cnt, cl, tn, lost, x_rs S cnt, ch, sam, r1, r2, be, by_, tc, ta, wa, wr, pl, bi, wo, sh, fa, ch', tp, ir, ow, D_rs (ca, ph, cm, km, gr, kp, su, ro, ou, ex, sz, ww) cnt, rfl, rfl, h8, hcl, rs_rel hW cnt (Nat.le_refl _), hC, hT⟩
set_option maxHeartbeats 1000000 in
theorem b_way (a b d : Int32) (hd : d = 0 ∨ d = 1) : BothI Rel yX6_way uX6_way yX7_way uX7_way [.int a, .int b, .int d] := by
  intro n h hR
  obtain ⟨cnt, cl, tn, lost, S, ch, sam, r1, r2, be, by_, tc, ta, wa, wr, pl, bi, wo, sh, fa, ch', tp, ir, ow, ⟨ca, ph, cm, km, gr, kp, su, ro, ou, ex, sz, ww⟩, rfl, rfl, h8, hcl, hW, hC, hT⟩ := id hR
  rcases ix2 a h8 with hk | ⟨i, hi, rfl⟩
  · exact bI rfl rfl rfl rfl rfl (c_way_bad (by omega) h8 hcl hk) (m_way_bad h8 hk) hR
  have hA := hW.1 i hi
  obtain ⟨etc, c, hc, htc⟩ := RS_tc hA
  have hcc : (nI c).toNatClampNeg = c := nI_clamp (by omega)
  cases hx : x_in b 0 3 with
  | false => exact bI rfl rfl rfl rfl rfl (c_way_rng (by omega) h8 hcl hi hx) (m_way_rng h8 hi hx) hR
  | true =>
    have e : S_way (S i) = wa i := hA.1.2.2.2.2.1.1
    refine bI rfl rfl rfl rfl rfl (c_way_ok (by omega) h8 hcl hi hx hd) (SpI e.symm (m_way_ok h8 hi hx hd)) ⟨cnt, cl, tn, lost, _, ch, sam, r1, r2, be, by_, tc, ta, upd wa i b, upd wr i d, pl, bi, wo, sh, fa, ch', tp, ir, ow, (ca, ph, cm, km, gr, kp, su, ro, ou, ex, sz, ww), rfl, rfl, h8, hcl, RW_up hi hW (way_rel hx hd hA) (fun j hj => ⟨⟨rfl, rfl, rfl, pk_un hj, pk_un hj, rfl, rfl, rfl, rfl⟩, fun _ _ => ⟨rfl, rfl⟩⟩) (fun j _ => Fq_refl j _), hC, hT⟩
set_option maxHeartbeats 1000000 in
theorem b_tap (a b : Int32) : BothI Rel yX6_tap uX6_tap yX7_tap uX7_tap [.int a, .int b] := by
  intro n h hR
  obtain ⟨cnt, cl, tn, lost, S, ch, sam, r1, r2, be, by_, tc, ta, wa, wr, pl, bi, wo, sh, fa, ch', tp, ir, ow, ⟨ca, ph, cm, km, gr, kp, su, ro, ou, ex, sz, ww⟩, rfl, rfl, h8, hcl, hW, hC, hT⟩ := id hR
  rcases ix2 a h8 with hk | ⟨i, hi, rfl⟩
  · exact bI rfl rfl rfl rfl rfl (c_tap_bad (by omega) h8 hcl hk) (m_tap_bad h8 hk) hR
  have hA := hW.1 i hi
  obtain ⟨etc, c, hc, htc⟩ := RS_tc hA
  have hcc : (nI c).toNatClampNeg = c := nI_clamp (by omega)
  cases hx : x_in b (-1000000) 1000000 with
  | false => exact bI rfl rfl rfl rfl rfl (c_tap_rng (by omega) h8 hcl hi hx) (m_tap_rng h8 hi hx) hR
  | true =>
    rcases Nat.lt_or_ge c 32 with hlt | hge
    · have er : s_roomy (S_tc (S i)) = true := by rw [etc, htc]; exact roomy_t hlt
      obtain ⟨tA, tE⟩ := tap_rel hlt htc hx hA
      obtain ⟨u1, u2, u3⟩ := RC_un hcl h8 hi hC (fN_pos hC hW)
      refine bI rfl rfl rfl rfl rfl (c_tap_ok (by omega) h8 hcl hi hx er) (SpI tE.symm (m_tap_ok h8 hi hcl hx htc hlt)) ⟨cnt, (m_un ch' cl (nI i)).2, tn, lost, _, (x_un ch cl (nI i)).1, sam, r1, r2, be, by_, upd tc i (tc i + 1), upd ta (32 * i + c) b, wa, wr, upd pl i 0, bi, wo, sh, fa, (m_un ch' cl (nI i)).1, tp, ir, ow, (ca, ph, cm, km, gr, kp, su, ro, ou, ex, sz, ww), rfl, ?_, h8, u2, RW_up hi hW tA (fun j hj => ⟨⟨rfl, rfl, pk_un hj, rfl, rfl, pk_un hj, rfl, rfl, rfl⟩, fun k hk => ⟨pk_un (by omega), rfl⟩⟩) (fun j _ => Fq_refl j _), u3, hT⟩
      rw [u1]
      rfl
    · have ec : c = 32 := by omega
      subst ec
      have er : s_roomy (S_tc (S i)) = false := by rw [etc, htc]; decide
      refine bI rfl rfl rfl rfl rfl (c_tap_full (by omega) h8 hcl hi hx er) (m_tap_full h8 hi hx htc) ⟨cnt, cl, tn, lost, _, ch, sam, r1, r2, be, by_, tc, ta, wa, wr, pl, bi, wo, sh, fa, ch', tp, ir, ow, (ca, ph, cm, km, gr, kp, su, ro, ou, ex, sz, ww), rfl, rfl, h8, hcl, RW_up hi hW (by rw [addTap_full er]; exact hA) (fun j _ => Sq_refl j be by_ tc ta wa wr pl bi wo sh fa) (fun j _ => Fq_refl j _), hC, hT⟩
set_option maxHeartbeats 1000000 in
theorem b_change (a b d : Int32) : BothI Rel yX6_change uX6_change yX7_change uX7_change [.int a, .int b, .int d] := by
  intro n h hR
  obtain ⟨cnt, cl, tn, lost, S, ch, sam, r1, r2, be, by_, tc, ta, wa, wr, pl, bi, wo, sh, fa, ch', tp, ir, ow, ⟨ca, ph, cm, km, gr, kp, su, ro, ou, ex, sz, ww⟩, rfl, rfl, h8, hcl, hW, hC, hT⟩ := id hR
  rcases ix2 a h8 with hk | ⟨i, hi, rfl⟩
  · exact bI rfl rfl rfl rfl rfl (c_change_bad (by omega) h8 hcl hk) (m_change_bad h8 hk) hR
  have hA := hW.1 i hi
  obtain ⟨etc, c, hc, htc⟩ := RS_tc hA
  have hcc : (nI c).toNatClampNeg = c := nI_clamp (by omega)
  have hno : (b < 0 ∨ nI c ≤ b) ∨ ∃ kk : Nat, kk < c ∧ b = nI kk := by
    rcases pk_ix b (n := c) (by omega) with g | g | g
    · exact Or.inl (Or.inl g)
    · exact Or.inl (Or.inr g)
    · exact Or.inr g
  rcases hno with g | ⟨kk, hk, rfl⟩
  · exact bI rfl rfl rfl rfl rfl (c_change_no (by omega) h8 hcl hi (by rw [etc, htc]; exact ok_f g)) (m_change_no h8 hi (by rw [htc]; exact x_in_noc (by omega) g)) hR
  have e1 : s_ok (S_tc (S i)) (nI kk) = true := by rw [etc, htc]; exact ok_t hk hc
  have e2 : x_in (nI kk) 0 (tc i - 1) = true := by rw [htc]; exact x_in_okc hk (by omega)
  cases hx : x_in d (-1000000) 1000000 with
  | false => exact bI rfl rfl rfl rfl rfl (c_change_rng (by omega) h8 hcl hi e1 hx) (m_change_rng h8 hi e2 hx) hR
  | true =>
    obtain ⟨tA, tE⟩ := change_rel hc hk htc hx hA
    obtain ⟨u1, u2, u3⟩ := RC_un hcl h8 hi hC (fN_pos hC hW)
    refine bI rfl rfl rfl rfl rfl (c_change_ok (by omega) h8 hcl hi e1 hx) (SpI tE.symm (m_change_ok h8 hi hcl (by omega) e2 hx)) ⟨cnt, (m_un ch' cl (nI i)).2, tn, lost, _, (x_un ch cl (nI i)).1, sam, r1, r2, be, by_, tc, upd ta (32 * i + kk) d, wa, wr, upd pl i 0, bi, wo, sh, fa, (m_un ch' cl (nI i)).1, tp, ir, ow, (ca, ph, cm, km, gr, kp, su, ro, ou, ex, sz, ww), rfl, ?_, h8, u2, RW_up hi hW tA (fun j hj => ⟨⟨rfl, rfl, rfl, rfl, rfl, pk_un hj, rfl, rfl, rfl⟩, fun k hk => ⟨pk_un (by omega), rfl⟩⟩) (fun j _ => Fq_refl j _), u3, hT⟩
    rw [u1]
    rfl
theorem RC_pl {cnt cl i : Nat} {by_ pl ch ch' : Nat → Int32} (h : RC cnt cl by_ pl ch ch') : RC cnt cl by_ (upd pl i 1) ch ch' := by
  refine ⟨fun t ht => ?_, h.2⟩
  obtain ⟨c1, c2, c3, c4⟩ := h.1 t ht
  refine ⟨c1, c2, c3, ?_⟩
  by_cases e : (ch' t).toNatClampNeg = i
  · rw [e, pk_us]
    decide
  · rw [pk_un e]
    exact c4
theorem RW_plan {cnt i c h : Nat} {bb ww0 : Int32} {S : Nat → q_St} {be by_ tc ta wa wr pl bi wo sh fa ca ph : Nat → Int32} {cm km gr : Nat → Int64} {kp : Nat → Int32} {su ro : Nat → Int64} {ou : Nat → Int32} {ex sz : Nat → Int64} {ww : Nat → Int32} (hi : i < cnt) (hc : c ≤ 32) (htc : tc i = nI c) (hh : h < 25) (hbb : x_isPlan bb ww0 = true) (hs : m_isSafe ta be i c bb ww0 (nI h) = true) (hW : RW cnt S be by_ tc ta wa wr pl bi wo sh fa (ca, ph, cm, km, gr, kp, su, ro, ou, ex, sz, ww)) : RW cnt (va_up S i (S_setPlan bb ww0 (nI h) (S i))) be by_ tc ta wa wr (upd pl i 1) (upd bi i bb) (upd wo i ww0) (upd sh i (nI h)) (m_pf ta be i (nI h) fa c) (m_clr ca i 32, upd ph i 0, vp_updL cm i 0, vp_updL km i 0, vp_updL gr i 0, upd kp i 0, su, ro, ou, ex, sz, ww) := by
  have hb4 : x_in bb 4 16 = true := by
    unfold x_isPlan at hbb
    rw [Bool.and_eq_true] at hbb
    exact hbb.1
  refine RW_up hi hW (plan_rel hc htc hh hb4 hs (hW.1 i hi)) (fun j hj => ⟨⟨rfl, rfl, rfl, rfl, rfl, pk_un hj, pk_un hj, pk_un hj, pk_un hj⟩, fun k hk => ⟨rfl, ?_⟩⟩) (fun j hj => ⟨fun k hk => ?_, pk_un hj, pk_uLn hj, pk_uLn hj, pk_uLn hj, pk_un hj, rfl, rfl, rfl, rfl, rfl, rfl⟩)
  · rw [mpf_at, if_neg (by omega)]
  · show m_clr ca i 32 (32 * j + k) = ca (32 * j + k)
    rw [m_clr_at, if_neg (by omega)]
set_option maxHeartbeats 2000000 in
theorem b_plan (a b d : Int32) : BothI Rel yX6_plan uX6_plan yX7_plan uX7_plan [.int a, .int b, .int d] := by
  intro n h hR
  obtain ⟨cnt, cl, tn, lost, S, ch, sam, r1, r2, be, by_, tc, ta, wa, wr, pl, bi, wo, sh, fa, ch', tp, ir, ow, ⟨ca, ph, cm, km, gr, kp, su, ro, ou, ex, sz, ww⟩, rfl, rfl, h8, hcl, hW, hC, hT⟩ := id hR
  rcases ix2 a h8 with hk | ⟨i, hi, rfl⟩
  · exact bI rfl rfl rfl rfl rfl (c_plan_bad (by omega) h8 hcl hk) (m_plan_bad h8 hk) hR
  have hA := hW.1 i hi
  obtain ⟨etc, c, hc, htc⟩ := RS_tc hA
  have hcc : (nI c).toNatClampNeg = c := nI_clamp (by omega)
  cases hx : x_isPlan b d with
  | false => exact bI rfl rfl rfl rfl rfl (c_plan_rng (by omega) h8 hcl hi hx) (m_plan_rng h8 hi hx) hR
  | true =>
    have cX := c_plan_ok (f := q_blk (fun _ => none) 10 (mD 10 cnt cl tn lost be by_ tc ta wa wr pl bi wo sh fa ch' tp ir ow (ca, ph, cm, km, gr, kp, su, ro, ou, ex, sz, ww))) (n := 38 + 7 * cnt) (o := 1) (b := 38) (cnt := cnt) (S := S) (ch := ch) (cl := cl) (sam := sam) (len := nI tn) (lost := lost) (r1 := r1) (r2 := r2) (bb := b) (ww := d) (by omega) h8 hcl hi (RS_ok hA) hx
    by_cases h0 : tc i = 0
    · rw [xsf_no h0 hA.1] at cX
      exact bI rfl rfl rfl rfl rfl cX (m_plan_none h8 hi hx h0) hR
    · have hc0 : 0 < c := by
        rcases Nat.eq_zero_or_pos c with e | e
        · subst e
          exact absurd htc h0
        · exact e
      have mX := m_plan_ok (f := q_blk (stg (fun _ => none) 38 cnt ((x_sf (S i) b d 25).elim S (fun j => va_up S i (S_setPlan b d (nI j) (S i))))) 1 (xE 1 cnt (xrf 38 cnt) ch cl sam (nI tn) lost r1 r2)) (n := 38 + 7 * cnt) (o := 10) (cnt := cnt) (cl := cl) (tn := tn) (lost := lost) (be := be) (by_ := by_) (tc := tc) (ta := ta) (wa := wa) (wr := wr) (pl := pl) (bi := bi) (wo := wo) (sh := sh) (fa := fa) (ca := ca) (ph := ph) (cm := cm) (km := km) (gr := gr) (kp := kp) (su := su) (ro := ro) (ou := ou) (ex := ex) (sz := sz) (ww := ww) (ch := ch') (tp := tp) (ir := ir) (ow := ow) h8 hi hc htc hA.1.1.2.1 hx h0
      rw [xsf_eq hc hc0 htc hA.1] at cX mX
      cases hm : m_sf ta be i c b d 25 with
      | none =>
        rw [hm] at cX mX
        exact bI rfl rfl rfl rfl rfl cX mX hR
      | some g =>
        rw [hm] at cX mX
        obtain ⟨g1, g2⟩ := sf_some 25 g hm
        exact bI rfl rfl rfl rfl rfl cX mX ⟨cnt, cl, tn, lost, _, ch, sam, r1, r2, be, by_, tc, ta, wa, wr, upd pl i 1, upd bi i b, upd wo i d, upd sh i (nI g), m_pf ta be i (nI g) fa c, ch', tp, ir, ow, (m_clr ca i 32, upd ph i 0, vp_updL cm i 0, vp_updL km i 0, vp_updL gr i 0, upd kp i 0, su, ro, ou, ex, sz, ww), rfl, rfl, h8, hcl, RW_plan hi hc htc g1 hx g2 hW, RC_pl hC, hT⟩
set_option maxHeartbeats 2000000 in
theorem b_planAt (a b d s : Int32) : BothI Rel yX6_planAt uX6_planAt yX7_planAt uX7_planAt [.int a, .int b, .int d, .int s] := by
  intro n h hR
  obtain ⟨cnt, cl, tn, lost, S, ch, sam, r1, r2, be, by_, tc, ta, wa, wr, pl, bi, wo, sh, fa, ch', tp, ir, ow, ⟨ca, ph, cm, km, gr, kp, su, ro, ou, ex, sz, ww⟩, rfl, rfl, h8, hcl, hW, hC, hT⟩ := id hR
  rcases ix2 a h8 with hk | ⟨i, hi, rfl⟩
  · exact bI rfl rfl rfl rfl rfl (c_planAt_bad (by omega) h8 hcl hk) (m_planAt_bad h8 hk) hR
  have hA := hW.1 i hi
  obtain ⟨etc, c, hc, htc⟩ := RS_tc hA
  have hcc : (nI c).toNatClampNeg = c := nI_clamp (by omega)
  cases hx : x_isPlan b d with
  | false => exact bI rfl rfl rfl rfl rfl (c_planAt_rng (by omega) h8 hcl hi hx) (m_planAt_rng h8 hi hx) hR
  | true =>
    cases hr : x_in s 0 24 with
    | false => exact bI rfl rfl rfl rfl rfl (c_planAt_rng2 (by omega) h8 hcl hi hx hr) (m_planAt_rng2 h8 hi hx hr) hR
    | true =>
      by_cases h0 : tc i = 0
      · exact bI rfl rfl rfl rfl rfl (c_planAt_no (by omega) h8 hcl hi (RS_ok hA) hx hr (sf_no h0 hA.1 s)) (m_planAt_none h8 hi hx hr h0) hR
      · have hc0 : 0 < c := by
          rcases Nat.eq_zero_or_pos c with e | e
          · subst e
            exact absurd htc h0
          · exact e
        have es := sf_eq (bb := b) (ww0 := d) hc hc0 htc hA.1 s
        have hg : ∃ g : Nat, g < 25 ∧ s = nI g := by
          have hr := hr
          rw [x_in_iff, show (0 : Int32).toInt = 0 by decide, show (24 : Int32).toInt = 24 by decide] at hr
          refine ⟨s.toInt.toNat, by omega, i32_eq ?_⟩
          rw [nI_toInt (by omega)]
          omega
        obtain ⟨g, g1, rfl⟩ := hg
        cases hs : m_isSafe ta be i c b d (nI g) with
        | false =>
          rw [hs] at es
          exact bI rfl rfl rfl rfl rfl (c_planAt_no (by omega) h8 hcl hi (RS_ok hA) hx hr es) (m_planAt_no h8 hi hc htc hA.1.1.2.1 hx hr h0 hs) hR
        | true =>
          rw [hs] at es
          exact bI rfl rfl rfl rfl rfl (c_planAt_ok (by omega) h8 hcl hi (RS_ok hA) hx hr es) (m_planAt_ok h8 hi hc htc hA.1.1.2.1 hx hr h0 hs) ⟨cnt, cl, tn, lost, _, ch, sam, r1, r2, be, by_, tc, ta, wa, wr, upd pl i 1, upd bi i b, upd wo i d, upd sh i (nI g), m_pf ta be i (nI g) fa c, ch', tp, ir, ow, (m_clr ca i 32, upd ph i 0, vp_updL cm i 0, vp_updL km i 0, vp_updL gr i 0, upd kp i 0, su, ro, ou, ex, sz, ww), rfl, rfl, h8, hcl, RW_plan hi hc htc g1 hx hs hW, RC_pl hC, hT⟩
set_option maxHeartbeats 2000000 in
theorem b_join (a : Int32) : BothI Rel yX6_join uX6_join yX7_join uX7_join [.int a] := by
  intro n h hR
  obtain ⟨cnt, cl, tn, lost, S, ch, sam, r1, r2, be, by_, tc, ta, wa, wr, pl, bi, wo, sh, fa, ch', tp, ir, ow, ⟨ca, ph, cm, km, gr, kp, su, ro, ou, ex, sz, ww⟩, rfl, rfl, h8, hcl, hW, hC, hT⟩ := id hR
  rcases ix2 a h8 with hk | ⟨i, hi, rfl⟩
  · exact bI rfl rfl rfl rfl rfl (c_join_bad (by omega) h8 hcl hk) (m_join_bad h8 hk) hR
  have hA := hW.1 i hi
  obtain ⟨etc, c, hc, htc⟩ := RS_tc hA
  have hcc : (nI c).toNatClampNeg = c := nI_clamp (by omega)
  obtain ⟨j1, j2⟩ := jn_eq hcl h8 hi hC hW
  obtain ⟨c1, c2, c3⟩ := RC_ch hC
  have cX := c_join_ok (f := q_blk (fun _ => none) 10 (mD 10 cnt cl tn lost be by_ tc ta wa wr pl bi wo sh fa ch' tp ir ow (ca, ph, cm, km, gr, kp, su, ro, ou, ex, sz, ww))) (n := 38 + 7 * cnt) (o := 1) (b := 38) (cnt := cnt) (S := S) (ch := ch) (cl := cl) (sam := sam) (len := nI tn) (lost := lost) (r1 := r1) (r2 := r2) (by omega) h8 hcl hi c3
  rw [j1] at cX
  have h7 : m_jn by_ pl ch' cl i = true → cl < 8 := fun e => (j2 e).1
  have mX := fun f => m_join_ok (f := f) (n := 38 + 7 * cnt) (o := 10) (cnt := cnt) (cl := cl) (tn := tn) (lost := lost) (be := be) (by_ := by_) (tc := tc) (ta := ta) (wa := wa) (wr := wr) (pl := pl) (bi := bi) (wo := wo) (sh := sh) (fa := fa) (ca := ca) (ph := ph) (cm := cm) (km := km) (gr := gr) (kp := kp) (su := su) (ro := ro) (ou := ou) (ex := ex) (sz := sz) (ww := ww) (ch := ch') (tp := tp) (ir := ir) (ow := ow) h8 hi hcl h7 c2
  cases hj : m_jn by_ pl ch' cl i with
  | false =>
    rw [hj] at cX mX
    exact bI rfl rfl rfl rfl rfl cX (mX _) hR
  | true =>
    rw [hj] at cX mX
    obtain ⟨k1, k2⟩ := j2 hj
    exact bI rfl rfl rfl rfl rfl cX (mX _) ⟨cnt, cl + 1, tn, lost, S, upd ch (nI cl).toNatClampNeg (nI i), sam, r1, r2, be, by_, tc, ta, wa, wr, pl, bi, wo, sh, fa, upd ch' cl (nI i), tp, ir, ow, (ca, ph, cm, km, gr, kp, su, ro, ou, ex, sz, ww), rfl, rfl, h8, k1, hW, k2, hT⟩
set_option maxHeartbeats 2000000 in
theorem b_through (a b : Int32) : BothI Rel yX6_through uX6_through yX7_through uX7_through [.int a, .int b] := by
  intro n h hR
  obtain ⟨cnt, cl, tn, lost, S, ch, sam, r1, r2, be, by_, tc, ta, wa, wr, pl, bi, wo, sh, fa, ch', tp, ir, ow, ⟨ca, ph, cm, km, gr, kp, su, ro, ou, ex, sz, ww⟩, rfl, rfl, h8, hcl, hW, hC, hT⟩ := id hR
  rcases ix2 a h8 with hk | ⟨i, hi, rfl⟩
  · exact bI rfl rfl rfl rfl rfl (c_through_bad (by omega) h8 hcl hk) (m_through_bad h8 hk) hR
  have hA := hW.1 i hi
  obtain ⟨etc, c, hc, htc⟩ := RS_tc hA
  have hcc : (nI c).toNatClampNeg = c := nI_clamp (by omega)
  cases hx : x_in b (-32768) 32767 with
  | false => exact bI rfl rfl rfl rfl rfl (c_through_rng (by omega) h8 hcl hi hx) (m_through_rng h8 hi hx) hR
  | true =>
    have ep := RS_pl hA
    have eb : S_by (S i) = by_ i := hA.1.2.1.1
    by_cases hp : pl i = 0
    · exact bI rfl rfl rfl rfl rfl (c_through_no (by omega) h8 hcl hi hx (Or.inl (ep.trans hp))) (m_through_np h8 hi hx hp) hR
    · by_cases hb : by_ i = 1
      · obtain ⟨x1, x2⟩ := short_rng hx
        obtain ⟨o1, o2, o3⟩ := take_rel x1 x2 hA.1 hA.2.1
        have o4 := take_relX x1 x2 hp hA.1 hA.2.1 hA.2.2
        exact bI rfl rfl rfl rfl rfl (c_through_ok (by omega) h8 hcl hi (RS_ok hA) hx (fun e => hp (ep.symm.trans e)) (eb.trans hb)) (SpI o1.symm (m_through_ok h8 hi hx (RS_D hA) hp hb)) ⟨cnt, cl, tn, lost, _, ch, sam, r1, r2, be, by_, tc, ta, wa, wr, pl, bi, wo, sh, fa, ch', tp, ir, ow, D_comes tc ta wa wr sh fa i b (ca, ph, cm, km, gr, kp, su, ro, ou, ex, sz, ww), rfl, rfl, h8, hcl, RW_up hi hW ⟨o2, o3, o4⟩ (fun j _ => Sq_refl j be by_ tc ta wa wr pl bi wo sh fa) (fun j hj => Fq_comes hj), hC, hT⟩
      · exact bI rfl rfl rfl rfl rfl (c_through_no (by omega) h8 hcl hi hx (Or.inr (fun e => hb (eb.symm.trans e)))) (m_through_nb h8 hi hx hp hb) hR
theorem Rel_U {cnt cl : Nat} {be by_ tc ta wa wr pl bi wo sh fa ch ch' : Nat → Int32} {u : q_U} {v : q_Ug} (h8 : cnt ≤ 8) (hcl : cl ≤ 8) (h : RU cnt be by_ tc ta wa wr pl bi wo sh fa u v) (hC : RC cnt cl by_ pl ch ch') : Rel (38 + 7 * cnt) (lW cnt u.1 (xE 1 cnt (xrf 38 cnt) ch cl u.2.1.1 u.2.1.2.1 u.2.1.2.2 u.2.2.1 u.2.2.2) (mD 10 cnt cl v.2.1.2.1 v.2.1.2.2 be by_ tc ta wa wr pl bi wo sh fa ch' v.2.1.1 v.2.2.1 v.2.2.2 v.1)) := by
  obtain ⟨hW, t1, t2, t3, t4⟩ := h
  refine ⟨cnt, cl, v.2.1.2.1, v.2.1.2.2, u.1, ch, u.2.1.1, u.2.2.1, u.2.2.2, be, by_, tc, ta, wa, wr, pl, bi, wo, sh, fa, ch', v.2.1.1, v.2.2.1, v.2.2.2, v.1, rfl, ?_, h8, hcl, hW, hC, rfl, t2, rfl, t4⟩
  rw [t1, t3]
set_option maxHeartbeats 2000000 in
theorem b_put (a : Int32) : BothI Rel yX6_put uX6_put yX7_put uX7_put [.int a] := by
  intro n h hR
  obtain ⟨cnt, cl, tn, lost, S, ch, sam, r1, r2, be, by_, tc, ta, wa, wr, pl, bi, wo, sh, fa, ch', tp, ir, ow, ⟨ca, ph, cm, km, gr, kp, su, ro, ou, ex, sz, ww⟩, rfl, rfl, h8, hcl, hW, hC, hT⟩ := id hR
  cases hx : x_in a (-32768) 32767 with
  | false => exact bI rfl rfl rfl rfl rfl (c_put_rng (by omega) h8 hcl hx) (m_put_rng h8 hx) hR
  | true =>
    obtain ⟨x1, x2⟩ := short_rng hx
    obtain ⟨c1, c2, c3⟩ := RC_ch hC
    obtain ⟨s1, s2⟩ := RS_st hW
    obtain ⟨k1, k2, k3⟩ := send_rel (u := (S, (sam, nI tn, lost), r1, r2)) (v := ((ca, ph, cm, km, gr, kp, su, ro, ou, ex, sz, ww), (tp, tn, lost), ir, ow)) hC x1 x2 ⟨hW, hT⟩
    exact bI rfl rfl rfl rfl rfl (c_put_ok (by omega) h8 hcl hx c1 s1) (SpI (congrArg nI k2).symm (m_put_ok h8 hcl hT.2.1 c2 s2 k3 hx)) (Rel_U h8 hcl k1 hC)
set_option maxHeartbeats 2000000 in
theorem b_ramp (a b d : Int32) : BothI Rel yX6_ramp uX6_ramp yX7_ramp uX7_ramp [.int a, .int b, .int d] := by
  intro n h hR
  obtain ⟨cnt, cl, tn, lost, S, ch, sam, r1, r2, be, by_, tc, ta, wa, wr, pl, bi, wo, sh, fa, ch', tp, ir, ow, ⟨ca, ph, cm, km, gr, kp, su, ro, ou, ex, sz, ww⟩, rfl, rfl, h8, hcl, hW, hC, hT⟩ := id hR
  cases hx : x_in a (-32768) 32767 with
  | false => exact bI rfl rfl rfl rfl rfl (c_ramp_rng (by omega) h8 hcl hx) (m_ramp_rng h8 hx) hR
  | true =>
    cases hr : x_in d 1 64 with
    | false => exact bI rfl rfl rfl rfl rfl (c_ramp_rng2 (by omega) h8 hcl hx hr) (m_ramp_rng2 h8 hx hr) hR
    | true =>
      have hg : ∃ g : Nat, g ≤ 64 ∧ d = nI g := by
        have hr := hr
        rw [x_in_iff, show (1 : Int32).toInt = 1 by decide, show (64 : Int32).toInt = 64 by decide] at hr
        refine ⟨d.toInt.toNat, by omega, i32_eq ?_⟩
        rw [nI_toInt (by omega)]
        omega
      obtain ⟨g, g1, rfl⟩ := hg
      obtain ⟨x1, x2⟩ := short_rng hx
      obtain ⟨c1, c2, c3⟩ := RC_ch hC
      obtain ⟨s1, s2⟩ := RS_st hW
      have key := rm_rel (s := b) (u := (S, (sam, nI tn, lost), r1, r2)) (v := ((ca, ph, cm, km, gr, kp, su, ro, ou, ex, sz, ww), (tp, tn, lost), ir, ow)) hC x1 x2 ⟨hW, hT⟩
      have hV := fun (i : Nat) (_ : i < g) => (send_rel hC (key i).2.2.2.1 (key i).2.2.2.2 (key i).1).2.2
      exact bI rfl rfl rfl rfl rfl (c_ramp_ok (by omega) h8 hcl hx hr g1 c1 s1) (SpI (key g).2.1.symm (m_ramp_ok h8 hx hr hcl c2 s2 g1 (fun i => (key i).1.2.2.1) hV)) (Rel_U h8 hcl (key g).1 hC)
set_option maxHeartbeats 2000000 in
theorem b_stage (a b : Int32) : BothI Rel yX6_stage uX6_stage yX7_stage uX7_stage [.int a, .int b] := by
  intro n h hR
  obtain ⟨cnt, cl, tn, lost, S, ch, sam, r1, r2, be, by_, tc, ta, wa, wr, pl, bi, wo, sh, fa, ch', tp, ir, ow, ⟨ca, ph, cm, km, gr, kp, su, ro, ou, ex, sz, ww⟩, rfl, rfl, h8, hcl, hW, hC, hT⟩ := id hR
  cases hx : (x_in a 1 1000000 && x_isBy b) with
  | false => exact bI rfl rfl rfl rfl rfl (c_stage_bad (by omega) h8 hcl hx) (m_stage_bad h8 hx) hR
  | true =>
    rw [Bool.and_eq_true] at hx
    obtain ⟨x1, x2⟩ := hx
    by_cases e8 : cnt = 8
    · exact bI rfl rfl rfl rfl rfl (c_stage_full (by omega) h8 hcl x1 x2 e8) (m_stage_full h8 x1 x2 e8) hR
    · have h9 : cnt < 8 := by omega
      refine bI rfl rfl rfl rfl rfl (c_stage_ok (by omega) h8 hcl x1 x2 h9) (m_stage_ok h8 x1 x2 h9) ⟨cnt + 1, cl, tn, lost, _, ch, sam, r1, r2, upd be cnt a, upd by_ cnt b, tc, ta, wa, wr, pl, bi, wo, sh, fa, ch', tp, ir, ow, (ca, ph, cm, km, gr, kp, su, ro, ou, ex, sz, ww), by omega, rfl, h9, hcl, ⟨fun i hi => ?_, fun j hj b0 y0 hb hy => hW.2 j (by omega) b0 y0 hb hy⟩, ⟨fun t ht => ?_, hC.2.1, ?_⟩, hT⟩
      · by_cases e : i = cnt
        · subst e
          rw [vu_self]
          exact RA_fr ⟨⟨pk_us, pk_us, rfl, rfl, rfl, rfl, rfl, rfl, rfl⟩, fun _ _ => ⟨rfl, rfl⟩⟩ (Fq_refl _ _) (hW.2 i (Nat.le_refl _) a b x1 x2)
        · rw [show va_up S cnt (s_new a b) i = S i from if_neg e]
          exact RA_fr ⟨⟨pk_un e, pk_un e, rfl, rfl, rfl, rfl, rfl, rfl, rfl⟩, fun _ _ => ⟨rfl, rfl⟩⟩ (Fq_refl _ _) (hW.1 i (by omega))
      · obtain ⟨c1, c2, c3, c4⟩ := hC.1 t ht
        exact ⟨c1, by omega, c3, c4⟩
      · rw [pN_congr (by_ := by_) (ch := ch') cl (fun q hq => by unfold fN; rw [pk_un (by have := (hC.1 q hq).2.1; omega)])]
        exact hC.2.2
