/-! what the calls do to a stage, on both sides -/
theorem clr_rel {wds ca : Nat → Int32} {i : Nat} : ∀ k : Nat, k < 32 → r_clr wds 32 ((0 + k) % 32) = m_clr ca i 32 (32 * i + k) := by
  intro k hk
  rw [r_clr_at 32 wds _ (Nat.le_refl _), if_pos (by omega), m_clr_at, if_pos (by omega)]
theorem clr_rng {ca : Nat → Int32} {i : Nat} : ∀ k : Nat, k < 32 → -32768 ≤ (m_clr ca i 32 (32 * i + k)).toInt ∧ (m_clr ca i 32 (32 * i + k)).toInt ≤ 32767 := by
  intro k hk
  rw [m_clr_at, if_pos (by omega)]
  decide
theorem forget_rel {i : Nat} {X : q_St} {be by_ tc ta wa wr pl bi wo sh fa : Nat → Int32} {D : q_Dy} (h : RA i X be by_ tc ta wa wr pl bi wo sh fa D) : RA i (S_forget X) be by_ tc ta wa wr pl bi wo sh fa (D_forget i D) := by
  obtain ⟨h1, h2, h3⟩ := h
  obtain ⟨ca, ph, cm, km, gr, kp, su, ro, ou, ex, sz, ww⟩ := D
  obtain ⟨_, _, ⟨q, m, hm, h4, hq, hp, ht⟩, h5, h6⟩ := h2
  refine ⟨h1, ⟨⟨0, by decide, rfl, clr_rel⟩, clr_rng, ⟨0, m, hm, h4, by omega, pk_us (f := ph), rfl⟩, ⟨(pk_uLs (f := cm)).symm, (pk_uLs (f := km)).symm, (pk_uLs (f := gr)).symm⟩, h6⟩, h3⟩
theorem rs_rel {cnt : Nat} {S : Nat → q_St} {be by_ tc ta wa wr pl bi wo sh fa : Nat → Int32} {D : q_Dy} (h : RW cnt S be by_ tc ta wa wr pl bi wo sh fa D) : ∀ k : Nat, k ≤ cnt → RW cnt (x_rs S k) be by_ tc ta wa wr pl bi wo sh fa (D_rs D k)
  | 0, _ => h
  | k + 1, hk => by
    have ih := rs_rel h k (by omega)
    exact RW_up (by omega) ih (forget_rel (ih.1 k (by omega))) (fun j _ => Sq_refl j be by_ tc ta wa wr pl bi wo sh fa) (fun j hj => Fq_forget hj)
theorem roomy_t {c : Nat} (h : c < 32) : s_roomy (nI c) = true := by
  have a1 : ¬ nI c < 0 := nI_pos (by omega)
  have a2 : nI c < 32 := nI_lt (b := 32) h (by decide)
  unfold s_roomy
  simp [a1, a2]
theorem tap_rel {i c : Nat} {t : Int32} {X : q_St} {be by_ tc ta wa wr pl bi wo sh fa : Nat → Int32} {D : q_Dy} (hc : c < 32) (htc : tc i = nI c) (ht : x_in t (-1000000) 1000000 = true) (h : RA i X be by_ tc ta wa wr pl bi wo sh fa D) : RA i (S_drop (S_addTap t X)) be by_ (upd tc i (tc i + 1)) (upd ta (32 * i + c) t) wa wr (upd pl i 0) bi wo sh fa D ∧ S_tc (S_addTap t X) = tc i + 1 := by
  obtain ⟨⟨a1, a2, a3, a4, a5, a6, a7, a8, a9, a10⟩, h2, h3⟩ := h
  have er : s_roomy (S_tc X) = true := by rw [a3.1, htc]; exact roomy_t hc
  have et : S_tc (S_addTap t X) = tc i + 1 := by
    show (bif s_roomy (S_tc X) then S_tc X + 1 else S_tc X) = _
    rw [er, cond_true, a3.1]
  have eu : S_taps (S_addTap t X) = upd (S_taps X) c t := by
    show (bif s_roomy (S_tc X) then upd (S_taps X) (S_tc X).toNatClampNeg t else S_taps X) = _
    rw [er, cond_true, a3.1, htc, nI_clamp (by omega)]
  have hp0 : upd pl i 0 i = 0 := pk_us
  refine ⟨⟨⟨a1, a2, ⟨et.trans (pk_us (f := tc)).symm, c + 1, by omega, ?_⟩, fun k hk => ?_, a5, a6, ⟨hp0.symm, Or.inl hp0⟩, a8, a9, a10⟩, h2, ?_, ?_, ?_⟩, et⟩
  · rw [pk_us, htc, nI_1]
  · show S_taps (S_addTap t X) k = _ ∧ _
    rw [eu]
    by_cases e : k = c
    · subst e
      rw [pk_us, pk_us]
      exact ⟨rfl, ht⟩
    · rw [pk_un e, pk_un (by omega)]
      exact a4 k hk
  · have : m_ht (upd pl i 0) (D_kp D) i = false := by
      unfold m_ht
      rw [hp0]
      rfl
    rw [this]
    exact ⟨fun _ => rfl, fun _ => rfl⟩
  · intro hn
    exact absurd hp0 hn
  · intro hm
    unfold m_ht at hm
    rw [hp0] at hm
    exact absurd hm (by simp)
theorem addTap_full {X : q_St} {t : Int32} (h : s_roomy (S_tc X) = false) : S_addTap t X = X := by
  obtain ⟨below, bY, tc, way, wr, thin, cin, hld, gst, taps, pst, bits, word, shift, psz, fac, lst, sum, ex, rnd, out, ssz, rby, wds, rhd⟩ := X
  have h : s_roomy tc = false := h
  unfold S_addTap
  simp only [h, cond_false]
theorem ok_t {c k : Nat} (hk : k < c) (hc : c ≤ 32) : s_ok (nI c) (nI k) = true := by
  have h1 : ¬ nI k < 0 := nI_pos (by omega)
  have h2 : ¬ nI c ≤ nI k := nI_ge hk (by omega)
  have h3 : ¬ (32 : Int32) ≤ nI k := q_ge32 (by omega)
  unfold s_ok
  simp [h1, h2, h3]
theorem ok_f {c : Nat} {k : Int32} (hk : k < 0 ∨ nI c ≤ k) : s_ok (nI c) k = false := by
  unfold s_ok
  rcases hk with h | h <;> simp [h]
theorem change_rel {i c kk : Nat} {t : Int32} {X : q_St} {be by_ tc ta wa wr pl bi wo sh fa : Nat → Int32} {D : q_Dy} (hc : c ≤ 32) (hk : kk < c) (htc : tc i = nI c) (ht : x_in t (-1000000) 1000000 = true) (h : RA i X be by_ tc ta wa wr pl bi wo sh fa D) : RA i (S_drop (S_setTap (nI kk) t X)) be by_ tc (upd ta (32 * i + kk) t) wa wr (upd pl i 0) bi wo sh fa D ∧ s_tap (S_tc X) (S_taps X) (nI kk) = ta (32 * i + kk) := by
  obtain ⟨⟨a1, a2, a3, a4, a5, a6, a7, a8, a9, a10⟩, h2, h3⟩ := h
  have eu : S_taps (S_setTap (nI kk) t X) = upd (S_taps X) kk t := by
    show (bif s_ok (S_tc X) (nI kk) then upd (S_taps X) (nI kk).toNatClampNeg t else S_taps X) = _
    rw [a3.1, htc, ok_t hk hc, cond_true, nI_clamp (by omega)]
  have hp0 : upd pl i 0 i = 0 := pk_us
  refine ⟨⟨⟨a1, a2, a3, fun k hk => ?_, a5, a6, ⟨hp0.symm, Or.inl hp0⟩, a8, a9, a10⟩, h2, ?_, ?_, ?_⟩, ?_⟩
  · show S_taps (S_setTap (nI kk) t X) k = _ ∧ _
    rw [eu]
    by_cases e : k = kk
    · subst e
      rw [pk_us, pk_us]
      exact ⟨rfl, ht⟩
    · rw [pk_un e, pk_un (by omega)]
      exact a4 k hk
  · have : m_ht (upd pl i 0) (D_kp D) i = false := by
      unfold m_ht
      rw [hp0]
      rfl
    rw [this]
    exact ⟨fun _ => rfl, fun _ => rfl⟩
  · intro hn
    exact absurd hp0 hn
  · intro hm
    unfold m_ht at hm
    rw [hp0] at hm
    exact absurd hm (by simp)
  · rw [a3.1, htc, tap_in hk hc]
    exact (a4 kk (by omega)).1
theorem way_rel {i : Nat} {v w : Int32} {X : q_St} {be by_ tc ta wa wr pl bi wo sh fa : Nat → Int32} {D : q_Dy} (hv : x_in v 0 3 = true) (hw : w = 0 ∨ w = 1) (h : RA i X be by_ tc ta wa wr pl bi wo sh fa D) : RA i (S_setWr w (S_setWay v X)) be by_ tc ta (upd wa i v) (upd wr i w) pl bi wo sh fa D := by
  obtain ⟨⟨a1, a2, a3, a4, a5, a6, a7, a8, a9, a10⟩, h2, h3⟩ := h
  have hc : v = 0 ∨ v = 1 ∨ v = 2 ∨ v = 3 := by
    rw [x_in_iff] at hv
    have e0 : (0 : Int32).toInt = 0 := by decide
    have e1 : (1 : Int32).toInt = 1 := by decide
    have e2 : (2 : Int32).toInt = 2 := by decide
    have e3 : (3 : Int32).toInt = 3 := by decide
    rw [e0, e3] at hv
    have : v.toInt = 0 ∨ v.toInt = 1 ∨ v.toInt = 2 ∨ v.toInt = 3 := by omega
    rcases this with e | e | e | e
    · exact Or.inl (i32_eq (e.trans e0.symm))
    · exact Or.inr (Or.inl (i32_eq (e.trans e1.symm)))
    · exact Or.inr (Or.inr (Or.inl (i32_eq (e.trans e2.symm))))
    · exact Or.inr (Or.inr (Or.inr (i32_eq (e.trans e3.symm))))
  have u1 : upd wa i v i = v := pk_us
  have u2 : upd wr i w i = w := pk_us
  exact ⟨⟨a1, a2, a3, a4, ⟨u1.symm, by rw [u1]; exact hc⟩, ⟨u2.symm, by rw [u2]; exact hw⟩, a7, a8, a9, a10⟩, h2, h3⟩
/-! plans -/
theorem lim_le : ∀ b : Nat, b < 17 → 4 ≤ b → (s_lim (nI b)).toInt ≤ 32767 := by decide +kernel
theorem safe_all {mc ms : Int64} {ta be : Nat → Int32} {j : Nat} {mv : Int32} : ∀ (k t : Nat) (acc : Int64), m_safe mc ms ta be j mv k t acc = true → ∀ q : Nat, t ≤ q → q < t + k → m_abs (m_fac ta be j q mv) ≤ mc
  | 0, t, acc, h, q, h1, h2 => by omega
  | k + 1, t, acc, h, q, h1, h2 => by
    unfold m_safe at h
    by_cases hc : m_abs (m_fac ta be j t mv) ≤ mc
    · rw [if_pos hc] at h
      by_cases e : q = t
      · rw [e]; exact hc
      · exact safe_all k (t + 1) _ h q (by omega) (by omega)
    · rw [if_neg hc] at h
      exact absurd h (by decide)
theorem shl_toInt {t : Int32} {h : Nat} (hh : h < 25) (h1 : -1000000 ≤ t.toInt) (h2 : t.toInt ≤ 1000000) : (t.toInt64 <<< ((nI h).toInt64 &&& 63)).toInt = t.toInt * 2 ^ h ∧ -16777216000000 ≤ t.toInt * 2 ^ h ∧ t.toInt * 2 ^ h ≤ 16777216000000 := by
  have e1 := one_toInt h hh
  obtain ⟨l1, l2⟩ := one_le h hh
  have p := prod_ab (A := 1000000) (L := 16777216) (a := t.toInt) (y := 2 ^ h) (by omega) (by omega) (by omega) (by omega)
  have e : (t.toInt64 * m_one (nI h)).toInt = t.toInt * 2 ^ h := by
    rw [i_mul, Int32.toInt_toInt64, e1] <;> rw [Int32.toInt_toInt64, e1] <;> omega
  refine ⟨?_, by omega, by omega⟩
  rw [← shl_mul]
  exact e
theorem fac_bd {ta be : Nat → Int32} {i k h : Nat} {bb : Int32} (hh : h < 25) (hb1 : 1 ≤ be i) (hb2 : be i ≤ 1000000) (ht : x_in (ta (32 * i + k)) (-1000000) 1000000 = true) (hbb : x_in bb 4 16 = true) (hs : m_abs (m_fac ta be i k (nI h)) ≤ s_lim bb) : (-32767 ≤ (m_fac ta be i k (nI h)).toInt ∧ (m_fac ta be i k (nI h)).toInt ≤ 32767) ∧ -((be i).toInt * 32768) ≤ (ta (32 * i + k)).toInt * 2 ^ h ∧ (ta (32 * i + k)).toInt * 2 ^ h ≤ (be i).toInt * 32768 := by
  rw [x_in_iff] at ht hbb
  have m1 : (1000000 : Int32).toInt = 1000000 := by decide
  have m2 : (-1000000 : Int32).toInt = -1000000 := by decide
  have m3 : (4 : Int32).toInt = 4 := by decide
  have m4 : (16 : Int32).toInt = 16 := by decide
  rw [m1, m2] at ht
  rw [m3, m4] at hbb
  obtain ⟨v1, v2, v3⟩ := shl_toInt hh ht.1 ht.2
  obtain ⟨b1, b2⟩ := be_rng hb1 hb2
  have nb := near_bd (v := (ta (32 * i + k)).toInt64 <<< ((nI h).toInt64 &&& 63)) (w := (be i).toInt64) (by omega) (by omega) (by rw [v1]; omega) (by rw [v1]; omega)
  rw [v1] at nb
  have nb : (ta (32 * i + k)).toInt * 2 ^ h - (be i).toInt64.toInt ≤ (m_fac ta be i k (nI h)).toInt * (be i).toInt64.toInt ∧ (m_fac ta be i k (nI h)).toInt * (be i).toInt64.toInt ≤ (ta (32 * i + k)).toInt * 2 ^ h + (be i).toInt64.toInt := nb
  have fb := abs_K (r := (m_fac ta be i k (nI h)).toInt) (K := (be i).toInt64.toInt) (N := 16777217000000) b1 (by omega) (by omega)
  have ab := abs_toInt (x := m_fac ta be i k (nI h)) (by omega)
  have hbn : ∃ b : Nat, b < 17 ∧ 4 ≤ b ∧ bb = nI b := by
    refine ⟨bb.toInt.toNat, by omega, by omega, i32_eq ?_⟩
    rw [nI_toInt (by omega)]
    omega
  obtain ⟨b, c1, c2, c3⟩ := hbn
  have hl := lim_le b c1 c2
  have hs := Int64.le_iff_toInt_le.mp hs
  rw [c3, ab] at hs
  have f2 : -32767 ≤ (m_fac ta be i k (nI h)).toInt ∧ (m_fac ta be i k (nI h)).toInt ≤ 32767 := by
    split at hs <;> omega
  have p := prod_ab (A := 32767) (L := (be i).toInt64.toInt) (a := (m_fac ta be i k (nI h)).toInt) (y := (be i).toInt64.toInt) (by omega) (by omega) (by omega) (by omega)
  rw [← Int32.toInt_toInt64 (be i)]
  exact ⟨f2, by omega, by omega⟩
theorem to32 {x : Int64} (h1 : -32767 ≤ x.toInt) (h2 : x.toInt ≤ 32767) : x.toInt32.toInt = x.toInt := by
  rw [Int64.toInt_toInt32, Int.bmod_eq_of_le_mul_two (by omega) (by omega)]
theorem plan_rel {i c h : Nat} {bb ww0 : Int32} {X : q_St} {be by_ tc ta wa wr pl bi wo sh fa ca ph : Nat → Int32} {cm km gr : Nat → Int64} {kp : Nat → Int32} {su ro : Nat → Int64} {ou : Nat → Int32} {ex sz : Nat → Int64} {ww : Nat → Int32} (hc : c ≤ 32) (htc : tc i = nI c) (hh : h < 25) (hbb : x_in bb 4 16 = true) (hs : m_isSafe ta be i c bb ww0 (nI h) = true) (hA : RA i X be by_ tc ta wa wr pl bi wo sh fa (ca, ph, cm, km, gr, kp, su, ro, ou, ex, sz, ww)) : RA i (S_setPlan bb ww0 (nI h) X) be by_ tc ta wa wr (upd pl i 1) (upd bi i bb) (upd wo i ww0) (upd sh i (nI h)) (m_pf ta be i (nI h) fa c) (m_clr ca i 32, upd ph i 0, vp_updL cm i 0, vp_updL km i 0, vp_updL gr i 0, upd kp i 0, su, ro, ou, ex, sz, ww) := by
  obtain ⟨⟨a1, a2, a3, a4, a5, a6, a7, a8, a9, a10⟩, h2, h3⟩ := hA
  obtain ⟨_, _, ⟨q, m, hm, h4, hq, hp, ht⟩, h5, h6⟩ := h2
  have hcl : (nI c).toNatClampNeg = c := nI_clamp (by omega)
  have p1 : upd pl i 1 i = 1 := pk_us
  have p2 : upd sh i (nI h) i = nI h := pk_us
  have fb : ∀ k : Nat, k < c → (-32767 ≤ (m_fac ta be i k (nI h)).toInt ∧ (m_fac ta be i k (nI h)).toInt ≤ 32767) ∧ -((be i).toInt * 32768) ≤ (ta (32 * i + k)).toInt * 2 ^ h ∧ (ta (32 * i + k)).toInt * 2 ^ h ≤ (be i).toInt * 32768 := fun k hk => fac_bd hh a1.2.1 a1.2.2 (a4 k (by omega)).2 hbb (safe_all c 0 0 hs k (by omega) (by omega))
  have hb : 1 ≤ S_below X := by rw [a1.1]; exact a1.2.1
  refine ⟨⟨a1, a2, a3, a4, a5, a6, ⟨p1.symm, Or.inr p1⟩, ⟨(pk_us (f := bi)).symm, (pk_us (f := wo)).symm⟩, ⟨p2.symm, h, hh, p2⟩, fun k hk => ?_⟩, ⟨⟨0, by decide, rfl, clr_rel⟩, clr_rng, ⟨0, m, hm, h4, by omega, pk_us (f := ph), rfl⟩, ⟨(pk_uLs (f := cm)).symm, (pk_uLs (f := km)).symm, (pk_uLs (f := gr)).symm⟩, h6⟩, ?_, fun _ => ⟨?_, fun k hk => ?_⟩, fun hm => ?_⟩
  · show s_pf (S_tc X) (S_below X) (S_taps X) (nI h) (S_fac X) (S_tc X).toNatClampNeg k = _
    rw [a3.1, htc, hcl]
    exact pf_eq hc hb a1.1 (fun k hk => (a4 k hk).1) a10 k hk
  · have : m_ht (upd pl i 1) (upd kp i 0) i = false := by
      unfold m_ht
      rw [pk_us (f := kp)]
      simp
    show (0 : Int32) = 0 ↔ m_ht (upd pl i 1) (upd kp i 0) i = false
    rw [this]
    exact ⟨fun _ => rfl, fun _ => rfl⟩
  · show s_pz (S_tc X) (S_below X) (S_taps X) (nI h) (S_tc X).toNatClampNeg = _
    rw [a3.1, htc, hcl]
    exact pz_eq hc hb a1.1 (fun k hk => (a4 k hk).1) (fun k hk => by rw [to32 (fb k hk).1.1 (fb k hk).1.2]; have := (fb k hk).1; omega) c (Nat.le_refl c)
  · rw [htc, hcl] at hk
    rw [p2, nI_clamp (show h < 2 ^ 31 by omega), mpf_at, if_pos (by omega), show 32 * i + k - 32 * i = k by omega, to32 (fb k hk).1.1 (fb k hk).1.2]
    exact fb k hk
  · have hm : m_ht (upd pl i 1) (upd kp i 0) i = true := hm
    unfold m_ht at hm
    rw [pk_us (f := kp)] at hm
    exact absurd hm (by simp)
theorem sf_eq {i c : Nat} {bb ww0 : Int32} {X : q_St} {be by_ tc ta wa wr pl bi wo sh fa : Nat → Int32} (hc : c ≤ 32) (hc0 : 0 < c) (htc : tc i = nI c) (hT : RSt i X be by_ tc ta wa wr pl bi wo sh fa) (ss : Int32) : S_safe bb ww0 ss X = m_isSafe ta be i c bb ww0 ss := by
  obtain ⟨a1, a2, a3, a4, a5, a6, a7, a8, a9, a10⟩ := hT
  show s_safe (s_lim bb) (s_lim ww0) (S_tc X) (S_below X) (S_taps X) ss (S_tc X).toNatClampNeg 0 0 = m_safe (s_lim bb) (s_lim ww0) ta be i ss c 0 0
  rw [a3.1, htc, nI_clamp (show c < 2 ^ 31 by omega)]
  exact safe_eq hc hc0 (by rw [a1.1]; exact a1.2.1) a1.1 (fun k hk => (a4 k hk).1) c 0 0 (by omega)
theorem sf_no {i : Nat} {bb ww0 : Int32} {X : q_St} {be by_ tc ta wa wr pl bi wo sh fa : Nat → Int32} (htc : tc i = 0) (hT : RSt i X be by_ tc ta wa wr pl bi wo sh fa) (ss : Int32) : S_safe bb ww0 ss X = false := by
  obtain ⟨a1, a2, a3, _⟩ := hT
  show s_safe (s_lim bb) (s_lim ww0) (S_tc X) (S_below X) (S_taps X) ss (S_tc X).toNatClampNeg 0 0 = false
  rw [a3.1, htc]
  show s_safe (s_lim bb) (s_lim ww0) 0 (S_below X) (S_taps X) ss 0 0 0 = false
  unfold s_safe
  simp
theorem xsf_eq {i c : Nat} {bb ww0 : Int32} {X : q_St} {be by_ tc ta wa wr pl bi wo sh fa : Nat → Int32} (hc : c ≤ 32) (hc0 : 0 < c) (htc : tc i = nI c) (hT : RSt i X be by_ tc ta wa wr pl bi wo sh fa) : ∀ k : Nat, x_sf X bb ww0 k = m_sf ta be i c bb ww0 k
  | 0 => rfl
  | k + 1 => by
    unfold x_sf m_sf
    rw [sf_eq hc hc0 htc hT, xsf_eq hc hc0 htc hT k]
theorem xsf_no {i : Nat} {bb ww0 : Int32} {X : q_St} {be by_ tc ta wa wr pl bi wo sh fa : Nat → Int32} (htc : tc i = 0) (hT : RSt i X be by_ tc ta wa wr pl bi wo sh fa) : ∀ k : Nat, x_sf X bb ww0 k = none
  | 0 => rfl
  | k + 1 => by
    unfold x_sf
    rw [sf_no htc hT, if_neg (by decide)]
    exact xsf_no htc hT k
theorem sf_some {ta be : Nat → Int32} {j c : Nat} {bb ww0 : Int32} : ∀ (k h : Nat), m_sf ta be j c bb ww0 k = some h → h < k ∧ m_isSafe ta be j c bb ww0 (nI h) = true
  | 0, h, e => by cases e
  | k + 1, h, e => by
    unfold m_sf at e
    by_cases hc : m_isSafe ta be j c bb ww0 (nI k) = true
    · rw [if_pos hc] at e
      cases e
      exact ⟨by omega, hc⟩
    · rw [if_neg hc] at e
      have := sf_some k h e
      exact ⟨by omega, this.2⟩
/-! about, counted, coefficient, digest -/
theorem cntd_rel {i : Nat} {v : Int32} {X : q_St} {be by_ tc ta wa wr pl bi wo sh fa : Nat → Int32} {D : q_Dy} (hT : RSt i X be by_ tc ta wa wr pl bi wo sh fa) (hD : RSd i X by_ D) : x_cntd X v = bif x_in v 0 2 then m_cntd pl (D_cm D) (D_km D) (D_gr D) i v else -2 := by
  obtain ⟨_, _, _, _, _, _, ⟨p1, _⟩, _⟩ := hT
  obtain ⟨_, _, _, ⟨h5, h6, h7⟩, _⟩ := hD
  unfold x_cntd m_cntd
  rw [p1, h5, h6, h7]
  by_cases v0 : v = 0
  · subst v0
    rw [if_pos rfl, if_pos rfl]
    rfl
  · by_cases v1 : v = 1
    · subst v1
      rfl
    · by_cases v2 : v = 2
      · subst v2
        rfl
      · have : x_in v 0 2 = false := by
          cases e : x_in v 0 2 with
          | false => rfl
          | true =>
            rw [x_in_iff] at e
            have e0 : (0 : Int32).toInt = 0 := by decide
            have e1 : (1 : Int32).toInt = 1 := by decide
            have e2 : (2 : Int32).toInt = 2 := by decide
            rw [e0, e2] at e
            have : v.toInt = 0 ∨ v.toInt = 1 ∨ v.toInt = 2 := by omega
            rcases this with g | g | g
            · exact absurd (i32_eq (g.trans e0.symm)) v0
            · exact absurd (i32_eq (g.trans e1.symm)) v1
            · exact absurd (i32_eq (g.trans e2.symm)) v2
        rw [this, if_neg v0, if_neg v1, if_neg v2]
        rfl
theorem v_9 {v : Int32} (h : x_in v 0 9 = true) (h0 : ¬ v = 0) (h1 : ¬ v = 1) (h2 : ¬ v = 2) (h3 : ¬ v = 3) (h4 : ¬ v = 4) (h5 : ¬ v = 5) (h6 : ¬ v = 6) (h7 : ¬ v = 7) (h8 : ¬ v = 8) : v = 9 := by
  rw [x_in_iff] at h
  have e0 : (0 : Int32).toInt = 0 := by decide
  have e9 : (9 : Int32).toInt = 9 := by decide
  rw [e0, e9] at h
  have k : ∀ c : Int32, ¬ v = c → v.toInt ≠ c.toInt := fun c hc e => hc (i32_eq e)
  have k0 := k 0 h0
  have k1 := k 1 h1
  have k2 := k 2 h2
  have k3 := k 3 h3
  have k4 := k 4 h4
  have k5 := k 5 h5
  have k6 := k 6 h6
  have k7 := k 7 h7
  have k8 := k 8 h8
  rw [show (0 : Int32).toInt = 0 by decide] at k0
  rw [show (1 : Int32).toInt = 1 by decide] at k1
  rw [show (2 : Int32).toInt = 2 by decide] at k2
  rw [show (3 : Int32).toInt = 3 by decide] at k3
  rw [show (4 : Int32).toInt = 4 by decide] at k4
  rw [show (5 : Int32).toInt = 5 by decide] at k5
  rw [show (6 : Int32).toInt = 6 by decide] at k6
  rw [show (7 : Int32).toInt = 7 by decide] at k7
  rw [show (8 : Int32).toInt = 8 by decide] at k8
  exact i32_eq (by rw [e9]; omega)
theorem about_rel {cnt cl i c : Nat} {v : Int32} {X : q_St} {be by_ tc ta wa wr pl bi wo sh fa ch' : Nat → Int32} (hc : c ≤ 32) (htc : tc i = nI c) (hv : x_in v 0 9 = true) (hT : RSt i X be by_ tc ta wa wr pl bi wo sh fa) : x_about X ((m_fd ch' (nI i) cl 0).elim (-1) nI) v = m_about cnt cl be by_ tc ta wa wr pl bi wo sh ch' i c v := by
  obtain ⟨a1, a2, a3, a4, a5, a6, a7, a8, a9, a10⟩ := hT
  have es : S_sym X = m_mir ta i c c := by
    show s_sym (S_tc X) (S_taps X) (S_tc X).toNatClampNeg = _
    rw [a3.1, htc, nI_clamp (show c < 2 ^ 31 by omega), al_eq hc (fun k hk => (a4 k hk).1) c (Nat.le_refl c)]
    rfl
  unfold x_about m_about
  rw [es, a3.1, a1.1, a2.1, a5.1, a6.1, a7.1, a8.1, a8.2, a9.1]
  by_cases h0 : v = 0
  · rw [if_pos h0, if_pos h0]
  rw [if_neg h0, if_neg h0]
  by_cases h1 : v = 1
  · rw [if_pos h1, if_pos h1]
  rw [if_neg h1, if_neg h1]
  by_cases h2 : v = 2
  · rw [if_pos h2, if_pos h2]
  rw [if_neg h2, if_neg h2]
  by_cases h3 : v = 3
  · rw [if_pos h3, if_pos h3]
  rw [if_neg h3, if_neg h3]
  by_cases h4 : v = 4
  · rw [if_pos h4, if_pos h4]
  rw [if_neg h4, if_neg h4]
  by_cases h5 : v = 5
  · rw [if_pos h5, if_pos h5]
  rw [if_neg h5, if_neg h5]
  by_cases h6 : v = 6
  · rw [if_pos h6, if_pos h6]
  rw [if_neg h6, if_neg h6]
  by_cases h7 : v = 7
  · rw [if_pos h7, if_pos h7]
  rw [if_neg h7, if_neg h7]
  by_cases h8 : v = 8
  · rw [if_pos h8, if_pos h8]
  rw [if_neg h8, if_neg h8, if_pos (v_9 hv h0 h1 h2 h3 h4 h5 h6 h7 h8)]
theorem about_no {X : q_St} {p v : Int32} (hv : x_in v 0 9 = false) : x_about X p v = -2 := by
  have k : ∀ c : Int32, x_in c 0 9 = true → ¬ v = c := fun c hc e => by rw [e, hc] at hv; exact absurd hv (by decide)
  unfold x_about
  rw [if_neg (k 0 (by decide)), if_neg (k 1 (by decide)), if_neg (k 2 (by decide)), if_neg (k 3 (by decide)), if_neg (k 4 (by decide)), if_neg (k 5 (by decide)), if_neg (k 6 (by decide)), if_neg (k 7 (by decide)), if_neg (k 8 (by decide)), if_neg (k 9 (by decide))]
theorem d1_rel {cnt cl i c : Nat} {X : q_St} {be by_ tc ta wa wr pl bi wo sh fa ch' : Nat → Int32} {g : Int64} (hc : c ≤ 32) (htc : tc i = nI c) (hT : RSt i X be by_ tc ta wa wr pl bi wo sh fa) : ∀ w : Nat, w ≤ 10 → x_d1 X ((m_fd ch' (nI i) cl 0).elim (-1) nI) g w = m_e1 cnt cl be by_ tc ta wa wr pl bi wo sh ch' i c g w
  | 0, _ => rfl
  | w + 1, hw => by
    show 31 * x_d1 X ((m_fd ch' (nI i) cl 0).elim (-1) nI) g w + (x_about X ((m_fd ch' (nI i) cl 0).elim (-1) nI) (nI w)).toInt64 = 31 * m_e1 cnt cl be by_ tc ta wa wr pl bi wo sh ch' i c g w + (m_about cnt cl be by_ tc ta wa wr pl bi wo sh ch' i c (nI w)).toInt64
    have hv : x_in (nI w) 0 9 = true := by
      rw [x_in_iff, nI_toInt (by omega), show (0 : Int32).toInt = 0 by decide, show (9 : Int32).toInt = 9 by decide]
      omega
    rw [d1_rel hc htc hT w (by omega), about_rel (cnt := cnt) hc htc hv hT]
theorem digest_rel {cnt cl : Nat} {S : Nat → q_St} {be by_ tc ta wa wr pl bi wo sh fa ch ch' : Nat → Int32} {D : q_Dy} (hcl : cl ≤ 8) (hC : RC cnt cl by_ pl ch ch') (h : RW cnt S be by_ tc ta wa wr pl bi wo sh fa D) : ∀ t : Nat, t ≤ cnt → x_d S ch cl t = m_dg cnt cl be by_ tc ta wa wr pl bi wo sh ch' fa (D_ca D) (D_cm D) (D_km D) (D_gr D) t
  | 0, _ => rfl
  | t + 1, ht => by
    obtain ⟨hT, hD, _⟩ := h.1 t (by omega)
    obtain ⟨a1, a2, ⟨a3, c, hc, htc⟩, a4, a5, a6, a7, a8, a9, a10⟩ := id hT
    obtain ⟨⟨r, hr, r1, r2⟩, _⟩ := id hD
    have hcc : (nI c).toNatClampNeg = c := nI_clamp (by omega)
    show 31 * (31 * S_mix (x_d1 (S t) (x_plc ch cl t) (x_d S ch cl t) 10) (S t) + x_cntd (S t) 0) + x_cntd (S t) 1 = m_dg1 cnt cl be by_ tc ta wa wr pl bi wo sh ch' fa (D_ca D) (D_cm D) (D_km D) (D_gr D) t (tc t).toNatClampNeg (m_dg cnt cl be by_ tc ta wa wr pl bi wo sh ch' fa (D_ca D) (D_cm D) (D_km D) (D_gr D) t)
    rw [digest_rel hcl hC h t (by omega), cntd_rel hT hD, cntd_rel hT hD, plc_eq hcl hC, d1_rel (cnt := cnt) hc htc hT 10 (Nat.le_refl _), htc, hcc, show x_in 0 0 2 = true by decide, show x_in 1 0 2 = true by decide, cond_true, cond_true]
    unfold m_dg1
    congr 3
    show 31 * (if S_pst (S t) = 0 then x_m1 (S_tc (S t)) (S_taps (S t)) _ (S_tc (S t)).toNatClampNeg else x_m3 (S_wds (S t)) (S_rhd (S t)) (x_m2 (S_fac (S t)) (x_m1 (S_tc (S t)) (S_taps (S t)) _ (S_tc (S t)).toNatClampNeg) (S_tc (S t)).toNatClampNeg) (S_tc (S t)).toNatClampNeg) = _
    rw [a7.1, a3, htc, hcc]
    congr 1
    by_cases hp : pl t = 0
    · rw [if_pos hp, if_pos hp]
      exact e2_eq1 hc (fun k hk => (a4 k hk).1) c (Nat.le_refl c)
    · rw [if_neg hp, if_neg hp, e2_eq1 hc (fun k hk => (a4 k hk).1) c (Nat.le_refl c), e2_eq2 a10 c hc]
      exact e2_eq3 (fun k hk => by rw [r1, r_ix_nI hr hk]; exact r2 k hk) c hc
