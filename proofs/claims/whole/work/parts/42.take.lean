def D_ca : q_Dy → Nat → Int32 := fun (ca, ph, cm, km, gr, kp, su, ro, ou, ex, sz, ww) => ca
/-- the words that are summed, behind one sample more -/
theorem psh_words {wds ca : Nat → Int32} {r i : Nat} {x : Int32} (hr : r < 32) (hx1 : -32768 ≤ x.toInt) (hx2 : x.toInt ≤ 32767) (h : ∀ k : Nat, k < 32 → wds ((r + k) % 32) = ca (32 * i + k)) : ∀ k : Nat, k < 32 → r_psh wds (nI r) x (r_ix (r_ph (nI r)) (nI k)) = upd (m_dn ca i 31) (32 * i) x (32 * i + k) := by
  intro k hk
  rw [r_ph_nI r hr, r_ix_nI (by omega) hk]
  exact ring_push hr hx1 hx2 h k hk
theorem psh_rng {ca : Nat → Int32} {i : Nat} {x : Int32} (hx1 : -32768 ≤ x.toInt) (hx2 : x.toInt ≤ 32767) (h : ∀ k : Nat, k < 32 → -32768 ≤ (ca (32 * i + k)).toInt ∧ (ca (32 * i + k)).toInt ≤ 32767) : ∀ k : Nat, k < 32 → -32768 ≤ (upd (m_dn ca i 31) (32 * i) x (32 * i + k)).toInt ∧ (upd (m_dn ca i 31) (32 * i) x (32 * i + k)).toInt ≤ 32767 := by
  intro k hk
  rcases Nat.eq_zero_or_pos k with hk0 | hk0
  · subst hk0
    rw [Nat.add_zero, pk_us]
    exact ⟨hx1, hx2⟩
  · rw [pk_un (by omega), m_dn_at, if_pos (by omega), show 32 * i + k - 1 = 32 * i + (k - 1) by omega]
    exact h (k - 1) (by omega)
/-- one sample into a stage: the same output on both sides -/
theorem out_eq {X : q_St} {D : q_Dy} {tc ta wa wr sh fa : Nat → Int32} {i r c h : Nat} {x : Int32} (hx1 : -32768 ≤ x.toInt) (hx2 : x.toInt ≤ 32767) (hr : r < 32) (hc : c ≤ 32) (hh : h < 25) (e1 : S_tc X = tc i) (e2 : tc i = nI c) (e3 : S_shift X = sh i) (e4 : sh i = nI h) (e5 : S_way X = wa i) (e6 : wa i = 0 ∨ wa i = 1 ∨ wa i = 2 ∨ wa i = 3) (e7 : S_wr X = wr i) (e8 : S_rhd X = nI r) (ef : ∀ k : Nat, k < 32 → S_fac X k = fa (32 * i + k)) (ew : ∀ k : Nat, k < 32 → S_wds X ((r + k) % 32) = D_ca D (32 * i + k)) (hb : ∀ k : Nat, k < 32 → -32768 ≤ (D_ca D (32 * i + k)).toInt ∧ (D_ca D (32 * i + k)).toInt ≤ 32767) :
    s_sum (S_fac X) (r_psh (S_wds X) (S_rhd X) x) (r_ph (S_rhd X)) (S_tc X).toNatClampNeg = m_sum (upd (m_dn (D_ca D) i 31) (32 * i) x) fa i (tc i).toNatClampNeg ∧
    s_round (s_sum (S_fac X) (r_psh (S_wds X) (S_rhd X) x) (r_ph (S_rhd X)) (S_tc X).toNatClampNeg) (S_shift X) (S_way X) = m_round (m_sum (upd (m_dn (D_ca D) i 31) (32 * i) x) fa i (tc i).toNatClampNeg) (sh i) (wa i) ∧ S_out x X = D_out tc ta wa wr sh fa i x D := by
  have hcl : (nI c).toNatClampNeg = c := nI_clamp (by omega)
  have hs : s_sum (S_fac X) (r_psh (S_wds X) (S_rhd X) x) (r_ph (S_rhd X)) (S_tc X).toNatClampNeg = m_sum (upd (m_dn (D_ca D) i 31) (32 * i) x) fa i (tc i).toNatClampNeg := by
    rw [e1, e2, hcl, e8]
    exact sum_eq ef (psh_words hr hx1 hx2 ew) c hc
  have hq : s_round (s_sum (S_fac X) (r_psh (S_wds X) (S_rhd X) x) (r_ph (S_rhd X)) (S_tc X).toNatClampNeg) (S_shift X) (S_way X) = m_round (m_sum (upd (m_dn (D_ca D) i 31) (32 * i) x) fa i (tc i).toNatClampNeg) (sh i) (wa i) := by
    rw [hs, e3, e4, e5, e2, hcl]
    have hB := sum_60 (fa := fa) (psh_rng hx1 hx2 hb) hc
    exact round_eq hh hB.1 hB.2 e6
  refine ⟨hs, hq, ?_⟩
  show s_held (s_round (s_sum (S_fac X) (r_psh (S_wds X) (S_rhd X) x) (r_ph (S_rhd X)) (S_tc X).toNatClampNeg) (S_shift X) (S_way X)) (S_wr X) = m_held (m_round (m_sum (upd (m_dn (D_ca D) i 31) (32 * i) x) fa i (tc i).toNatClampNeg) (sh i) (wa i)) (wr i)
  rw [hq, e7, held_eq]
