/-- behind an output: whether it comes out, and how many are thinned, on both sides -/
theorem come_rel {X : q_St} {D : q_Dy} {be by_ tc ta wa wr pl bi wo sh fa : Nat → Int32} {i : Nat} (hT : RSt i X be by_ tc ta wa wr pl bi wo sh fa) (hD : RSd i X by_ D) : (S_thin0 X = true ↔ D_phv D i = 0) ∧ RSt i (S_come X) be by_ tc ta wa wr pl bi wo sh fa ∧ RSd i (S_come X) by_ (D_ph i (if D_phv D i + 1 = m_thin (by_ i) then 0 else D_phv D i + 1) D) := by
  obtain ⟨h2, h3, ⟨q, m, hm, h4, hq, hp, ht⟩, h5, h6⟩ := id hD
  have hby : S_by X = by_ i := hT.2.1.1
  obtain ⟨t1, t2⟩ := thin_step hm h4 hq ht
  refine ⟨?_, hT, h2, h3, ⟨if q + 1 = m then 0 else q + 1, m, hm, h4, by split <;> omega, ?_, ?_⟩, h5, h6⟩
  · show decide (S_thin X ≤ 0) = true ↔ _
    rw [decide_eq_true_iff, t1, hp, show (0 : Int32) = nI 0 from rfl, nI_eq (by omega) (by decide)]
  · obtain ⟨ca, ph, cm, km, gr, kp, su, ro, ou, ex, sz, ww⟩ := D
    have hp : ph i = nI q := hp
    show upd ph i (if ph i + 1 = m_thin (by_ i) then 0 else ph i + 1) i = _
    rw [pk_us, hp, hm, nI_1]
    by_cases h1 : q + 1 = m
    · rw [if_pos h1, if_pos (by rw [h1])]
      rfl
    · rw [if_neg h1, if_neg (fun e => h1 ((nI_eq (by omega) (by omega)).mp e))]
  · show s_thin (S_thin X) (S_by X) = _
    rw [hby]
    exact t2
