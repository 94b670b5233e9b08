theorem nI_le0 {a : Nat} (h : a < 2 ^ 31) : (nI a ≤ 0) ↔ a = 0 := by
  rw [show (0 : Int32) = nI 0 from rfl, nI_leI h (by decide)]
  omega
/-- thinning: the class counts down, the reference up -/
theorem thin_step {th by_ : Int32} {q m : Nat} (hm : m_thin by_ = nI m) (h4 : m ≤ 4) (hq : q < m) (ht : th = nI (if q = 0 then 0 else m - q)) : (th ≤ 0 ↔ q = 0) ∧ s_thin th by_ = nI (if (if q + 1 = m then 0 else q + 1) = 0 then 0 else m - (if q + 1 = m then 0 else q + 1)) := by
  have e0 : th ≤ 0 ↔ q = 0 := by
    rw [ht, nI_le0 (by split <;> omega)]
    split <;> omega
  refine ⟨e0, ?_⟩
  unfold s_thin
  by_cases h0 : q = 0
  · rw [if_pos (e0.mpr h0)]
    subst h0
    unfold m_thin at hm
    by_cases hb : by_ ≤ 1
    · rw [if_pos hb] at hm
      rw [if_pos hb]
      have : m = 1 := ((nI_eq (a := 1) (b := m) (by decide) (by omega)).mp hm).symm
      subst this
      rfl
    · rw [if_neg hb] at hm
      rw [if_neg hb]
      have h2 : m ≠ 1 := fun e => hb (by rw [hm, e]; decide)
      rw [if_neg (show ¬ 0 + 1 = m by omega), if_neg (by omega), hm, x_pred (by omega)]
  · rw [if_neg (fun e => h0 (e0.mp e)), ht, if_neg h0, x_pred (by omega)]
    by_cases h1 : q + 1 = m
    · rw [if_pos h1, if_pos rfl]
      congr 1
      omega
    · rw [if_neg h1, if_neg (by omega)]
      congr 1
