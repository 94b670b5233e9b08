theorem fl_unique {X Y q : Int} (hY : 0 < Y) (h1 : q * Y ≤ X) (h2 : X < q * Y + Y) : X / Y = q := by
  apply Int.le_antisymm
  · have h3 : X / Y < q + 1 := (Int.ediv_lt_iff_lt_mul hY).mpr (by rw [Int.add_mul, Int.one_mul]; exact h2)
    omega
  · exact (Int.le_ediv_iff_mul_le hY).mpr h1
/-- down is the floor -/
theorem down_toInt {x y : Int64} (hy : 0 < y.toInt) : (m_down x y).toInt = x.toInt / y.toInt := by
  obtain ⟨h1, h2, h3⟩ := i_qr (x := x) hy
  have hq := i_div (x := x) hy
  have hr := Int.tmod_lt_of_pos x.toInt hy
  have hr2 := Int.lt_tmod_of_pos x.toInt hy
  have hc : y.toInt * x.toInt.tdiv y.toInt = x.toInt.tdiv y.toInt * y.toInt := Int.mul_comm ..
  unfold m_down
  by_cases h : 0 ≤ x - x / y * y
  · rw [if_pos h, hq]
    have h4 := (i_neg0 _).mp h
    rw [h2] at h4
    exact (fl_unique hy (by omega) (by omega)).symm
  · rw [if_neg h]
    have h4 : ¬ 0 ≤ x.toInt.tmod y.toInt := fun e => h ((i_neg0 _).mpr (by rw [h2]; exact e))
    have e1 : (1 : Int64).toInt = 1 := by decide
    have h5 : (x / y - 1).toInt = x.toInt.tdiv y.toInt - 1 := by
      have hl := Int64.le_toInt x
      have hx0 : x.toInt < 0 := by
        rcases Int.lt_or_le x.toInt 0 with e | e
        · exact e
        · exact absurd (Int.tmod_nonneg _ e) h4
      have hy2 : 2 ≤ y.toInt := by
        rcases Int.lt_or_le 1 y.toInt with e | e
        · omega
        · have : y.toInt = 1 := by omega
          omega
      have h6 : x.toInt < x.toInt.tdiv y.toInt := by
        have h7 : x.toInt.tdiv y.toInt ≤ 0 := by
          have h8 : 0 ≤ (-x.toInt).tdiv y.toInt := Int.tdiv_nonneg (by omega) (Int.le_of_lt hy)
          rw [Int.neg_tdiv] at h8
          omega
        have h9 : y.toInt * x.toInt.tdiv y.toInt ≤ x.toInt.tdiv y.toInt := by
          have h10 := Int.mul_le_mul_of_nonpos_right (a := y.toInt) (b := 1) (c := x.toInt.tdiv y.toInt) (by omega) h7
          rw [Int.one_mul] at h10
          exact h10
        omega
      have h11 := Int64.toInt_lt (x / y)
      rw [hq] at h11
      rw [i_sub (by rw [hq, e1]; omega) (by rw [hq, e1]; omega), hq, e1]
    rw [h5]
    have h12 : (x.toInt.tdiv y.toInt - 1) * y.toInt = x.toInt.tdiv y.toInt * y.toInt - y.toInt := by rw [Int.sub_mul, Int.one_mul]
    exact (fl_unique hy (by omega) (by omega)).symm
theorem one_toInt : ∀ h : Nat, h < 25 → (m_one (nI h)).toInt = 2 ^ h := by decide +kernel
theorem sh_amt : ∀ h : Nat, h < 25 → (((nI h).toInt64 &&& 63).toBitVec.smod 64).toNat = h := by decide +kernel
theorem one_le : ∀ h : Nat, h < 25 → (1 : Int) ≤ 2 ^ h ∧ (2 : Int) ^ h ≤ 16777216 := by decide +kernel
theorem shr_toInt (s : Int64) {h : Nat} (hh : h < 25) : (s >>> ((nI h).toInt64 &&& 63)).toInt = s.toInt / 2 ^ h := by
  rw [← Int64.toInt_toBitVec, Int64.toBitVec_shiftRight]
  show (s.toBitVec.sshiftRight ((((nI h).toInt64 &&& 63).toBitVec.smod 64).toNat)).toInt = _
  rw [sh_amt h hh, BitVec.toInt_sshiftRight, Int.shiftRight_eq_div_pow]
  rfl
/-- the floor by a power of two: a shift, or down -/
theorem down_shr (s : Int64) {h : Nat} (hh : h < 25) : m_down s (m_one (nI h)) = s >>> ((nI h).toInt64 &&& 63) := by
  apply Int64.toInt_inj.mp
  rw [shr_toInt s hh, down_toInt (by rw [one_toInt h hh]; have := (one_le h hh).1; omega), one_toInt h hh]
