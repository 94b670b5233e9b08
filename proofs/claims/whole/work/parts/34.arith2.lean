theorem shl_mul (x y : Int64) : x * (1 <<< y) = x <<< y := by
  apply Int64.toBitVec_inj.mp
  rw [Int64.toBitVec_mul, Int64.toBitVec_shiftLeft, Int64.toBitVec_shiftLeft, BitVec.shiftLeft_eq', BitVec.shiftLeft_eq']
  exact BitVec.mul_twoPow_eq_shiftLeft ..
theorem and1 (x : Int64) : x &&& 1 = 0 ∨ x &&& 1 = 1 := by
  have h : (x &&& 1).toBitVec = BitVec.setWidth 64 (BitVec.ofBool (x.toBitVec.getLsbD 0)) := by
    rw [Int64.toBitVec_and]
    exact BitVec.and_one_eq_setWidth_ofBool_getLsbD
  cases hb : x.toBitVec.getLsbD 0
  · left
    apply Int64.toBitVec_inj.mp
    rw [h, hb]
    decide
  · right
    apply Int64.toBitVec_inj.mp
    rw [h, hb]
    decide
theorem odd_and (x : Int64) : s_odd x = decide (x &&& 1 = 1) := by
  unfold s_odd
  rcases and1 x with h | h <;> rw [h] <;> decide
theorem be_pos {b : Int32} (h : 1 ≤ b) : 0 < b.toInt64.toInt := by
  rw [Int32.toInt_toInt64]
  have := Int32.le_iff_toInt_le.mp h
  have e : (1 : Int32).toInt = 1 := by decide
  omega
/-- the nearest whole number: the class's and the reference's -/
theorem near_eq {t below sh : Int32} (hb : 1 ≤ below) : s_near t below sh = m_near (t.toInt64 <<< (sh.toInt64 &&& 63)) below.toInt64 := by
  unfold s_near
  rw [if_pos hb, shl_mul, fdiv_down (be_pos hb)]
  unfold s_near2 m_near
  rw [odd_and]
  by_cases h : m_down (t.toInt64 <<< (sh.toInt64 &&& 63)) below.toInt64 &&& 1 = 1
  · rw [if_pos h, decide_eq_true h]; rfl
  · rw [if_neg h, decide_eq_false h]; rfl
/-- held: the class's and the reference's -/
theorem held_eq (r : Int64) (wr : Int32) : s_held r wr = m_held r wr := by
  unfold s_held m_held
  by_cases hw : wr = 0
  · rw [if_pos hw, if_pos hw]
    unfold m_max m_min
    have e1 : (-32768 : Int64).toInt = -32768 := by decide
    have e2 : (32767 : Int64).toInt = 32767 := by decide
    by_cases h1 : r < 32767
    · rw [if_pos h1]
      have g1 := Int64.lt_iff_toInt_lt.mp h1
      by_cases h2 : -32768 < r
      · have g2 := Int64.lt_iff_toInt_lt.mp h2
        rw [if_pos h2, if_pos (Int64.le_iff_toInt_le.mpr (by omega)), if_pos (Int64.le_iff_toInt_le.mpr (by omega))]
      · rw [if_neg h2]
        have g2 : ¬ (-32768 : Int64).toInt < r.toInt := fun e => h2 (Int64.lt_iff_toInt_lt.mpr e)
        by_cases h3 : -32768 ≤ r
        · have g3 := Int64.le_iff_toInt_le.mp h3
          have : r = -32768 := Int64.toInt_inj.mp (by omega)
          subst this
          decide
        · rw [if_neg h3]; decide
    · rw [if_neg h1]
      have g1 : ¬ r.toInt < (32767 : Int64).toInt := fun e => h1 (Int64.lt_iff_toInt_lt.mpr e)
      rw [if_pos (by decide), if_pos (Int64.le_iff_toInt_le.mpr (by omega))]
      by_cases h2 : r ≤ 32767
      · have g2 := Int64.le_iff_toInt_le.mp h2
        have : r = 32767 := Int64.toInt_inj.mp (by omega)
        subst this
        decide
      · rw [if_neg h2]; decide
  · rw [if_neg hw, if_neg hw]
