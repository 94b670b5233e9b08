/-! ARITHMETIC: both sides' words for the same numbers -/
theorem i_add {x y : Int64} (h1 : -2 ^ 63 ≤ x.toInt + y.toInt) (h2 : x.toInt + y.toInt < 2 ^ 63) : (x + y).toInt = x.toInt + y.toInt := by
  rw [Int64.toInt_add]; exact Int.bmod_eq_of_le_mul_two (by omega) (by omega)
theorem i_sub {x y : Int64} (h1 : -2 ^ 63 ≤ x.toInt - y.toInt) (h2 : x.toInt - y.toInt < 2 ^ 63) : (x - y).toInt = x.toInt - y.toInt := by
  rw [Int64.toInt_sub]; exact Int.bmod_eq_of_le_mul_two (by omega) (by omega)
theorem i_mul {x y : Int64} (h1 : -2 ^ 63 ≤ x.toInt * y.toInt) (h2 : x.toInt * y.toInt < 2 ^ 63) : (x * y).toInt = x.toInt * y.toInt := by
  rw [Int64.toInt_mul]; exact Int.bmod_eq_of_le_mul_two (by omega) (by omega)
theorem i_div {x y : Int64} (hy : 0 < y.toInt) : (x / y).toInt = x.toInt.tdiv y.toInt := by
  refine Int64.toInt_div_of_ne_right _ _ (fun e => ?_)
  rw [e] at hy
  exact absurd hy (by decide)
theorem i_neg0 (z : Int64) : (0 ≤ z) ↔ 0 ≤ z.toInt := Int64.le_iff_toInt_le
/-- quotient toward 0 and rest, by a number over 0 -/
theorem i_qr {x y : Int64} (hy : 0 < y.toInt) : (x / y * y).toInt = y.toInt * x.toInt.tdiv y.toInt ∧ (x - x / y * y).toInt = x.toInt.tmod y.toInt ∧ y.toInt * x.toInt.tdiv y.toInt + x.toInt.tmod y.toInt = x.toInt := by
  have hq := i_div (x := x) hy
  have h0 : y.toInt * x.toInt.tdiv y.toInt + x.toInt.tmod y.toInt = x.toInt := Int.mul_tdiv_add_tmod ..
  have hx1 := Int64.le_toInt x
  have hx2 := Int64.toInt_lt x
  have hr : (0 ≤ x.toInt → 0 ≤ x.toInt.tmod y.toInt ∧ 0 ≤ y.toInt * x.toInt.tdiv y.toInt) ∧ (x.toInt < 0 → x.toInt.tmod y.toInt ≤ 0 ∧ y.toInt * x.toInt.tdiv y.toInt ≤ 0) := by
    refine ⟨fun h => ⟨Int.tmod_nonneg _ h, Int.mul_nonneg (Int.le_of_lt hy) (Int.tdiv_nonneg h (Int.le_of_lt hy))⟩, fun h => ?_⟩
    have h1 : 0 ≤ (-x.toInt).tmod y.toInt := Int.tmod_nonneg _ (by omega)
    have h2 : 0 ≤ (-x.toInt).tdiv y.toInt := Int.tdiv_nonneg (by omega) (Int.le_of_lt hy)
    rw [Int.neg_tmod] at h1
    rw [Int.neg_tdiv] at h2
    refine ⟨by omega, ?_⟩
    have h3 : 0 ≤ y.toInt * -(x.toInt.tdiv y.toInt) := Int.mul_nonneg (Int.le_of_lt hy) h2
    rw [Int.mul_neg] at h3
    omega
  have hm : (x / y * y).toInt = y.toInt * x.toInt.tdiv y.toInt := by
    have e : (x / y).toInt * y.toInt = y.toInt * x.toInt.tdiv y.toInt := by rw [hq, Int.mul_comm]
    rw [← e]
    refine i_mul ?_ ?_ <;> rw [e] <;> rcases Int.lt_or_le x.toInt 0 with h | h
    · have := hr.2 h; omega
    · have := hr.1 h; omega
    · have := hr.2 h; omega
    · have := hr.1 h; omega
  refine ⟨hm, ?_, h0⟩
  have e : x.toInt - (x / y * y).toInt = x.toInt.tmod y.toInt := by rw [hm]; omega
  rw [← e]
  refine i_sub ?_ ?_ <;> rw [e] <;> rcases Int.lt_or_le x.toInt 0 with h | h
  · have := hr.2 h; omega
  · have := hr.1 h; omega
  · have := hr.2 h; omega
  · have := hr.1 h; omega
theorem i_xor_nonneg (x y : Int64) : (0 ≤ x ^^^ y) ↔ ((0 ≤ x.toInt) ↔ (0 ≤ y.toInt)) := by
  have h : ∀ z : Int64, z.toBitVec.msb = decide (z.toInt < 0) := fun z => BitVec.msb_eq_toInt
  have h1 := h (x ^^^ y)
  rw [Int64.toBitVec_xor, BitVec.msb_xor, h x, h y] at h1
  rw [i_neg0]
  by_cases hx : x.toInt < 0 <;> by_cases hy : y.toInt < 0 <;> by_cases hz : (x ^^^ y).toInt < 0 <;> simp [hx, hy, hz] at h1 ⊢ <;> omega
/-- the class's floorDiv is the reference's down -/
theorem fdiv_down {x y : Int64} (hy : 0 < y.toInt) : m_fdiv x y = m_down x y := by
  obtain ⟨h1, h2, h3⟩ := i_qr (x := x) hy
  unfold m_fdiv m_down
  by_cases hx : 0 ≤ x.toInt
  · rw [if_pos ((i_xor_nonneg x y).mpr ⟨fun _ => Int.le_of_lt hy, fun _ => hx⟩), if_pos ((i_neg0 _).mpr (by rw [h2]; exact Int.tmod_nonneg _ hx))]
  · rw [if_neg (fun e => hx (((i_xor_nonneg x y).mp e).mpr (Int.le_of_lt hy)))]
    by_cases he : x / y * y = x
    · rw [if_pos he, if_pos ((i_neg0 _).mpr (by rw [he, Int64.sub_self]; decide))]
    · rw [if_neg he, if_neg (fun e => ?_)]
      have h4 := (i_neg0 _).mp e
      rw [h2] at h4
      have h5 : 0 ≤ (-x.toInt).tmod y.toInt := Int.tmod_nonneg _ (by omega)
      rw [Int.neg_tmod] at h5
      exact he (Int64.toInt_inj.mp (by rw [h1]; omega))
