/-! bounds -/
theorem prod_bd {a b : Int} (h1 : -32768 ≤ a) (h2 : a ≤ 32768) (h3 : -2147483648 ≤ b) (h4 : b ≤ 2147483648) : -70368744177664 ≤ a * b ∧ a * b ≤ 70368744177664 := by
  have k1 : 0 ≤ (32768 - a) * (2147483648 - b) := Int.mul_nonneg (by omega) (by omega)
  have k2 : 0 ≤ (32768 + a) * (2147483648 + b) := Int.mul_nonneg (by omega) (by omega)
  have k3 : 0 ≤ (32768 - a) * (2147483648 + b) := Int.mul_nonneg (by omega) (by omega)
  have k4 : 0 ≤ (32768 + a) * (2147483648 - b) := Int.mul_nonneg (by omega) (by omega)
  have e1 : (32768 - a) * (2147483648 - b) = 70368744177664 - 32768 * b - a * 2147483648 + a * b := by rw [Int.sub_mul, Int.mul_sub, Int.mul_sub]; omega
  have e2 : (32768 + a) * (2147483648 + b) = 70368744177664 + 32768 * b + a * 2147483648 + a * b := by rw [Int.add_mul, Int.mul_add, Int.mul_add]; omega
  have e3 : (32768 - a) * (2147483648 + b) = 70368744177664 + 32768 * b - a * 2147483648 - a * b := by rw [Int.sub_mul, Int.mul_add, Int.mul_add]; omega
  have e4 : (32768 + a) * (2147483648 - b) = 70368744177664 - 32768 * b + a * 2147483648 - a * b := by rw [Int.add_mul, Int.mul_sub, Int.mul_sub]; omega
  omega
theorem sum_bd {ca fa : Nat → Int32} {i : Nat} (h : ∀ k : Nat, k < 32 → -32768 ≤ (ca (32 * i + k)).toInt ∧ (ca (32 * i + k)).toInt ≤ 32767) : ∀ t : Nat, t ≤ 32 → -(70368744177664 * (t : Int)) ≤ (m_sum ca fa i t).toInt ∧ (m_sum ca fa i t).toInt ≤ 70368744177664 * (t : Int)
  | 0, _ => by
    show -(70368744177664 * ((0 : Nat) : Int)) ≤ (0 : Int64).toInt ∧ (0 : Int64).toInt ≤ 70368744177664 * ((0 : Nat) : Int)
    decide
  | t + 1, ht => by
    have ih := sum_bd (fa := fa) h t (by omega)
    have h1 := h t (by omega)
    have f1 := Int32.le_toInt (fa (32 * i + t))
    have f2 := Int32.toInt_lt (fa (32 * i + t))
    have p := prod_bd (a := (ca (32 * i + t)).toInt) (b := (fa (32 * i + t)).toInt) (by omega) (by omega) (by omega) (by omega)
    have e1 : ((ca (32 * i + t)).toInt64 * (fa (32 * i + t)).toInt64).toInt = (ca (32 * i + t)).toInt * (fa (32 * i + t)).toInt := by
      rw [i_mul, Int32.toInt_toInt64, Int32.toInt_toInt64] <;> rw [Int32.toInt_toInt64, Int32.toInt_toInt64] <;> omega
    have e2 : (m_sum ca fa i (t + 1)).toInt = (m_sum ca fa i t).toInt + (ca (32 * i + t)).toInt * (fa (32 * i + t)).toInt := by
      show (m_sum ca fa i t + (ca (32 * i + t)).toInt64 * (fa (32 * i + t)).toInt64).toInt = _
      rw [i_add (by rw [e1]; omega) (by rw [e1]; omega), e1]
    rw [e2]
    omega
theorem sum_60 {ca fa : Nat → Int32} {i t : Nat} (h : ∀ k : Nat, k < 32 → -32768 ≤ (ca (32 * i + k)).toInt ∧ (ca (32 * i + k)).toInt ≤ 32767) (ht : t ≤ 32) : -2 ^ 60 < (m_sum ca fa i t).toInt ∧ (m_sum ca fa i t).toInt < 2 ^ 60 := by
  have := sum_bd (fa := fa) h t ht
  omega
theorem held_rng (r : Int64) (wr : Int32) : -32768 ≤ (m_held r wr).toInt ∧ (m_held r wr).toInt ≤ 32767 := by
  unfold m_held
  by_cases hw : wr = 0
  · rw [if_pos hw]
    by_cases h1 : -32768 ≤ r
    · rw [if_pos h1]
      by_cases h2 : r ≤ 32767
      · rw [if_pos h2]
        have e1 : (-32768 : Int64).toInt = -32768 := by decide
        have e2 : (32767 : Int64).toInt = 32767 := by decide
        have g1 := Int64.le_iff_toInt_le.mp h1
        have g2 := Int64.le_iff_toInt_le.mp h2
        rw [Int64.toInt_toInt32, Int.bmod_eq_of_le_mul_two (by omega) (by omega)]
        omega
      · rw [if_neg h2]; decide
    · rw [if_neg h1]; decide
  · rw [if_neg hw, Int16.toInt_toInt32]
    have h1 := Int16.le_toInt r.toInt32.toInt16
    have h2 := Int16.toInt_lt r.toInt32.toInt16
    omega
theorem max_eq (g a : Int64) : m_max g a = if a ≤ g then g else a := by
  unfold m_max
  by_cases h : g < a
  · rw [if_pos h, if_neg (fun e => ?_)]
    exact Int64.lt_irrefl (Int64.lt_of_lt_of_le h e)
  · rw [if_neg h, if_pos (Int64.not_lt.mp h)]
