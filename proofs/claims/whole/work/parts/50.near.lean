/-! bounds for near -/
theorem near_bd {v w : Int64} (hw : 0 < w.toInt) (hw2 : w.toInt ≤ 1073741824) (h1 : -2 ^ 60 < v.toInt) (h2 : v.toInt < 2 ^ 60) : v.toInt - w.toInt ≤ (m_near v w).toInt * w.toInt ∧ (m_near v w).toInt * w.toInt ≤ v.toInt + w.toInt := by
  have ed := down_toInt (x := v) hw
  have a1 := Int.mul_ediv_add_emod v.toInt w.toInt
  have a2 := Int.emod_nonneg v.toInt (show w.toInt ≠ 0 by omega)
  have a3 := Int.emod_lt_of_pos v.toInt hw
  have r1 := Int64.le_toInt (m_down v w)
  have r2 := Int64.toInt_lt (m_down v w)
  rw [ed] at r1 r2
  have hq : v.toInt / w.toInt ≠ 9223372036854775807 := by
    intro e
    rw [e] at a1
    omega
  have o1 : (1 : Int64).toInt = 1 := by decide
  have e1 : (m_down v w + 1).toInt = v.toInt / w.toInt + 1 := by
    rw [i_add, ed, o1] <;> rw [ed, o1] <;> omega
  have c0 : (m_down v w).toInt * w.toInt = w.toInt * (v.toInt / w.toInt) := by rw [ed, Int.mul_comm]
  have c1 : (m_down v w + 1).toInt * w.toInt = w.toInt * (v.toInt / w.toInt) + w.toInt := by rw [e1, Int.add_mul, Int.one_mul, Int.mul_comm]
  have k0 : v.toInt - w.toInt ≤ (m_down v w).toInt * w.toInt ∧ (m_down v w).toInt * w.toInt ≤ v.toInt + w.toInt := by
    rw [c0]
    omega
  have k1 : v.toInt - w.toInt ≤ (m_down v w + 1).toInt * w.toInt ∧ (m_down v w + 1).toInt * w.toInt ≤ v.toInt + w.toInt := by
    rw [c1]
    omega
  unfold m_near
  split
  · exact k1
  · split
    · split
      · exact k1
      · exact k0
    · exact k0
theorem round_bd {s : Int64} {h : Nat} (hh : h < 25) (hs1 : -2 ^ 60 < s.toInt) (hs2 : s.toInt < 2 ^ 60) {way : Int32} : s.toInt - 2 ^ h ≤ (m_round s (nI h) way).toInt * 2 ^ h ∧ (m_round s (nI h) way).toInt * 2 ^ h ≤ s.toInt + 2 ^ h := by
  have e1 := one_toInt h hh
  obtain ⟨l1, l2⟩ := one_le h hh
  have hp : 0 < (m_one (nI h)).toInt := by rw [e1]; omega
  unfold m_round
  by_cases w0 : way = 0
  · rw [if_pos w0, down_toInt hp, e1]
    have a1 := Int.mul_ediv_add_emod s.toInt (2 ^ h)
    have a2 := Int.emod_nonneg s.toInt (show (2 : Int) ^ h ≠ 0 by omega)
    have a3 := Int.emod_lt_of_pos s.toInt (show (0 : Int) < 2 ^ h by omega)
    rw [Int.mul_comm]
    omega
  · rw [if_neg w0]
    by_cases w1 : way = 1
    · rw [if_pos w1, i_div hp, e1]
      have a1 := Int.mul_tdiv_add_tmod s.toInt (2 ^ h)
      have a2 := Int.tmod_lt_of_pos s.toInt (show (0 : Int) < 2 ^ h by omega)
      have a3 : -(2 ^ h) < Int.tmod s.toInt (2 ^ h) := by
        have := Int.lt_tmod_of_pos s.toInt (show (0 : Int) < 2 ^ h by omega)
        exact this
      rw [Int.mul_comm]
      omega
    · rw [if_neg w1]
      by_cases w2 : way = 2
      · have t2 : (2 * m_one (nI h)).toInt = 2 * 2 ^ h := by rw [i2_mul _ (by rw [e1]; omega) (by rw [e1]; omega), e1]
        have s2 : (2 * s).toInt = 2 * s.toInt := i2_mul _ (by omega) (by omega)
        have u2 : (2 * s + m_one (nI h)).toInt = 2 * s.toInt + 2 ^ h := by rw [i_add, s2, e1] <;> rw [s2, e1] <;> omega
        rw [if_pos w2, down_toInt (by rw [t2]; omega), u2, t2]
        have a1 := Int.mul_ediv_add_emod (2 * s.toInt + 2 ^ h) (2 * 2 ^ h)
        have a2 := Int.emod_nonneg (2 * s.toInt + 2 ^ h) (show (2 : Int) * 2 ^ h ≠ 0 by omega)
        have a3 := Int.emod_lt_of_pos (2 * s.toInt + 2 ^ h) (show (0 : Int) < 2 * 2 ^ h by omega)
        rw [Int.mul_assoc] at a1
        rw [Int.mul_comm ((2 * s.toInt + 2 ^ h) / (2 * 2 ^ h)) (2 ^ h)]
        omega
      · rw [if_neg w2]
        have := near_bd (v := s) hp (by rw [e1]; omega) hs1 hs2
        rw [e1] at this
        exact this
theorem abs_toInt {x : Int64} (h : -2 ^ 62 ≤ x.toInt) : (m_abs x).toInt = if 0 ≤ x.toInt then x.toInt else -x.toInt := by
  unfold m_abs
  by_cases h0 : 0 ≤ x
  · rw [if_pos h0, if_pos ((i_neg0 x).mp h0)]
  · have h1 : ¬ 0 ≤ x.toInt := fun e => h0 ((i_neg0 x).mpr e)
    have h2 := Int64.toInt_lt x
    rw [if_neg h0, if_neg h1, Int64.toInt_neg, Int.bmod_eq_of_le_mul_two (by omega) (by omega)]
theorem prod_ab {A L a y : Int} (h1 : -A ≤ a) (h2 : a ≤ A) (h3 : -L ≤ y) (h4 : y ≤ L) : -(A * L) ≤ a * y ∧ a * y ≤ A * L := by
  have k1 : 0 ≤ (A - a) * (L - y) := Int.mul_nonneg (by omega) (by omega)
  have k2 : 0 ≤ (A + a) * (L + y) := Int.mul_nonneg (by omega) (by omega)
  have k3 : 0 ≤ (A - a) * (L + y) := Int.mul_nonneg (by omega) (by omega)
  have k4 : 0 ≤ (A + a) * (L - y) := Int.mul_nonneg (by omega) (by omega)
  rw [Int.sub_mul, Int.mul_sub, Int.mul_sub] at k1
  rw [Int.add_mul, Int.mul_add, Int.mul_add] at k2
  rw [Int.sub_mul, Int.mul_add, Int.mul_add] at k3
  rw [Int.add_mul, Int.mul_sub, Int.mul_sub] at k4
  omega
theorem sum_s {ca fa : Nat → Int32} {i t : Nat} (h : ∀ k : Nat, k < 32 → -32768 ≤ (ca (32 * i + k)).toInt ∧ (ca (32 * i + k)).toInt ≤ 32767) (ht : t < 32) : (m_sum ca fa i (t + 1)).toInt = (m_sum ca fa i t).toInt + (ca (32 * i + t)).toInt * (fa (32 * i + t)).toInt := by
  have ih := sum_bd (fa := fa) h t (by omega)
  have h1 := h t (by omega)
  have f1 := Int32.le_toInt (fa (32 * i + t))
  have f2 := Int32.toInt_lt (fa (32 * i + t))
  have p := prod_bd (a := (ca (32 * i + t)).toInt) (b := (fa (32 * i + t)).toInt) (by omega) (by omega) (by omega) (by omega)
  have e1 : ((ca (32 * i + t)).toInt64 * (fa (32 * i + t)).toInt64).toInt = (ca (32 * i + t)).toInt * (fa (32 * i + t)).toInt := by
    rw [i_mul, Int32.toInt_toInt64, Int32.toInt_toInt64] <;> rw [Int32.toInt_toInt64, Int32.toInt_toInt64] <;> omega
  show (m_sum ca fa i t + (ca (32 * i + t)).toInt64 * (fa (32 * i + t)).toInt64).toInt = _
  rw [i_add (by rw [e1]; omega) (by rw [e1]; omega), e1]
theorem sum_bdK {ca fa : Nat → Int32} {i c : Nat} {K L : Int} (hc : c ≤ 32) (h : ∀ k : Nat, k < 32 → -32768 ≤ (ca (32 * i + k)).toInt ∧ (ca (32 * i + k)).toInt ≤ 32767) (hL : ∀ k : Nat, k < c → -L ≤ (fa (32 * i + k)).toInt * K ∧ (fa (32 * i + k)).toInt * K ≤ L) : ∀ t : Nat, t ≤ c → -((t : Int) * (32768 * L)) ≤ (m_sum ca fa i t).toInt * K ∧ (m_sum ca fa i t).toInt * K ≤ (t : Int) * (32768 * L)
  | 0, _ => by
    show -(((0 : Nat) : Int) * (32768 * L)) ≤ (0 : Int64).toInt * K ∧ (0 : Int64).toInt * K ≤ ((0 : Nat) : Int) * (32768 * L)
    rw [show (0 : Int64).toInt = 0 by decide, show ((0 : Nat) : Int) = 0 from rfl, Int.zero_mul, Int.zero_mul]
    omega
  | t + 1, ht => by
    have ih := sum_bdK hc h hL t (by omega)
    have h1 := h t (by omega)
    have h2 := hL t (by omega)
    have p := prod_ab (A := 32768) (L := L) (a := (ca (32 * i + t)).toInt) (y := (fa (32 * i + t)).toInt * K) (by omega) (by omega) h2.1 h2.2
    rw [sum_s h (by omega), Int.add_mul, Int.mul_assoc, show ((t + 1 : Nat) : Int) * (32768 * L) = (t : Int) * (32768 * L) + 32768 * L by rw [Int.natCast_add, Int.add_mul]; omega]
    omega
theorem szs_bd {ca : Nat → Int32} {i : Nat} (h : ∀ k : Nat, k < 32 → -32768 ≤ (ca (32 * i + k)).toInt ∧ (ca (32 * i + k)).toInt ≤ 32767) : ∀ t : Nat, t ≤ 32 → 0 ≤ (m_szs ca i t).toInt ∧ (m_szs ca i t).toInt ≤ 32768 * (t : Int)
  | 0, _ => by
    show 0 ≤ (0 : Int64).toInt ∧ (0 : Int64).toInt ≤ 32768 * ((0 : Nat) : Int)
    decide
  | t + 1, ht => by
    have ih := szs_bd h t (by omega)
    have h1 := h t (by omega)
    have e := abs_toInt (x := (ca (32 * i + t)).toInt64) (by rw [Int32.toInt_toInt64]; omega)
    rw [Int32.toInt_toInt64] at e
    have e2 : 0 ≤ (m_abs (ca (32 * i + t)).toInt64).toInt ∧ (m_abs (ca (32 * i + t)).toInt64).toInt ≤ 32768 := by
      rw [e]
      split <;> omega
    show 0 ≤ (m_szs ca i t + m_abs (ca (32 * i + t)).toInt64).toInt ∧ (m_szs ca i t + m_abs (ca (32 * i + t)).toInt64).toInt ≤ 32768 * ((t + 1 : Nat) : Int)
    rw [i_add (by omega) (by omega)]
    omega
