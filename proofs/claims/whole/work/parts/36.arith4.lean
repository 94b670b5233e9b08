theorem i2_mul (x : Int64) (h1 : -2 ^ 62 ≤ x.toInt) (h2 : x.toInt < 2 ^ 62) : (2 * x).toInt = 2 * x.toInt := by
  have e2 : (2 : Int64).toInt = 2 := by decide
  rw [i_mul (by rw [e2]; omega) (by rw [e2]; omega), e2]
set_option maxHeartbeats 1000000 in
/-- rounded: the class's and the reference's -/
theorem round_eq {s : Int64} {h : Nat} (hh : h < 25) (hs1 : -2 ^ 60 < s.toInt) (hs2 : s.toInt < 2 ^ 60) {way : Int32} (hw : way = 0 ∨ way = 1 ∨ way = 2 ∨ way = 3) : s_round s (nI h) way = m_round s (nI h) way := by
  obtain ⟨p1, p2⟩ := one_le h hh
  have eP := one_toInt h hh
  have eF := shr_toInt s hh
  have eD := down_shr s hh
  have e1 : (1 : Int64).toInt = 1 := by decide
  have e0 : (0 : Int64).toInt = 0 := by decide
  unfold s_round m_round
  rw [show (1 : Int64) <<< ((nI h).toInt64 &&& 63) = m_one (nI h) from rfl] at *
  generalize hone : m_one (nI h) = one at *
  generalize hfl : s >>> ((nI h).toInt64 &&& 63) = fl at *
  generalize hP : (2 : Int) ^ h = P at *
  have hP0 : 0 < P := by omega
  have hm := Int.mul_ediv_add_emod s.toInt P
  have hr1 := Int.emod_nonneg s.toInt (show P ≠ 0 by omega)
  have hr2 := Int.emod_lt_of_pos s.toInt hP0
  have hc : P * (s.toInt / P) = s.toInt / P * P := Int.mul_comm ..
  generalize hF : s.toInt / P = F at *
  generalize hR : s.toInt % P = R at *
  have hmul : (fl * one).toInt = F * P := by
    rw [i_mul (by rw [eF, eP]; omega) (by rw [eF, eP]; omega), eF, eP]
  have hrest : (s - fl * one).toInt = R := by
    rw [i_sub (by rw [hmul]; omega) (by rw [hmul]; omega), hmul]
    omega
  have hFb : -2 ^ 60 - 1 ≤ F ∧ F ≤ 2 ^ 60 := by
    rw [← hF]
    refine ⟨?_, ?_⟩
    · refine (Int.le_ediv_iff_mul_le hP0).mpr ?_
      have : (-2 ^ 60 - 1) * P ≤ (-2 ^ 60 - 1) * 1 := Int.mul_le_mul_of_nonpos_left (by decide) p1
      omega
    · have h9 : s.toInt / P < 2 ^ 60 + 1 := (Int.ediv_lt_iff_lt_mul hP0).mpr (by
        have : (2 ^ 60 + 1) * 1 ≤ (2 ^ 60 + 1) * P := Int.mul_le_mul_of_nonneg_left p1 (by decide)
        omega)
      omega
  have hfl1 : (fl + 1).toInt = F + 1 := by rw [i_add (by rw [eF, e1]; omega) (by rw [eF, e1]; omega), eF, e1]
  have h2r : (2 * (s - fl * one)).toInt = 2 * R := by rw [i2_mul _ (by rw [hrest]; omega) (by rw [hrest]; omega), hrest]
  rcases hw with rfl | rfl | rfl | rfl
  · rw [if_neg (show ¬ (0 : Int32) = 1 by decide), if_neg (show ¬ (0 : Int32) = 2 by decide), if_neg (show ¬ (0 : Int32) = 3 by decide), if_pos (show (0 : Int32) = 0 from rfl), eD]
  · rw [if_pos (show (1 : Int32) = 1 from rfl), if_neg (show ¬ (1 : Int32) = 0 by decide), if_pos (show (1 : Int32) = 1 from rfl)]
    apply Int64.toInt_inj.mp
    rw [i_div (by rw [eP]; exact hP0), eP]
    by_cases hx : 0 ≤ s
    · rw [if_pos hx, eF, Int.tdiv_eq_ediv_of_nonneg ((i_neg0 _).mp hx), hF]
    · rw [if_neg hx]
      have hx0 : s.toInt < 0 := by
        rcases Int.lt_or_le s.toInt 0 with e | e
        · exact e
        · exact absurd ((i_neg0 _).mpr e) hx
      have t0 := Int.mul_tdiv_add_tmod s.toInt P
      have t1 := Int.lt_tmod_of_pos s.toInt hP0
      have t2 : s.toInt.tmod P ≤ 0 := by
        have h8 : 0 ≤ (-s.toInt).tmod P := Int.tmod_nonneg _ (by omega)
        rw [Int.neg_tmod] at h8
        omega
      have tc_ : P * s.toInt.tdiv P = s.toInt.tdiv P * P := Int.mul_comm ..
      have hle : (s - fl * one ≤ 0) ↔ R ≤ 0 := by rw [Int64.le_iff_toInt_le, hrest, e0]
      by_cases ht : s.toInt.tmod P = 0
      · have hFT : F = s.toInt.tdiv P := by rw [← hF]; exact fl_unique hP0 (by omega) (by omega)
        have hR0 : R = 0 := by rw [hFT] at hm hc; omega
        rw [if_pos (hle.mpr (by omega)), eF, hFT]
      · have h7 : (s.toInt.tdiv P - 1) * P = s.toInt.tdiv P * P - P := by rw [Int.sub_mul, Int.one_mul]
        have hFT : F = s.toInt.tdiv P - 1 := by rw [← hF]; exact fl_unique hP0 (by omega) (by omega)
        have hR0 : 0 < R := by rw [hFT] at hm hc; omega
        rw [if_neg (fun e => by have := hle.mp e; omega), hfl1]
        omega
  · rw [if_neg (show ¬ (2 : Int32) = 1 by decide), if_pos (show (2 : Int32) = 2 from rfl), if_neg (show ¬ (2 : Int32) = 0 by decide), if_neg (show ¬ (2 : Int32) = 1 by decide), if_pos (show (2 : Int32) = 2 from rfl)]
    apply Int64.toInt_inj.mp
    have q1 : (2 * one).toInt = 2 * P := by rw [i2_mul _ (by rw [eP]; omega) (by rw [eP]; omega), eP]
    have q2 : (2 * s).toInt = 2 * s.toInt := i2_mul _ (by omega) (by omega)
    have q3 : (2 * s + one).toInt = 2 * s.toInt + P := by rw [i_add (by rw [q2, eP]; omega) (by rw [q2, eP]; omega), q2, eP]
    rw [down_toInt (by rw [q1]; omega), q1, q3]
    have q4 : F * (2 * P) = 2 * (F * P) := by rw [← Int.mul_assoc, Int.mul_comm F 2, Int.mul_assoc]
    have q5 : (F + 1) * (2 * P) = 2 * (F * P) + 2 * P := by rw [Int.add_mul, Int.one_mul, q4]
    by_cases hlt : 2 * (s - fl * one) < one
    · have g := Int64.lt_iff_toInt_lt.mp hlt
      rw [h2r, eP] at g
      rw [if_pos hlt, eF]
      exact (fl_unique (by omega) (by omega) (by omega)).symm
    · have g : ¬ 2 * R < P := fun e => hlt (Int64.lt_iff_toInt_lt.mpr (by rw [h2r, eP]; exact e))
      rw [if_neg hlt, hfl1]
      exact (fl_unique (by omega) (by omega) (by omega)).symm
  · rw [if_neg (show ¬ (3 : Int32) = 1 by decide), if_neg (show ¬ (3 : Int32) = 2 by decide), if_pos (show (3 : Int32) = 3 from rfl), if_neg (show ¬ (3 : Int32) = 0 by decide), if_neg (show ¬ (3 : Int32) = 1 by decide), if_neg (show ¬ (3 : Int32) = 2 by decide)]
    unfold m_near
    rw [eD, odd_and]
    by_cases ho : fl &&& 1 = 1
    · rw [if_pos ho, decide_eq_true ho]; rfl
    · rw [if_neg ho, decide_eq_false ho]; rfl
