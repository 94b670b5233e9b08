/-! sums over the latest samples, in the ring and in the reference's row -/
theorem sum_eq {fac wds fa ca : Nat → Int32} {rhd : Int32} {i : Nat} (ef : ∀ k : Nat, k < 32 → fac k = fa (32 * i + k)) (ew : ∀ k : Nat, k < 32 → wds (r_ix rhd (nI k)) = ca (32 * i + k)) : ∀ t : Nat, t ≤ 32 → s_sum fac wds rhd t = m_sum ca fa i t
  | 0, _ => rfl
  | t + 1, h => by
    show s_sum fac wds rhd t + (s_fac fac (nI t)).toInt64 * s_w wds rhd t = m_sum ca fa i t + (ca (32 * i + t)).toInt64 * (fa (32 * i + t)).toInt64
    rw [sum_eq ef ew t (by omega), fac_in (by omega), ef t (by omega), Int64.mul_comm]
    unfold s_w
    rw [ew t (by omega)]
theorem ex_eq {taps wds ta ca : Nat → Int32} {rhd : Int32} {i c : Nat} (hc : c ≤ 32) (et : ∀ k : Nat, k < 32 → taps k = ta (32 * i + k)) (ew : ∀ k : Nat, k < 32 → wds (r_ix rhd (nI k)) = ca (32 * i + k)) : ∀ t : Nat, t ≤ c → s_ex (nI c) taps wds rhd t = m_sum ca ta i t
  | 0, _ => rfl
  | t + 1, h => by
    show s_ex (nI c) taps wds rhd t + (s_tap (nI c) taps (nI t)).toInt64 * s_w wds rhd t = m_sum ca ta i t + (ca (32 * i + t)).toInt64 * (ta (32 * i + t)).toInt64
    rw [ex_eq hc et ew t (by omega), tap_in (by omega) hc, et t (by omega), Int64.mul_comm]
    unfold s_w
    rw [ew t (by omega)]
theorem sz_eq {wds ca : Nat → Int32} {rhd : Int32} {i : Nat} (ew : ∀ k : Nat, k < 32 → wds (r_ix rhd (nI k)) = ca (32 * i + k)) : ∀ t : Nat, t ≤ 32 → s_sz wds rhd t = m_szs ca i t
  | 0, _ => rfl
  | t + 1, h => by
    show s_sz wds rhd t + m_abs (s_w wds rhd t) = m_szs ca i t + m_abs (ca (32 * i + t)).toInt64
    rw [sz_eq ew t (by omega)]
    unfold s_w
    rw [ew t (by omega)]
/-- the row moved on by one -/
theorem m_dn_at : ∀ (K : Nat) (ca : Nat → Int32) (j q : Nat), m_dn ca j K q = if 32 * j < q ∧ q ≤ 32 * j + K then ca (q - 1) else ca q
  | 0, ca, j, q => by
    rw [if_neg (by omega)]
    rfl
  | K + 1, ca, j, q => by
    show m_dn (upd ca (32 * j + (K + 1)) (ca (32 * j + K))) j K q = _
    rw [m_dn_at K]
    by_cases h1 : 32 * j < q ∧ q ≤ 32 * j + K
    · rw [if_pos h1, if_pos (by omega), pk_un (by omega)]
    · rw [if_neg h1]
      by_cases h2 : q = 32 * j + (K + 1)
      · subst h2
        rw [pk_us, if_pos (by omega)]
        congr 1
      · rw [pk_un h2, if_neg (by omega)]
theorem r_ix_nI {r k : Nat} (hr : r < 32) (hk : k < 32) : r_ix (nI r) (nI k) = (r + k) % 32 := by
  unfold r_ix
  rw [nI_add, pk_andN (m := 31) (by omega) 5 (by decide), nI_clamp (by omega)]
theorem r_ph_nI : ∀ r : Nat, r < 32 → r_ph (nI r) = nI ((r + 31) % 32) := by decide +kernel
theorem short_id {x : Int32} (h1 : -32768 ≤ x.toInt) (h2 : x.toInt ≤ 32767) : vp_nar .short x.toInt16.toInt32 = x := by
  rw [vp_nar_short]
  apply Int32.toInt_inj.mp
  rw [Int16.toInt_toInt32, Int32.toInt_toInt16, Int16.toInt_toInt32, Int32.toInt_toInt16]
  have e : x.toInt.bmod (2 ^ 16) = x.toInt := Int.bmod_eq_of_le_mul_two (by omega) (by omega)
  rw [e, e]
theorem r_clr_at : ∀ (K : Nat) (wds : Nat → Int32) (q : Nat), K ≤ 32 → r_clr wds K q = if q < K then 0 else wds q
  | 0, wds, q, _ => by
    rw [if_neg (by omega)]
    rfl
  | K + 1, wds, q, h => by
    show upd (r_clr wds K) (nI K).toNatClampNeg (vp_nar .short 0) q = _
    rw [nI_clamp (by omega), show vp_nar .short 0 = 0 by decide]
    by_cases h2 : q = K
    · subst h2
      rw [pk_us, if_pos (by omega)]
    · rw [pk_un h2, r_clr_at K wds q (by omega)]
      by_cases h3 : q < K
      · rw [if_pos h3, if_pos (by omega)]
      · rw [if_neg h3, if_neg (by omega)]
theorem m_clr_at : ∀ (K : Nat) (ca : Nat → Int32) (j q : Nat), m_clr ca j K q = if 32 * j ≤ q ∧ q < 32 * j + K then 0 else ca q
  | 0, ca, j, q => by
    rw [if_neg (by omega)]
    rfl
  | K + 1, ca, j, q => by
    show upd (m_clr ca j K) (32 * j + K) 0 q = _
    by_cases h2 : q = 32 * j + K
    · subst h2
      rw [pk_us, if_pos (by omega)]
    · rw [pk_un h2, m_clr_at K]
      by_cases h3 : 32 * j ≤ q ∧ q < 32 * j + K
      · rw [if_pos h3, if_pos (by omega)]
      · rw [if_neg h3, if_neg (by omega)]
