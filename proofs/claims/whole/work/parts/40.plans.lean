/-! plans: coefficients and norm, on both sides -/
theorem k_in_t {k : Nat} (hk : k < 32) : k_in32 (nI k) = true := by
  have h1 : ¬ nI k < 0 := nI_pos (by omega)
  have h3 : ¬ (32 : Int32) ≤ nI k := q_ge32 (by omega)
  unfold k_in32
  simp [h1, h3]
theorem sv_eq {c i t : Nat} {below ss : Int32} {taps ta be : Nat → Int32} (hc : c ≤ 32) (ht : t < c) (hb : 1 ≤ below) (eb : below = be i) (et : ∀ k : Nat, k < 32 → taps k = ta (32 * i + k)) : s_v (nI c) below taps ss t = (m_fac ta be i t ss).toInt32 := by
  unfold s_v
  rw [tap_in ht hc, near_eq hb, et t (by omega), eb]
  rfl
theorem pf_at {c i : Nat} {below ss : Int32} {taps ta be fac : Nat → Int32} (hc : c ≤ 32) (hb : 1 ≤ below) (eb : below = be i) (et : ∀ k : Nat, k < 32 → taps k = ta (32 * i + k)) : ∀ (t q : Nat), t ≤ c → s_pf (nI c) below taps ss fac t q = if q < t then (m_fac ta be i q ss).toInt32 else fac q
  | 0, q, _ => by
    rw [if_neg (by omega)]
    rfl
  | t + 1, q, h => by
    show (bif k_in32 (nI t) then upd (s_pf (nI c) below taps ss fac t) (nI t).toNatClampNeg (s_v (nI c) below taps ss t) else s_pf (nI c) below taps ss fac t) q = _
    rw [k_in_t (by omega), cond_true, nI_clamp (by omega), sv_eq hc (by omega) hb eb et]
    by_cases h2 : q = t
    · subst h2
      rw [pk_us, if_pos (by omega)]
    · rw [pk_un h2, pf_at hc hb eb et t q (by omega)]
      by_cases h3 : q < t
      · rw [if_pos h3, if_pos (by omega)]
      · rw [if_neg h3, if_neg (by omega)]
theorem mpf_at {ta be fa : Nat → Int32} {j : Nat} {mv : Int32} : ∀ (t q : Nat), m_pf ta be j mv fa t q = if 32 * j ≤ q ∧ q < 32 * j + t then (m_fac ta be j (q - 32 * j) mv).toInt32 else fa q
  | 0, q => by
    rw [if_neg (by omega)]
    rfl
  | t + 1, q => by
    show upd (m_pf ta be j mv fa t) (32 * j + t) (m_fac ta be j t mv).toInt32 q = _
    by_cases h2 : q = 32 * j + t
    · subst h2
      rw [pk_us, if_pos (by omega), show 32 * j + t - 32 * j = t by omega]
    · rw [pk_un h2, mpf_at t q]
      by_cases h3 : 32 * j ≤ q ∧ q < 32 * j + t
      · rw [if_pos h3, if_pos (by omega)]
      · rw [if_neg h3, if_neg (by omega)]
/-- the coefficients are alike -/
theorem pf_eq {c i : Nat} {below ss : Int32} {taps ta be fac fa : Nat → Int32} (hc : c ≤ 32) (hb : 1 ≤ below) (eb : below = be i) (et : ∀ k : Nat, k < 32 → taps k = ta (32 * i + k)) (ef : ∀ k : Nat, k < 32 → fac k = fa (32 * i + k)) : ∀ k : Nat, k < 32 → s_pf (nI c) below taps ss fac c k = m_pf ta be i ss fa c (32 * i + k) := by
  intro k hk
  rw [pf_at hc hb eb et c k (Nat.le_refl c), mpf_at]
  by_cases h : k < c
  · rw [if_pos h, if_pos (by omega), show 32 * i + k - 32 * i = k by omega]
  · rw [if_neg h, if_neg (by omega), ef k hk]
/-! what reads alike from both ends -/
theorem mir_bits (p q : Prop) [Decidable p] [Decidable q] (a b : Bool) : ((bif a then (1 : Int32) else 0) + (bif b then 2 else 0)) &&& ((if p then 1 else 0) ||| (if q then 2 else 0)) = (bif (a && decide p) then 1 else 0) + (bif (b && decide q) then 2 else 0) := by
  by_cases hp : p <;> by_cases hq : q <;> simp only [hp, hq, if_true, if_false, decide_true, decide_false] <;> cases a <;> cases b <;> decide
theorem al_eq {c i : Nat} {taps ta : Nat → Int32} (hc : c ≤ 32) (et : ∀ k : Nat, k < 32 → taps k = ta (32 * i + k)) : ∀ t : Nat, t ≤ c → m_mir ta i c t = (bif s_al (nI c) taps t then 1 else 0) + (bif s_tu (nI c) taps t then 2 else 0)
  | 0, _ => rfl
  | t + 1, h => by
    have e2 : nI c - 1 - nI t = nI (c - 1 - t) := by rw [x_pred (by omega), pk_sub (by omega)]
    have hs1 : s_al (nI c) taps (t + 1) = (s_al (nI c) taps t && decide (ta (32 * i + t) = ta (32 * i + (c - 1 - t)))) := by
      show (s_al (nI c) taps t && decide (s_tap (nI c) taps (nI t) = s_tap (nI c) taps (nI c - 1 - nI t))) = _
      rw [e2, tap_in (by omega) hc, tap_in (by omega) hc, et t (by omega), et (c - 1 - t) (by omega)]
    have hs2 : s_tu (nI c) taps (t + 1) = (s_tu (nI c) taps t && decide (ta (32 * i + t) = -ta (32 * i + (c - 1 - t)))) := by
      show (s_tu (nI c) taps t && decide (s_tap (nI c) taps (nI t) = -s_tap (nI c) taps (nI c - 1 - nI t))) = _
      rw [e2, tap_in (by omega) hc, tap_in (by omega) hc, et t (by omega), et (c - 1 - t) (by omega)]
    rw [m_mir_s, al_eq hc et t (by omega), hs1, hs2]
    exact mir_bits _ _ _ _
/-! rows of a digest -/
theorem e2_eq1 {c i : Nat} {taps ta : Nat → Int32} {g : Int64} (hc : c ≤ 32) (et : ∀ k : Nat, k < 32 → taps k = ta (32 * i + k)) : ∀ t : Nat, t ≤ c → x_m1 (nI c) taps g t = m_e2 ta i g t
  | 0, _ => rfl
  | t + 1, h => by
    show 31 * x_m1 (nI c) taps g t + (s_tap (nI c) taps (nI t)).toInt64 = 31 * m_e2 ta i g t + (ta (32 * i + t)).toInt64
    rw [e2_eq1 hc et t (by omega), tap_in (by omega) hc, et t (by omega)]
theorem e2_eq2 {i : Nat} {fac fa : Nat → Int32} {g : Int64} (ef : ∀ k : Nat, k < 32 → fac k = fa (32 * i + k)) : ∀ t : Nat, t ≤ 32 → x_m2 fac g t = m_e2 fa i g t
  | 0, _ => rfl
  | t + 1, h => by
    show 31 * x_m2 fac g t + (s_fac fac (nI t)).toInt64 = 31 * m_e2 fa i g t + (fa (32 * i + t)).toInt64
    rw [e2_eq2 ef t (by omega), fac_in (by omega), ef t (by omega)]
theorem e2_eq3 {i : Nat} {wds ca : Nat → Int32} {rhd : Int32} {g : Int64} (ew : ∀ k : Nat, k < 32 → wds (r_ix rhd (nI k)) = ca (32 * i + k)) : ∀ t : Nat, t ≤ 32 → x_m3 wds rhd g t = m_e2 ca i g t
  | 0, _ => rfl
  | t + 1, h => by
    show 31 * x_m3 wds rhd g t + s_w wds rhd t = 31 * m_e2 ca i g t + (ca (32 * i + t)).toInt64
    rw [e2_eq3 ew t (by omega)]
    unfold s_w
    rw [ew t (by omega)]
