/-! THE LAW'S WORLD: the class's cells from place 1 on, the reference's from 10 on, the stages' from 38 on -/
theorem stg_blk {f : q_Hp} {b cnt p : Nat} {S : Nat → q_St} {es : List q_E} (h : p + es.length ≤ b) : stg (q_blk f p es) b cnt S = q_blk (stg f b cnt S) p es := by
  funext q
  unfold stg q_blk
  by_cases h1 : p ≤ q ∧ q < p + es.length
  · rw [if_pos h1, if_neg (by omega), if_pos h1]
  · rw [if_neg h1, if_neg h1]
theorem mE_len (o cnt cl tn : Nat) (lost : Int32) (be by_ tc ta wa wr pl bi wo sh fa ca ph : Nat → Int32) (cm km gr : Nat → Int64) (kp : Nat → Int32) (su ro : Nat → Int64) (ou : Nat → Int32) (ex sz : Nat → Int64) (ww ch tp ir ow : Nat → Int32) : (mE o cnt cl tn lost be by_ tc ta wa wr pl bi wo sh fa ca ph cm km gr kp su ro ou ex sz ww ch tp ir ow).length = 28 := rfl
def lW (cnt : Nat) (S : Nat → q_St) (eX eM : List q_E) : q_Hp := q_blk (stg (q_blk (fun _ => none) 10 eM) 38 cnt S) 1 eX
theorem lW_swap {cnt : Nat} {S : Nat → q_St} {eX eM : List q_E} (hX : eX.length = 9) (hM : eM.length = 28) : lW cnt S eX eM = q_blk (q_blk (stg (fun _ => none) 38 cnt S) 1 eX) 10 eM := by
  unfold lW
  rw [stg_blk (by omega), q_blk_comm (by omega)]
theorem lW_1 {cnt : Nat} {S : Nat → q_St} {eX eM : List q_E} {e : q_E} (h : eX[0]? = some e) : lW cnt S eX eM 1 = some e := q_blk_get (p := 1) (j := 0) h
theorem lW_8 {cnt : Nat} {S : Nat → q_St} {eX eM : List q_E} {e : q_E} (hX : eX.length = 9) (hM : eM.length = 28) (h : eM[0]? = some e) : lW cnt S eX eM 10 = some e := by
  rw [lW_swap hX hM]
  exact q_blk_get (p := 10) (j := 0) h
theorem lW_M {cnt : Nat} {S : Nat → q_St} {eX eM eM' : List q_E} {y : MethodName} {u : q_M} {as : List Value} {n n' : Nat} {r : Option Value} (hX : eX.length = 9) (hM : eM.length = 28) (hM' : eM'.length = 28) (h : Sp y u as n (q_blk (q_blk (stg (fun _ => none) 38 cnt S) 1 eX) 10 eM) (r, n', q_blk (q_blk (stg (fun _ => none) 38 cnt S) 1 eX) 10 eM')) : Sp y u as n (lW cnt S eX eM) (r, n', lW cnt S eX eM') := by
  rw [lW_swap hX hM, lW_swap hX hM']
  exact h
/-- the start -/
theorem lW_0 {S : Nat → q_St} {eX eM : List q_E} (hX : eX.length = 9) (hM : eM.length = 28) : q_blk (q_blk (fun _ => none) 1 eX) 10 eM = lW 0 S eX eM := by
  rw [lW_swap hX hM]
  congr 2
  funext q
  unfold stg
  rw [if_neg (by omega)]
theorem xrf_0 (b : Nat) : (fun _ => none) = xrf b 0 := by
  funext i
  unfold xrf
  rw [if_neg (by omega)]
/-! safe: the class's and the reference's -/
theorem tap_in {c k : Nat} {taps : Nat → Int32} (hk : k < c) (hc : c ≤ 32) : s_tap (nI c) taps (nI k) = taps k := by
  have h1 : ¬ nI k < 0 := nI_pos (by omega)
  have h2 : ¬ nI c ≤ nI k := nI_ge hk (by omega)
  have h3 : ¬ (32 : Int32) ≤ nI k := q_ge32 (by omega)
  unfold s_tap s_ok
  simp only [h1, h2, h3, decide_false, Bool.not_false, Bool.and_self, cond_true]
  rw [nI_clamp (by omega)]
theorem fac_in {k : Nat} {fac : Nat → Int32} (hk : k < 32) : s_fac fac (nI k) = fac k := by
  have h1 : ¬ nI k < 0 := nI_pos (by omega)
  have h3 : ¬ (32 : Int32) ≤ nI k := q_ge32 (by omega)
  unfold s_fac k_in32
  simp only [h1, h3, decide_false, Bool.not_false, Bool.and_self, cond_true]
  rw [nI_clamp (by omega)]
theorem safe_eq {mc ms : Int64} {c i : Nat} {below ss : Int32} {taps ta be : Nat → Int32} (hc : c ≤ 32) (hc0 : 0 < c) (hb : 1 ≤ below) (eb : below = be i) (et : ∀ k : Nat, k < 32 → taps k = ta (32 * i + k)) : ∀ (k t : Nat) (acc : Int64), t + k = c → s_safe mc ms (nI c) below taps ss k t acc = m_safe mc ms ta be i ss k t acc
  | 0, t, acc, _ => by
    unfold s_safe m_safe
    have h1 : ¬ nI c ≤ 0 := nI_nle hc0 (by omega)
    simp only [h1, decide_false, Bool.not_false, Bool.true_and]
  | k + 1, t, acc, h => by
    have e1 : s_near (s_tap (nI c) taps (nI t)) below ss = m_fac ta be i t ss := by
      rw [tap_in (by omega) hc, near_eq hb, et t (by omega), eb]
      rfl
    unfold s_safe m_safe
    rw [e1]
    split
    · exact safe_eq hc hc0 hb eb et k (t + 1) _ (by omega)
    · rfl
