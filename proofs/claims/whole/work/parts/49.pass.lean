theorem in_rel {be by_ tc ta wa wr pl bi wo sh fa : Nat → Int32} {i : Nat} {x : Int32} {w : q_Om} {v : q_Og} (hx1 : -32768 ≤ x.toInt) (hx2 : x.toInt ≤ 32767) (h : RO i be by_ tc ta wa wr pl bi wo sh fa w v) : ∀ k : Nat, v.2.1 + k ≤ 16 → RO i be by_ tc ta wa wr pl bi wo sh fa (P_in x w k) (G_in tc ta wa wr sh fa i (m_thin (by_ i)) x v k)
  | 0, _ => h
  | k + 1, hk => by
    have ih := in_rel hx1 hx2 h k (by omega)
    have hle := G_in_le (tc := tc) (ta := ta) (wa := wa) (wr := wr) (sh := sh) (fa := fa) (j := i) (th := m_thin (by_ i)) (x := x) (w0 := v) k
    have e0 : (0 : Int32).toInt = 0 := by decide
    show RO i be by_ tc ta wa wr pl bi wo sh fa (P_step (if nI k = 0 then x else 0) (P_in x w k)) (G_step tc ta wa wr sh fa i (m_thin (by_ i)) (if nI k = 0 then x else 0) (G_in tc ta wa wr sh fa i (m_thin (by_ i)) x v k))
    by_cases hz : nI k = 0
    · rw [if_pos hz]
      exact step_rel hx1 hx2 ih (by omega)
    · rw [if_neg hz]
      exact step_rel (by rw [e0]; decide) (by rw [e0]; decide) ih (by omega)
theorem out_rel {be by_ tc ta wa wr pl bi wo sh fa fr ir : Nat → Int32} {i e m : Nat} {w : q_Om} {v : q_Og} (hm : m ≤ 16) (hf : ∀ q : Nat, q < m → fr q = ir q ∧ -32768 ≤ (ir q).toInt ∧ (ir q).toInt ≤ 32767) (h : RO i be by_ tc ta wa wr pl bi wo sh fa w v) : ∀ t : Nat, t ≤ m → v.2.1 + t * e ≤ 16 → RO i be by_ tc ta wa wr pl bi wo sh fa (P_out fr e w t) (G_out tc ta wa wr sh fa i (m_thin (by_ i)) e ir v t)
  | 0, _, _ => h
  | t + 1, ht, hb => by
    have h3 : (t + 1) * e = t * e + e := by rw [Nat.add_mul, Nat.one_mul]
    have ih := out_rel (e := e) hm hf h t (by omega) (by omega)
    have hle := G_out_le (tc := tc) (ta := ta) (wa := wa) (wr := wr) (sh := sh) (fa := fa) (j := i) (th := m_thin (by_ i)) (e := e) (ir := ir) (w0 := v) t
    show RO i be by_ tc ta wa wr pl bi wo sh fa (P_in (fr (nI t).toNatClampNeg) (P_out fr e w t) e) (G_in tc ta wa wr sh fa i (m_thin (by_ i)) (ir t) (G_out tc ta wa wr sh fa i (m_thin (by_ i)) e ir v t) e)
    rw [nI_clamp (by omega), (hf t (by omega)).1]
    exact in_rel (hf t (by omega)).2.1 (hf t (by omega)).2.2 ih e (by omega)
