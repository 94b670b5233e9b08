theorem abs_64 {v : Int32} (h : -2147483648 < v.toInt) : (m_absI v).toInt64 = m_abs v.toInt64 := by
  have e0 : (0 : Int32).toInt = 0 := by decide
  unfold m_absI m_abs
  by_cases hv : 0 ≤ v
  · have g := Int32.le_iff_toInt_le.mp hv
    rw [if_pos hv, if_pos ((i_neg0 _).mpr (by rw [Int32.toInt_toInt64]; omega))]
  · rw [if_neg hv, if_neg (fun e => hv (Int32.le_iff_toInt_le.mpr (by have := (i_neg0 _).mp e; rw [Int32.toInt_toInt64] at this; omega)))]
    have h2 := Int32.toInt_lt v
    apply Int64.toInt_inj.mp
    rw [Int32.toInt_toInt64, Int32.toInt_neg, Int64.toInt_neg, Int32.toInt_toInt64, Int.bmod_eq_of_le_mul_two (by omega) (by omega), Int.bmod_eq_of_le_mul_two (by omega) (by omega)]
/-- the norm that the class keeps is the reference's -/
theorem pz_eq {c i : Nat} {below ss : Int32} {taps ta be fa : Nat → Int32} (hc : c ≤ 32) (hb : 1 ≤ below) (eb : below = be i) (et : ∀ k : Nat, k < 32 → taps k = ta (32 * i + k)) (hv : ∀ k : Nat, k < c → -2147483648 < (m_fac ta be i k ss).toInt32.toInt) : ∀ t : Nat, t ≤ c → s_pz (nI c) below taps ss t = m_nrm (m_pf ta be i ss fa c) i t
  | 0, _ => rfl
  | t + 1, h => by
    show (bif k_in32 (nI t) then s_pz (nI c) below taps ss t + (m_absI (s_v (nI c) below taps ss t)).toInt64 else s_pz (nI c) below taps ss t) = m_nrm (m_pf ta be i ss fa c) i t + m_abs (m_pf ta be i ss fa c (32 * i + t)).toInt64
    rw [k_in_t (by omega), cond_true, sv_eq hc (by omega) hb eb et, pz_eq (fa := fa) hc hb eb et hv t (by omega), mpf_at, if_pos (by omega), show 32 * i + t - 32 * i = t by omega, abs_64 (hv t (by omega))]
theorem t_at_in {sam : Nat → Int32} {tn t : Nat} (ht : t < tn) (hn : tn ≤ 600) : t_at sam (nI tn) (nI t) = sam t := by
  have h1 : ¬ nI t < 0 := nI_pos (by omega)
  have h2 : ¬ nI tn ≤ nI t := nI_ge ht (by omega)
  have h3 : ¬ (600 : Int32) ≤ nI t := nI_ge (b := 600) (by omega) (by decide)
  unfold t_at t_has
  simp only [h1, h2, h3, decide_false, Bool.not_false, Bool.and_self, cond_true]
  rw [nI_clamp (by omega)]
theorem mix_eq {sam tp : Nat → Int32} {tn : Nat} {g : Int64} (hn : tn ≤ 600) (h : ∀ q : Nat, q < tn → sam q = tp q) : ∀ t : Nat, t ≤ tn → t_mix sam (nI tn) g t = m_e3 tp g t
  | 0, _ => rfl
  | t + 1, ht => by
    show 31 * t_mix sam (nI tn) g t + (t_at sam (nI tn) (nI t)).toInt64 = 31 * m_e3 tp g t + (tp t).toInt64
    rw [mix_eq hn h t (by omega), t_at_in (by omega) hn, h t (by omega)]
/-- one more on the tape: the same on both sides -/
theorem add_eq {w : q_T} {v : q_Tg} {x : Int32} (hx1 : -32768 ≤ x.toInt) (hx2 : x.toInt ≤ 32767) (h1 : w.2.1 = nI v.2.1) (h2 : v.2.1 ≤ 600) (h3 : w.2.2 = v.2.2) (h4 : ∀ q : Nat, q < v.2.1 → w.1 q = v.1 q) : (y_add x w).2.1 = nI (g_add x v).2.1 ∧ (y_add x w).2.2 = (g_add x v).2.2 ∧ ∀ q : Nat, q < (g_add x v).2.1 → (y_add x w).1 q = (g_add x v).1 q := by
  obtain ⟨sam, len, lo⟩ := w
  obtain ⟨tp, tn, lo2⟩ := v
  have h1 : len = nI tn := h1
  have h3 : lo = lo2 := h3
  have h2 : tn ≤ 600 := h2
  have h4 : ∀ q : Nat, q < tn → sam q = tp q := h4
  subst h1
  subst h3
  unfold y_add g_add
  by_cases hf : tn = 600
  · subst hf
    have e : t_room (nI 600) = false := by decide
    have e2 : (600 : Int32) ≤ nI 600 := by decide
    dsimp only
    rw [e, if_pos e2]
    exact ⟨rfl, rfl, h4⟩
  · have hlt : tn < 600 := by omega
    have e : t_room (nI tn) = true := by
      have a1 : ¬ nI tn < 0 := nI_pos (by omega)
      have a2 : nI tn < 600 := nI_lt (b := 600) hlt (by decide)
      unfold t_room
      simp [a1, a2]
    have e2 : ¬ (600 : Int32) ≤ nI tn := nI_ge (b := 600) hlt (by decide)
    dsimp only
    rw [e, if_neg e2, short_id hx1 hx2, nI_clamp (by omega)]
    refine ⟨nI_1 tn, rfl, fun q hq => ?_⟩
    show upd sam tn x q = upd tp tn x q
    by_cases hq2 : q = tn
    · subst hq2
      rw [pk_us, pk_us]
    · have hq : q < tn + 1 := hq
      rw [pk_un hq2, pk_un hq2]
      exact h4 q (show q < tn by omega)
