/-! ring: one sample more, on both sides -/
theorem ring_push {wds ca : Nat → Int32} {r i : Nat} {x : Int32} (hr : r < 32) (hx1 : -32768 ≤ x.toInt) (hx2 : x.toInt ≤ 32767) (h : ∀ k : Nat, k < 32 → wds ((r + k) % 32) = ca (32 * i + k)) : ∀ k : Nat, k < 32 → r_psh wds (nI r) x (((r + 31) % 32 + k) % 32) = upd (m_dn ca i 31) (32 * i) x (32 * i + k) := by
  intro k hk
  have e1 : ((nI r - 1) &&& 31).toNatClampNeg = (r + 31) % 32 := by
    have := r_ph_nI r hr
    unfold r_ph at this
    rw [this, nI_clamp (by omega)]
  unfold r_psh
  rw [e1, short_id hx1 hx2]
  rcases Nat.eq_zero_or_pos k with hk0 | hk0
  · subst hk0
    rw [show ((r + 31) % 32 + 0) % 32 = (r + 31) % 32 by omega, pk_us, Nat.add_zero, pk_us]
  · rw [pk_un (by omega), pk_un (by omega), m_dn_at, if_pos (by omega), show 32 * i + k - 1 = 32 * i + (k - 1) by omega, ← h (k - 1) (by omega)]
    congr 1
    omega
theorem dn_other {ca : Nat → Int32} {i q : Nat} {x : Int32} (h : q < 32 * i ∨ 32 * i + 32 ≤ q) : upd (m_dn ca i 31) (32 * i) x q = ca q := by
  rw [pk_un (by omega), m_dn_at, if_neg (by omega)]
/-! the chain -/
theorem fd_eq {ch ch' : Nat → Int32} {v : Int32} : ∀ (k t : Nat), t + k ≤ 8 → (∀ q : Nat, q < t + k → ch q = ch' q) → x_fd ch v k t = m_fd ch' v k t
  | 0, _, _, _ => rfl
  | k + 1, t, h, he => by
    unfold x_fd m_fd
    rw [nI_clamp (by omega), he t (by omega), fd_eq k (t + 1) (by omega) (fun q hq => he q (by omega))]
theorem sh_at : ∀ (k t : Nat) (ch : Nat → Int32) (q : Nat), t + k ≤ 8 → x_sh ch k t q = if t ≤ q ∧ q < t + k then ch (q + 1) else ch q
  | 0, t, ch, q, _ => by
    rw [if_neg (by omega)]
    rfl
  | k + 1, t, ch, q, h => by
    show x_sh (upd ch (nI t).toNatClampNeg (ch (nI t + 1).toNatClampNeg)) k (t + 1) q = _
    rw [nI_1, nI_clamp (by omega), nI_clamp (by omega), sh_at k (t + 1) _ q (by omega)]
    by_cases h1 : t + 1 ≤ q ∧ q < t + 1 + k
    · rw [if_pos h1, if_pos (by omega), pk_un (by omega)]
    · rw [if_neg h1]
      by_cases h2 : q = t
      · subst h2
        rw [pk_us, if_pos (by omega)]
      · rw [pk_un h2, if_neg (by omega)]
theorem msh_at : ∀ (k t : Nat) (ch : Nat → Int32) (q : Nat), m_sh ch k t q = if t ≤ q ∧ q < t + k then ch (q + 1) else ch q
  | 0, t, ch, q => by
    rw [if_neg (by omega)]
    rfl
  | k + 1, t, ch, q => by
    show m_sh (upd ch t (ch (t + 1))) k (t + 1) q = _
    rw [msh_at k (t + 1)]
    by_cases h1 : t + 1 ≤ q ∧ q < t + 1 + k
    · rw [if_pos h1, if_pos (by omega), pk_un (by omega)]
    · rw [if_neg h1]
      by_cases h2 : q = t
      · subst h2
        rw [pk_us, if_pos (by omega)]
      · rw [pk_un h2, if_neg (by omega)]
/-- without v, the chain's length is the same, and so are its entries -/
theorem un_eq {ch ch' : Nat → Int32} {cl : Nat} {v : Int32} (hcl : cl ≤ 8) (he : ∀ q : Nat, q < cl → ch q = ch' q) : (x_un ch cl v).2 = (m_un ch' cl v).2 ∧ ∀ q : Nat, q < (x_un ch cl v).2 → (x_un ch cl v).1 q = (m_un ch' cl v).1 q := by
  unfold x_un m_un
  rw [fd_eq (ch := ch) (ch' := ch') (v := v) cl 0 (by omega) (fun q hq => he q (by omega))]
  cases hf : m_fd ch' v cl 0 with
  | none => exact ⟨rfl, he⟩
  | some a =>
    have ha := m_fd_lt hf
    refine ⟨rfl, fun q hq => ?_⟩
    show x_sh ch (cl - 1 - a) a q = m_sh ch' (cl - 1 - a) a q
    have hq : q < cl - 1 := hq
    rw [sh_at _ _ _ _ (by omega), msh_at]
    by_cases h1 : a ≤ q ∧ q < a + (cl - 1 - a)
    · rw [if_pos h1, if_pos h1, he (q + 1) (by omega)]
    · rw [if_neg h1, if_neg h1, he q (by omega)]
