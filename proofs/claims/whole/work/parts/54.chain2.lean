/-! the chain: joined, and without a stage -/
theorem nI_mul (a b : Nat) : nI a * nI b = nI (a * b) := by
  unfold nI
  rw [Int32.ofNat_mul]
theorem pN_congr {by_ by' ch ch' : Nat → Int32} : ∀ t : Nat, (∀ q : Nat, q < t → fN by' ch' q = fN by_ ch q) → pN by' ch' t = pN by_ ch t
  | 0, _ => rfl
  | t + 1, h => by
    show pN by' ch' t * fN by' ch' t = pN by_ ch t * fN by_ ch t
    rw [pN_congr t (fun q hq => h q (by omega)), h t (by omega)]
theorem fd_none {ch : Nat → Int32} {v : Int32} : ∀ (k i : Nat), m_fd ch v k i = none → ∀ q : Nat, i ≤ q → q < i + k → ch q ≠ v
  | 0, i, _, q, h1, h2 => by omega
  | k + 1, i, h, q, h1, h2 => by
    unfold m_fd at h
    by_cases e : ch i = v
    · rw [if_pos e] at h
      cases h
    · rw [if_neg e] at h
      by_cases eq : q = i
      · rw [eq]; exact e
      · exact fd_none k (i + 1) h q (by omega) (by omega)
theorem fd_some {ch : Nat → Int32} {v : Int32} : ∀ (k i a : Nat), m_fd ch v k i = some a → ch a = v
  | 0, i, a, h => by cases h
  | k + 1, i, a, h => by
    unfold m_fd at h
    by_cases e : ch i = v
    · rw [if_pos e] at h
      cases h
      exact e
    · rw [if_neg e] at h
      exact fd_some k (i + 1) a h
theorem pN_skip {by_ ch ch' : Nat → Int32} {a : Nat} : ∀ t : Nat, (∀ q : Nat, q < t → ch' q = if q < a then ch q else ch (q + 1)) → pN by_ ch' t * (if t < a then 1 else fN by_ ch a) = pN by_ ch (if t < a then t else t + 1)
  | 0, _ => by
    by_cases h : 0 < a
    · rw [if_pos h, if_pos h, Nat.mul_one]
      rfl
    · rw [if_neg h, if_neg h, show a = 0 by omega]
      rfl
  | t + 1, h => by
    have ih := pN_skip (by_ := by_) (ch := ch) (ch' := ch') (a := a) t (fun q hq => h q (by omega))
    have e := h t (by omega)
    have ef : fN by_ ch' t = if t < a then fN by_ ch t else fN by_ ch (t + 1) := by
      unfold fN
      rw [e]
      split <;> rfl
    show pN by_ ch' t * fN by_ ch' t * (if t + 1 < a then 1 else fN by_ ch a) = _
    rw [ef]
    by_cases h1 : t + 1 < a
    · rw [if_pos (show t < a by omega), if_pos (show t < a by omega)] at ih
      rw [if_pos (show t < a by omega), if_pos h1, if_pos h1, Nat.mul_one]
      rw [Nat.mul_one] at ih
      rw [ih]
      rfl
    · by_cases h2 : t < a
      · have ea : a = t + 1 := by omega
        rw [if_pos h2, if_pos h2, Nat.mul_one] at ih
        rw [if_pos h2, if_neg h1, if_neg h1, ih, ea]
        rfl
      · rw [if_neg h2, if_neg h2] at ih
        rw [if_neg h2, if_neg h1, if_neg h1, Nat.mul_assoc, Nat.mul_comm (fN by_ ch (t + 1)), ← Nat.mul_assoc, ih]
        rfl
/-- without stage i, which is planned no longer -/
theorem RC_un {cnt cl i : Nat} {by_ pl ch ch' : Nat → Int32} (hcl : cl ≤ 8) (hcnt : cnt ≤ 8) (hi : i < cnt) (h : RC cnt cl by_ pl ch ch') (hf : ∀ t : Nat, t < cl → 1 ≤ fN by_ ch' t) : (x_un ch cl (nI i)).2 = (m_un ch' cl (nI i)).2 ∧ (m_un ch' cl (nI i)).2 ≤ 8 ∧ RC cnt (m_un ch' cl (nI i)).2 by_ (upd pl i 0) (x_un ch cl (nI i)).1 (m_un ch' cl (nI i)).1 := by
  obtain ⟨h1, h2, h3⟩ := h
  obtain ⟨u1, u2⟩ := un_eq (v := nI i) hcl (fun q hq => (h1 q hq).1)
  refine ⟨u1, ?_, ?_⟩
  · unfold m_un
    split
    · exact hcl
    · exact Nat.le_trans (Nat.sub_le _ _) hcl
  rw [u1] at u2
  unfold m_un at u2 ⊢
  cases hm : m_fd ch' (nI i) cl 0 with
  | none =>
    rw [hm] at u2
    have hn := fd_none cl 0 hm
    refine ⟨fun t ht => ?_, h2, h3⟩
    have ht : t < cl := ht
    obtain ⟨c1, c2, c3, c4⟩ := h1 t ht
    refine ⟨u2 t ht, c2, c3, ?_⟩
    show ¬ upd pl i 0 (ch' t).toNatClampNeg = 0
    rw [pk_un]
    · exact c4
    · intro e
      rw [e] at c3
      exact hn t (by omega) (by omega) c3
  | some a =>
    rw [hm] at u2
    have ha := m_fd_lt hm
    have hv := fd_some cl 0 a hm
    have at_ : ∀ q : Nat, q < cl - 1 → m_sh ch' (cl - 1 - a) a q = ch' (if q < a then q else q + 1) := by
      intro q hq
      rw [msh_at]
      by_cases hqa : q < a
      · rw [if_neg (by omega), if_pos hqa]
      · rw [if_pos (by omega), if_neg hqa]
    have at2 : ∀ q : Nat, q < cl - 1 → m_sh ch' (cl - 1 - a) a q = if q < a then ch' q else ch' (q + 1) := by
      intro q hq
      rw [at_ q hq]
      split <;> rfl
    refine ⟨fun t ht => ?_, fun s t hst ht => ?_, ?_⟩
    · have ht : t < cl - 1 := ht
      show _ = m_sh ch' (cl - 1 - a) a t ∧ (m_sh ch' (cl - 1 - a) a t).toNatClampNeg < cnt ∧ m_sh ch' (cl - 1 - a) a t = nI (m_sh ch' (cl - 1 - a) a t).toNatClampNeg ∧ ¬ upd pl i 0 (m_sh ch' (cl - 1 - a) a t).toNatClampNeg = 0
      refine ⟨u2 t ht, ?_⟩
      rw [at_ t ht]
      have hg : (if t < a then t else t + 1) < cl := by split <;> omega
      have hga : (if t < a then t else t + 1) ≠ a := by split <;> omega
      obtain ⟨c1, c2, c3, c4⟩ := h1 _ hg
      refine ⟨c2, c3, ?_⟩
      rw [pk_un]
      · exact c4
      · intro e
        rw [e] at c3
        have c5 : ch' (if t < a then t else t + 1) = ch' a := c3.trans hv.symm
        rcases Nat.lt_or_gt_of_ne hga with l | l
        · exact h2 _ _ l (by omega) c5
        · exact h2 _ _ l hg c5.symm
    · have ht : t < cl - 1 := ht
      show m_sh ch' (cl - 1 - a) a s ≠ m_sh ch' (cl - 1 - a) a t
      rw [at_ s (by omega), at_ t ht]
      refine h2 _ _ ?_ ?_
      · split <;> split <;> omega
      · split <;> omega
    · show pN by_ (m_sh ch' (cl - 1 - a) a) (cl - 1) ≤ 16
      have sk := pN_skip (by_ := by_) (ch := ch') (ch' := m_sh ch' (cl - 1 - a) a) (a := a) (cl - 1) at2
      rw [if_neg (by omega), if_neg (by omega), show cl - 1 + 1 = cl by omega] at sk
      have f1 := hf a (by omega)
      have : pN by_ (m_sh ch' (cl - 1 - a) a) (cl - 1) * 1 ≤ pN by_ (m_sh ch' (cl - 1 - a) a) (cl - 1) * fN by_ ch' a := Nat.mul_le_mul_left _ f1
      omega
theorem pigeon : ∀ (n : Nat) (f : Nat → Nat), (∀ t : Nat, t < n + 1 → f t < n) → ∃ s t : Nat, s < t ∧ t < n + 1 ∧ f s = f t
  | 0, f, h => absurd (h 0 (by omega)) (Nat.not_lt_zero _)
  | n + 1, f, h => by
    by_cases hx : ∃ s : Nat, s < n + 1 ∧ f s = f (n + 1)
    · obtain ⟨s, hs, e⟩ := hx
      exact ⟨s, n + 1, hs, by omega, e⟩
    · have hx : ∀ s : Nat, s < n + 1 → f s ≠ f (n + 1) := fun s hs e => hx ⟨s, hs, e⟩
      have hl := h (n + 1) (by omega)
      obtain ⟨s, t, h1, h2, h3⟩ := pigeon n (fun t => if f t = n then f (n + 1) else f t) (fun t ht => by
        show (if f t = n then f (n + 1) else f t) < n
        have a := hx t ht
        have b := h t (by omega)
        split <;> omega)
      have h3 : (if f s = n then f (n + 1) else f s) = if f t = n then f (n + 1) else f t := h3
      have a1 := hx s (by omega)
      have a2 := hx t h2
      refine ⟨s, t, h1, by omega, ?_⟩
      by_cases e1 : f s = n
      · by_cases e2 : f t = n
        · omega
        · rw [if_pos e1, if_neg e2] at h3
          exact absurd h3.symm a2
      · by_cases e2 : f t = n
        · rw [if_neg e1, if_pos e2] at h3
          exact absurd h3 a1
        · rw [if_neg e1, if_neg e2] at h3
          exact h3
/-- a stage that may join finds a place -/
theorem join_room {cnt cl i : Nat} {by_ pl ch ch' : Nat → Int32} (hcl : cl ≤ 8) (hcnt : cnt ≤ 8) (hi : i < cnt) (h : RC cnt cl by_ pl ch ch') (hn : m_fd ch' (nI i) cl 0 = none) : cl < 8 := by
  obtain ⟨h1, h2, h3⟩ := h
  rcases Nat.lt_or_ge cl 8 with l | l
  · exact l
  · have hn := fd_none cl 0 hn
    obtain ⟨s, t, a1, a2, a3⟩ := pigeon 8 (fun t => if t < cl then (ch' t).toNatClampNeg else i) (fun t ht => by
      show (if t < cl then (ch' t).toNatClampNeg else i) < 8
      split
      · rename_i h4
        have := (h1 t h4).2.1
        omega
      · omega)
    have a3 : (if s < cl then (ch' s).toNatClampNeg else i) = if t < cl then (ch' t).toNatClampNeg else i := a3
    rw [if_pos (show s < cl by omega)] at a3
    by_cases ht : t < cl
    · rw [if_pos ht] at a3
      have e1 := (h1 s (by omega)).2.2.1
      have e2 := (h1 t ht).2.2.1
      rw [a3] at e1
      exact absurd (e1.trans e2.symm) (h2 s t a1 ht)
    · rw [if_neg ht] at a3
      have e1 := (h1 s (by omega)).2.2.1
      rw [a3] at e1
      exact absurd e1 (hn s (by omega) (by omega))
theorem xpr_eq {cnt cl : Nat} {S : Nat → q_St} {be by_ tc ta wa wr pl bi wo sh fa ch ch' : Nat → Int32} {D : q_Dy} (hC : RC cnt cl by_ pl ch ch') (h : RW cnt S be by_ tc ta wa wr pl bi wo sh fa D) : ∀ t : Nat, t ≤ cl → x_pr S ch t = nI (pN by_ ch' t)
  | 0, _ => rfl
  | t + 1, ht => by
    obtain ⟨c1, c2, c3, c4⟩ := hC.1 t (by omega)
    have eb : S_by (S (ch' t).toNatClampNeg) = by_ (ch' t).toNatClampNeg := (h.1 _ c2).1.2.1.1
    obtain ⟨e, e1, e2, e3⟩ := fill_rng (h.1 _ c2).1.2.1.2
    have ef : fN by_ ch' t = e := by
      unfold fN
      rw [e3, nI_clamp (by omega)]
    show x_pr S ch t * s_fill (S_by (S (ch t).toNatClampNeg)) = nI (pN by_ ch' t * fN by_ ch' t)
    rw [c1, eb, e3, ef, xpr_eq hC h t (by omega), nI_mul]
theorem mpr_eq {cnt cl i f : Nat} {S : Nat → q_St} {be by_ tc ta wa wr pl bi wo sh fa ch ch' : Nat → Int32} {D : q_Dy} (hC : RC cnt cl by_ pl ch ch') (h : RW cnt S be by_ tc ta wa wr pl bi wo sh fa D) (hf : s_fill (by_ i) = nI f) : ∀ t : Nat, t ≤ cl → m_pr by_ ch' i t = nI (pN by_ ch' t * f)
  | 0, _ => by
    show s_fill (by_ i) = nI (1 * f)
    rw [Nat.one_mul]
    exact hf
  | t + 1, ht => by
    obtain ⟨c1, c2, c3, c4⟩ := hC.1 t (by omega)
    obtain ⟨e, e1, e2, e3⟩ := fill_rng (h.1 _ c2).1.2.1.2
    have ef : fN by_ ch' t = e := by
      unfold fN
      rw [e3, nI_clamp (by omega)]
    show m_pr by_ ch' i t * s_fill (by_ (ch' t).toNatClampNeg) = nI (pN by_ ch' t * fN by_ ch' t * f)
    rw [mpr_eq hC h hf t (by omega), e3, ef, nI_mul, Nat.mul_assoc, Nat.mul_assoc, Nat.mul_comm f e]
theorem plc_eq {cnt cl i : Nat} {by_ pl ch ch' : Nat → Int32} (hcl : cl ≤ 8) (hC : RC cnt cl by_ pl ch ch') : x_plc ch cl i = (m_fd ch' (nI i) cl 0).elim (-1) nI := by
  unfold x_plc
  rw [fd_eq cl 0 (by omega) (fun q hq => (hC.1 q (by omega)).1)]
theorem plc_no {cl i : Nat} {ch' : Nat → Int32} (hcl : cl ≤ 8) : (m_fd ch' (nI i) cl 0).elim (-1) nI = -1 ↔ m_fd ch' (nI i) cl 0 = none := by
  cases h : m_fd ch' (nI i) cl 0 with
  | none => exact ⟨fun _ => rfl, fun _ => rfl⟩
  | some a =>
    have := m_fd_lt h
    refine ⟨fun e => ?_, fun e => by cases e⟩
    have e : nI a = -1 := e
    have h0 : ¬ nI a < 0 := nI_pos (by omega)
    rw [e] at h0
    exact absurd (by decide) h0
/-- join: the same on both sides -/
theorem jn_eq {cnt cl i : Nat} {S : Nat → q_St} {be by_ tc ta wa wr pl bi wo sh fa ch ch' : Nat → Int32} {D : q_Dy} (hcl : cl ≤ 8) (hcnt : cnt ≤ 8) (hi : i < cnt) (hC : RC cnt cl by_ pl ch ch') (h : RW cnt S be by_ tc ta wa wr pl bi wo sh fa D) : x_jn S ch cl i = m_jn by_ pl ch' cl i ∧ (m_jn by_ pl ch' cl i = true → cl < 8 ∧ RC cnt (cl + 1) by_ pl (upd ch (nI cl).toNatClampNeg (nI i)) (upd ch' cl (nI i))) := by
  have ep : S_pst (S i) = pl i := (h.1 i hi).1.2.2.2.2.2.2.1.1
  have eb : S_by (S i) = by_ i := (h.1 i hi).1.2.1.1
  obtain ⟨f, f1, f2, f3⟩ := fill_rng (h.1 i hi).1.2.1.2
  have hle : pN by_ ch' cl * f ≤ 16 * 4 := Nat.mul_le_mul hC.2.2 f2
  have e1 : m_jn by_ pl ch' cl i = (!decide (pl i = 0) && decide (m_fd ch' (nI i) cl 0 = none) && decide (pN by_ ch' cl * f ≤ 16)) := by
    unfold m_jn
    rw [mpr_eq hC h f3 cl (Nat.le_refl _), decide_eq_decide.mpr (plc_no (i := i) hcl), show (16 : Int32) = nI 16 from rfl, decide_eq_decide.mpr (nI_leI (a := pN by_ ch' cl * f) (b := 16) (by omega) (by decide))]
  have e2 : x_jn S ch cl i = (!decide (pl i = 0) && decide (m_fd ch' (nI i) cl 0 = none) && !decide (16 < pN by_ ch' cl * f) && decide (cl < 8)) := by
    unfold x_jn
    rw [ep, eb, f3, xpr_eq hC h cl (Nat.le_refl _), plc_eq hcl hC, decide_eq_decide.mpr (plc_no (i := i) hcl), nI_mul, show (16 : Int32) = nI 16 from rfl, show (8 : Int32) = nI 8 from rfl, decide_eq_decide.mpr (nI_ltI (a := 16) (b := pN by_ ch' cl * f) (by decide) (by omega)), decide_eq_decide.mpr (nI_ltI (a := cl) (b := 8) (by omega) (by decide))]
  refine ⟨?_, fun hj => ?_⟩
  · rw [e1, e2]
    by_cases hn : m_fd ch' (nI i) cl 0 = none
    · have h8 := join_room hcl hcnt hi hC hn
      rw [decide_eq_true h8, Bool.and_true]
      congr 1
      by_cases hq : pN by_ ch' cl * f ≤ 16
      · rw [decide_eq_true hq, decide_eq_false (by omega)]
        rfl
      · rw [decide_eq_false hq, decide_eq_true (by omega)]
        rfl
    · rw [decide_eq_false hn]
      simp
  · rw [e1, Bool.and_eq_true, Bool.and_eq_true, Bool.not_eq_true', decide_eq_false_iff_not, decide_eq_true_iff, decide_eq_true_iff] at hj
    obtain ⟨⟨j1, j2⟩, j3⟩ := hj
    have h8 := join_room hcl hcnt hi hC j2
    have hn := fd_none cl 0 j2
    have hcp : (nI i).toNatClampNeg = i := nI_clamp (by omega)
    refine ⟨h8, fun t ht => ?_, fun s t hst ht => ?_, ?_⟩
    · rw [nI_clamp (show cl < 2 ^ 31 by omega)]
      by_cases e : t = cl
      · subst e
        rw [pk_us, pk_us, hcp]
        exact ⟨rfl, hi, rfl, j1⟩
      · rw [pk_un e, pk_un e]
        exact hC.1 t (by omega)
    · by_cases e : t = cl
      · subst e
        rw [pk_us, pk_un (by omega)]
        exact hn s (by omega) (by omega)
      · rw [pk_un e, pk_un (by omega)]
        exact hC.2.1 s t hst (by omega)
    · show pN by_ (upd ch' cl (nI i)) cl * fN by_ (upd ch' cl (nI i)) cl ≤ 16
      have ef : fN by_ (upd ch' cl (nI i)) cl = f := by
        unfold fN
        rw [pk_us, hcp, f3, nI_clamp (by omega)]
      rw [ef, pN_congr (by_ := by_) (ch := ch') cl (fun q hq => by unfold fN; rw [pk_un (by omega)])]
      exact j3
