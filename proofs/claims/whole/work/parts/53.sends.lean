/-! a sample on its way through the chain, on both sides -/
def RW (cnt : Nat) (S : Nat → q_St) (be by_ tc ta wa wr pl bi wo sh fa : Nat → Int32) (D : q_Dy) : Prop := (∀ i : Nat, i < cnt → RA i (S i) be by_ tc ta wa wr pl bi wo sh fa D) ∧ ∀ j : Nat, cnt ≤ j → ∀ b0 y0 : Int32, x_in b0 1 1000000 = true → x_isBy y0 = true → RA j (s_new b0 y0) (fun _ => b0) (fun _ => y0) tc ta wa wr pl bi wo sh fa D
theorem RW_up {cnt i : Nat} {S : Nat → q_St} {X : q_St} {be by_ tc ta wa wr pl bi wo sh fa be' by' tc' ta' wa' wr' pl' bi' wo' sh' fa' : Nat → Int32} {D D' : q_Dy} (hi : i < cnt) (h : RW cnt S be by_ tc ta wa wr pl bi wo sh fa D) (hA : RA i X be' by' tc' ta' wa' wr' pl' bi' wo' sh' fa' D') (hS : ∀ j : Nat, j ≠ i → Sq j be by_ tc ta wa wr pl bi wo sh fa be' by' tc' ta' wa' wr' pl' bi' wo' sh' fa') (hF : ∀ j : Nat, j ≠ i → Fq j D D') : RW cnt (va_up S i X) be' by' tc' ta' wa' wr' pl' bi' wo' sh' fa' D' := by
  refine ⟨fun j hj => ?_, fun j hj b0 y0 hb hy => ?_⟩
  · by_cases e : j = i
    · subst e
      rw [vu_self]
      exact hA
    · rw [show va_up S i X j = S j from if_neg e]
      exact RA_fr (hS j e) (hF j e) (h.1 j hj)
  · have e : j ≠ i := by omega
    obtain ⟨⟨_, _, e3, e4, e5, e6, e7, e8, e9⟩, et⟩ := hS j e
    exact RA_fr ⟨⟨rfl, rfl, e3, e4, e5, e6, e7, e8, e9⟩, et⟩ (hF j e) (h.2 j hj b0 y0 hb hy)
theorem i32_eq {b c : Int32} (h : b.toInt = c.toInt) : b = c := Int32.toInt_inj.mp h
theorem x_in_iff {v lo hi : Int32} : x_in v lo hi = true ↔ lo.toInt ≤ v.toInt ∧ v.toInt ≤ hi.toInt := by
  unfold x_in
  rw [Bool.and_eq_true, Bool.not_eq_true', Bool.not_eq_true', decide_eq_false_iff_not, decide_eq_false_iff_not, Int32.lt_iff_toInt_lt, Int32.lt_iff_toInt_lt]
  omega
theorem by_cases_ {b : Int32} (h : x_isBy b = true) : b = 1 ∨ b = 2 ∨ b = 3 ∨ b = 4 ∨ b = -4 ∨ b = -3 ∨ b = -2 := by
  unfold x_isBy at h
  rw [Bool.or_eq_true, x_in_iff, x_in_iff] at h
  have e1 : (1 : Int32).toInt = 1 := by decide
  have e2 : (2 : Int32).toInt = 2 := by decide
  have e3 : (3 : Int32).toInt = 3 := by decide
  have e4 : (4 : Int32).toInt = 4 := by decide
  have n4 : (-4 : Int32).toInt = -4 := by decide
  have n3 : (-3 : Int32).toInt = -3 := by decide
  have n2 : (-2 : Int32).toInt = -2 := by decide
  rw [e1, e4, n4, n2] at h
  have hc : b.toInt = 1 ∨ b.toInt = 2 ∨ b.toInt = 3 ∨ b.toInt = 4 ∨ b.toInt = -4 ∨ b.toInt = -3 ∨ b.toInt = -2 := by omega
  rcases hc with e | e | e | e | e | e | e
  · exact Or.inl (i32_eq (e.trans e1.symm))
  · exact Or.inr (Or.inl (i32_eq (e.trans e2.symm)))
  · exact Or.inr (Or.inr (Or.inl (i32_eq (e.trans e3.symm))))
  · exact Or.inr (Or.inr (Or.inr (Or.inl (i32_eq (e.trans e4.symm)))))
  · exact Or.inr (Or.inr (Or.inr (Or.inr (Or.inl (i32_eq (e.trans n4.symm))))))
  · exact Or.inr (Or.inr (Or.inr (Or.inr (Or.inr (Or.inl (i32_eq (e.trans n3.symm)))))))
  · exact Or.inr (Or.inr (Or.inr (Or.inr (Or.inr (Or.inr (i32_eq (e.trans n2.symm)))))))
theorem fill_rng {b : Int32} (h : x_isBy b = true) : ∃ e : Nat, 1 ≤ e ∧ e ≤ 4 ∧ s_fill b = nI e := by
  rcases by_cases_ h with e | e | e | e | e | e | e <;> rw [e]
  · exact ⟨1, by decide, by decide, by decide⟩
  · exact ⟨1, by decide, by decide, by decide⟩
  · exact ⟨1, by decide, by decide, by decide⟩
  · exact ⟨1, by decide, by decide, by decide⟩
  · exact ⟨4, by decide, by decide, by decide⟩
  · exact ⟨3, by decide, by decide, by decide⟩
  · exact ⟨2, by decide, by decide, by decide⟩
def fN (by_ : Nat → Int32) (ch : Nat → Int32) (t : Nat) : Nat := (s_fill (by_ (ch t).toNatClampNeg)).toNatClampNeg
def pN (by_ ch : Nat → Int32) : Nat → Nat
  | 0 => 1
  | t + 1 => pN by_ ch t * fN by_ ch t
theorem pN_mono {by_ ch : Nat → Int32} {cl : Nat} (h : ∀ t : Nat, t < cl → 1 ≤ fN by_ ch t) : ∀ u : Nat, u ≤ cl → ∀ t : Nat, t ≤ u → pN by_ ch t ≤ pN by_ ch u
  | 0, _, t, ht => by rw [show t = 0 by omega]; exact Nat.le_refl _
  | u + 1, hu, t, ht => by
    by_cases e : t = u + 1
    · rw [e]; exact Nat.le_refl _
    · have ih := pN_mono h u (by omega) t (by omega)
      have h1 : pN by_ ch u * 1 ≤ pN by_ ch u * fN by_ ch u := Nat.mul_le_mul_left _ (h u (by omega))
      show pN by_ ch t ≤ pN by_ ch u * fN by_ ch u
      rw [Nat.mul_one] at h1
      exact Nat.le_trans ih h1
/-- the chain, on both sides -/
def RC (cnt cl : Nat) (by_ pl ch ch' : Nat → Int32) : Prop := (∀ t : Nat, t < cl → ch t = ch' t ∧ (ch' t).toNatClampNeg < cnt ∧ ch' t = nI (ch' t).toNatClampNeg ∧ ¬ pl (ch' t).toNatClampNeg = 0) ∧ (∀ s t : Nat, s < t → t < cl → ch' s ≠ ch' t) ∧ pN by_ ch' cl ≤ 16
def RY (cnt : Nat) (be by_ tc ta wa wr pl bi wo sh fa : Nat → Int32) (w : q_Y) (v : q_Yg) : Prop := RW cnt w.1 be by_ tc ta wa wr pl bi wo sh fa v.1 ∧ w.2.1 = v.2.1 ∧ ∀ q : Nat, q < v.2.1 → w.2.2.1 q = v.2.2.1 q ∧ -32768 ≤ (v.2.2.1 q).toInt ∧ (v.2.2.1 q).toInt ≤ 32767
theorem m_cp_at {ir ow : Nat → Int32} : ∀ n q : Nat, m_cp ir ow n q = if q < n then ow q else ir q
  | 0, q => by rw [if_neg (by omega)] <;> rfl
  | n + 1, q => by
    show upd (m_cp ir ow n) n (ow n) q = _
    by_cases e : q = n
    · subst e
      rw [pk_us, if_pos (by omega)]
    · rw [pk_un e, m_cp_at n q]
      by_cases h : q < n
      · rw [if_pos h, if_pos (by omega)]
      · rw [if_neg h, if_neg (by omega)]
theorem nx_rel {cnt t : Nat} {be by_ tc ta wa wr pl bi wo sh fa ch ch' : Nat → Int32} {w : q_Y} {v : q_Yg} (hc : ch t = ch' t) (hi : (ch' t).toNatClampNeg < cnt) (hp : ¬ pl (ch' t).toNatClampNeg = 0) (h : RY cnt be by_ tc ta wa wr pl bi wo sh fa w v) (hb : v.2.1 * fN by_ ch' t ≤ 16) (hv : v.2.1 ≤ 16) : RY cnt be by_ tc ta wa wr pl bi wo sh fa (y_nx ch t w) (g_nx tc ta wa wr sh fa by_ ch' t v) ∧ (g_nx tc ta wa wr sh fa by_ ch' t v).2.1 ≤ v.2.1 * fN by_ ch' t := by
  obtain ⟨hW, hm, hr⟩ := h
  obtain ⟨A1, A2, A3⟩ := hW.1 _ hi
  have eby : S_by (w.1 (ch' t).toNatClampNeg) = by_ (ch' t).toNatClampNeg := A1.2.1.1
  have R0 : RO (ch' t).toNatClampNeg be by_ tc ta wa wr pl bi wo sh fa (w.1 (ch' t).toNatClampNeg, 0, w.2.2.2.1) (v.1, 0, v.2.2.2) := ⟨A1, A2, rfl, fun q hq => absurd hq (Nat.not_lt_zero q)⟩
  have key := out_rel (e := fN by_ ch' t) hv hr R0 v.2.1 (Nat.le_refl _) (by show 0 + v.2.1 * fN by_ ch' t ≤ 16; omega)
  have keyX := out_relX (e := fN by_ ch' t) hp hv hr R0 A3 v.2.1 (Nat.le_refl _) (by show 0 + v.2.1 * fN by_ ch' t ≤ 16; omega)
  have keyF := fun j (hj : j ≠ (ch' t).toNatClampNeg) => Fq_out (tc := tc) (ta := ta) (wa := wa) (wr := wr) (sh := sh) (fa := fa) (th := m_thin (by_ (ch' t).toNatClampNeg)) (e := fN by_ ch' t) (ir := v.2.2.1) (v := (v.1, 0, v.2.2.2)) hj v.2.1
  have hle := G_out_le (tc := tc) (ta := ta) (wa := wa) (wr := wr) (sh := sh) (fa := fa) (j := (ch' t).toNatClampNeg) (th := m_thin (by_ (ch' t).toNatClampNeg)) (e := fN by_ ch' t) (ir := v.2.2.1) (w0 := (v.1, 0, v.2.2.2)) v.2.1
  have ys : y_stp ch t w = P_out w.2.2.1 (fN by_ ch' t) (w.1 (ch' t).toNatClampNeg, 0, w.2.2.2.1) v.2.1 := by
    unfold y_stp fN
    rw [hc, eby, hm]
  have gs : g_stp tc ta wa wr sh fa by_ ch' t v = G_out tc ta wa wr sh fa (ch' t).toNatClampNeg (m_thin (by_ (ch' t).toNatClampNeg)) (fN by_ ch' t) v.2.2.1 (v.1, 0, v.2.2.2) v.2.1 := rfl
  rw [← ys, ← gs] at key keyX
  rw [← gs] at hle
  have keyF : ∀ j : Nat, j ≠ (ch' t).toNatClampNeg → Fq j v.1 (g_stp tc ta wa wr sh fa by_ ch' t v).1 := keyF
  obtain ⟨k1, k2, k3, k4⟩ := key
  refine ⟨⟨?_, k3, fun q hq => ?_⟩, ?_⟩
  · show RW cnt (va_up w.1 (ch t).toNatClampNeg (y_stp ch t w).1) be by_ tc ta wa wr pl bi wo sh fa (g_stp tc ta wa wr sh fa by_ ch' t v).1
    rw [hc]
    exact RW_up hi hW ⟨k1, k2, keyX⟩ (fun j _ => Sq_refl j be by_ tc ta wa wr pl bi wo sh fa) keyF
  · have hq : q < (g_stp tc ta wa wr sh fa by_ ch' t v).2.1 := hq
    show (y_stp ch t w).2.2 q = m_cp v.2.2.1 (g_stp tc ta wa wr sh fa by_ ch' t v).2.2 (g_stp tc ta wa wr sh fa by_ ch' t v).2.1 q ∧ -32768 ≤ (m_cp v.2.2.1 (g_stp tc ta wa wr sh fa by_ ch' t v).2.2 (g_stp tc ta wa wr sh fa by_ ch' t v).2.1 q).toInt ∧ (m_cp v.2.2.1 (g_stp tc ta wa wr sh fa by_ ch' t v).2.2 (g_stp tc ta wa wr sh fa by_ ch' t v).2.1 q).toInt ≤ 32767
    rw [m_cp_at, if_pos hq]
    exact k4 q hq
  · have : (0 : Nat) + v.2.1 * fN by_ ch' t = v.2.1 * fN by_ ch' t := Nat.zero_add _
    rw [← this]
    exact hle
theorem go_rel {cnt cl : Nat} {be by_ tc ta wa wr pl bi wo sh fa ch ch' : Nat → Int32} (hC : RC cnt cl by_ pl ch ch') (h1 : ∀ t : Nat, t < cl → 1 ≤ fN by_ ch' t) : ∀ (k t : Nat) (w : q_Y) (v : q_Yg), t + k ≤ cl → RY cnt be by_ tc ta wa wr pl bi wo sh fa w v → v.2.1 ≤ pN by_ ch' t → RY cnt be by_ tc ta wa wr pl bi wo sh fa (y_go ch k t w) (g_go tc ta wa wr sh fa by_ ch' k t v) ∧ (g_go tc ta wa wr sh fa by_ ch' k t v).2.1 ≤ 16
  | 0, t, w, v, ht, h, hv => ⟨h, Nat.le_trans hv (Nat.le_trans (pN_mono h1 cl (Nat.le_refl _) t (by omega)) hC.2.2)⟩
  | k + 1, t, w, v, ht, h, hv => by
    obtain ⟨c1, c2, c3, c4⟩ := hC.1 t (by omega)
    have b0 : pN by_ ch' t ≤ 16 := Nat.le_trans (pN_mono h1 cl (Nat.le_refl _) t (by omega)) hC.2.2
    have b1 : pN by_ ch' (t + 1) ≤ 16 := Nat.le_trans (pN_mono h1 cl (Nat.le_refl _) (t + 1) (by omega)) hC.2.2
    have b2 : v.2.1 * fN by_ ch' t ≤ pN by_ ch' (t + 1) := Nat.mul_le_mul_right _ hv
    obtain ⟨n1, n2⟩ := nx_rel c1 c2 c4 h (Nat.le_trans b2 b1) (Nat.le_trans hv b0)
    exact go_rel hC h1 k (t + 1) (y_nx ch t w) (g_nx tc ta wa wr sh fa by_ ch' t v) (by omega) n1 (Nat.le_trans n2 b2)
theorem fN_pos {cnt cl : Nat} {S : Nat → q_St} {be by_ tc ta wa wr pl bi wo sh fa ch ch' : Nat → Int32} {D : q_Dy} (hC : RC cnt cl by_ pl ch ch') (h : RW cnt S be by_ tc ta wa wr pl bi wo sh fa D) : ∀ t : Nat, t < cl → 1 ≤ fN by_ ch' t := by
  intro t ht
  obtain ⟨e, e1, e2, e3⟩ := fill_rng (h.1 _ (hC.1 t ht).2.1).1.2.1.2
  unfold fN
  rw [e3, nI_clamp (by omega)]
  exact e1
/-- the tape -/
def RT (w : q_T) (v : q_Tg) : Prop := w.2.1 = nI v.2.1 ∧ v.2.1 ≤ 600 ∧ w.2.2 = v.2.2 ∧ ∀ q : Nat, q < v.2.1 → w.1 q = v.1 q
theorem tp_rel {cur cur' : Nat → Int32} {n : Nat} (hn : n ≤ 16) (hr : ∀ q : Nat, q < n → cur q = cur' q ∧ -32768 ≤ (cur' q).toInt ∧ (cur' q).toInt ≤ 32767) {w : q_T} {v : q_Tg} (h : RT w v) : ∀ m : Nat, m ≤ n → RT (y_tp cur w m) (g_tp cur' v m)
  | 0, _ => h
  | m + 1, hm => by
    obtain ⟨i1, i2, i3, i4⟩ := tp_rel hn hr h m (by omega)
    obtain ⟨r1, r2, r3⟩ := hr m (by omega)
    show RT (y_add (cur (nI m).toNatClampNeg) (y_tp cur w m)) (g_add (cur' m) (g_tp cur' v m))
    rw [nI_clamp (by omega), r1]
    obtain ⟨a1, a2, a3⟩ := add_eq r2 r3 i1 i2 i3 i4
    exact ⟨a1, g_add_le i2, a2, a3⟩
def RU (cnt : Nat) (be by_ tc ta wa wr pl bi wo sh fa : Nat → Int32) (u : q_U) (v : q_Ug) : Prop := RW cnt u.1 be by_ tc ta wa wr pl bi wo sh fa v.1 ∧ RT u.2.1 v.2.1
theorem send_rel {cnt cl : Nat} {be by_ tc ta wa wr pl bi wo sh fa ch ch' : Nat → Int32} {x : Int32} {u : q_U} {v : q_Ug} (hC : RC cnt cl by_ pl ch ch') (hx1 : -32768 ≤ x.toInt) (hx2 : x.toInt ≤ 32767) (h : RU cnt be by_ tc ta wa wr pl bi wo sh fa u v) : RU cnt be by_ tc ta wa wr pl bi wo sh fa (u_send ch cl x u) (v_send tc ta wa wr sh fa by_ ch' cl x v) ∧ (u_y ch cl x u).2.1 = (v_y tc ta wa wr sh fa by_ ch' cl x v).2.1 ∧ v_16 tc ta wa wr sh fa by_ ch' cl x v := by
  obtain ⟨hW, hT⟩ := h
  have Y0 : RY cnt be by_ tc ta wa wr pl bi wo sh fa (u.1, 1, upd u.2.2.1.1 (0 : Int32).toNatClampNeg x, u.2.2.2) (v.1, 1, upd v.2.2.1 0 x, v.2.2.2) := by
    refine ⟨hW, rfl, fun q hq => ?_⟩
    have hq : q < 1 := hq
    show upd u.2.2.1.1 (0 : Int32).toNatClampNeg x q = upd v.2.2.1 0 x q ∧ -32768 ≤ (upd v.2.2.1 0 x q).toInt ∧ (upd v.2.2.1 0 x q).toInt ≤ 32767
    rw [show q = 0 by omega, show (0 : Int32).toNatClampNeg = 0 from rfl, pk_us, pk_us]
    exact ⟨rfl, hx1, hx2⟩
  have h1 := fN_pos hC hW
  obtain ⟨⟨g1, g2, g3⟩, g4⟩ := go_rel hC h1 cl 0 _ _ (by omega) Y0 (Nat.le_refl 1)
  refine ⟨⟨g1, ?_⟩, g2, fun k hk => (go_rel hC h1 k 0 _ _ (by omega) Y0 (Nat.le_refl 1)).2⟩
  have tr := tp_rel g4 g3 hT _ (Nat.le_refl _)
  rw [← g2] at tr
  show RT (y_tp (u_y ch cl x u).2.2.1 u.2.1 (u_y ch cl x u).2.1) (g_tp (v_y tc ta wa wr sh fa by_ ch' cl x v).2.2.1 v.2.1 (v_y tc ta wa wr sh fa by_ ch' cl x v).2.1)
  have g2 : (u_y ch cl x u).2.1 = (v_y tc ta wa wr sh fa by_ ch' cl x v).2.1 := g2
  rw [← g2]
  exact tr
theorem rm_rel {cnt cl : Nat} {be by_ tc ta wa wr pl bi wo sh fa ch ch' : Nat → Int32} {x s : Int32} {u : q_U} {v : q_Ug} (hC : RC cnt cl by_ pl ch ch') (hx1 : -32768 ≤ x.toInt) (hx2 : x.toInt ≤ 32767) (h : RU cnt be by_ tc ta wa wr pl bi wo sh fa u v) : ∀ i : Nat, RU cnt be by_ tc ta wa wr pl bi wo sh fa (u_rm ch cl x s u i).1 (v_rm tc ta wa wr sh fa by_ ch' cl x s v i).1 ∧ (u_rm ch cl x s u i).2.1 = (v_rm tc ta wa wr sh fa by_ ch' cl x s v i).2.1 ∧ (u_rm ch cl x s u i).2.2 = (v_rm tc ta wa wr sh fa by_ ch' cl x s v i).2.2 ∧ -32768 ≤ (v_rm tc ta wa wr sh fa by_ ch' cl x s v i).2.2.toInt ∧ (v_rm tc ta wa wr sh fa by_ ch' cl x s v i).2.2.toInt ≤ 32767
  | 0 => ⟨h, rfl, rfl, hx1, hx2⟩
  | i + 1 => by
    obtain ⟨i1, i2, i3, i4, i5⟩ := rm_rel (s := s) hC hx1 hx2 h i
    obtain ⟨s1, s2, _⟩ := send_rel hC i4 i5 i1
    refine ⟨?_, ?_, ?_, ?_, ?_⟩
    · show RU cnt be by_ tc ta wa wr pl bi wo sh fa (u_send ch cl (u_rm ch cl x s u i).2.2 (u_rm ch cl x s u i).1) (v_send tc ta wa wr sh fa by_ ch' cl (v_rm tc ta wa wr sh fa by_ ch' cl x s v i).2.2 (v_rm tc ta wa wr sh fa by_ ch' cl x s v i).1)
      rw [i3]
      exact s1
    · show (u_rm ch cl x s u i).2.1 + nI (u_y ch cl (u_rm ch cl x s u i).2.2 (u_rm ch cl x s u i).1).2.1 = (v_rm tc ta wa wr sh fa by_ ch' cl x s v i).2.1 + nI (v_y tc ta wa wr sh fa by_ ch' cl (v_rm tc ta wa wr sh fa by_ ch' cl x s v i).2.2 (v_rm tc ta wa wr sh fa by_ ch' cl x s v i).1).2.1
      rw [i2, i3, s2]
    · show ((u_rm ch cl x s u i).2.2 + s).toInt16.toInt32 = ((v_rm tc ta wa wr sh fa by_ ch' cl x s v i).2.2 + s).toInt16.toInt32
      rw [i3]
    · show -32768 ≤ (((v_rm tc ta wa wr sh fa by_ ch' cl x s v i).2.2 + s).toInt16.toInt32).toInt
      rw [Int16.toInt_toInt32]
      have := Int16.le_toInt ((v_rm tc ta wa wr sh fa by_ ch' cl x s v i).2.2 + s).toInt16
      omega
    · show (((v_rm tc ta wa wr sh fa by_ ch' cl x s v i).2.2 + s).toInt16.toInt32).toInt ≤ 32767
      rw [Int16.toInt_toInt32]
      have := Int16.toInt_lt ((v_rm tc ta wa wr sh fa by_ ch' cl x s v i).2.2 + s).toInt16
      omega
