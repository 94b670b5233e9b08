/-! other stages stay as they are -/
def Fq (j : Nat) (D D' : q_Dy) : Prop := (∀ k : Nat, k < 32 → D_ca D' (32 * j + k) = D_ca D (32 * j + k)) ∧ D_phv D' j = D_phv D j ∧ D_cm D' j = D_cm D j ∧ D_km D' j = D_km D j ∧ D_gr D' j = D_gr D j ∧ D_kp D' j = D_kp D j ∧ D_su D' j = D_su D j ∧ D_ro D' j = D_ro D j ∧ D_ou D' j = D_ou D j ∧ D_ex D' j = D_ex D j ∧ D_sz D' j = D_sz D j ∧ D_ww D' j = D_ww D j
theorem Fq_refl (j : Nat) (D : q_Dy) : Fq j D D := ⟨fun _ _ => rfl, rfl, rfl, rfl, rfl, rfl, rfl, rfl, rfl, rfl, rfl, rfl⟩
theorem Fq_trans {j : Nat} {D D' D'' : q_Dy} (h : Fq j D D') (h' : Fq j D' D'') : Fq j D D'' := by
  obtain ⟨a1, a2, a3, a4, a5, a6, a7, a8, a9, a10, a11, a12⟩ := h
  obtain ⟨b1, b2, b3, b4, b5, b6, b7, b8, b9, b10, b11, b12⟩ := h'
  exact ⟨fun k hk => (b1 k hk).trans (a1 k hk), b2.trans a2, b3.trans a3, b4.trans a4, b5.trans a5, b6.trans a6, b7.trans a7, b8.trans a8, b9.trans a9, b10.trans a10, b11.trans a11, b12.trans a12⟩
theorem Fq_comes {tc ta wa wr sh fa : Nat → Int32} {i j : Nat} {x : Int32} {D : q_Dy} (hji : j ≠ i) : Fq j D (D_comes tc ta wa wr sh fa i x D) := by
  obtain ⟨ca, ph, cm, km, gr, kp, su, ro, ou, ex, sz, ww⟩ := D
  exact ⟨fun k hk => dn_other (by omega), rfl, pk_uLn hji, pk_uLn hji, pk_uLn hji, pk_un hji, pk_uLn hji, pk_uLn hji, pk_un hji, pk_uLn hji, pk_uLn hji, pk_un hji⟩
theorem Fq_ph {i j : Nat} {v : Int32} {D : q_Dy} (hji : j ≠ i) : Fq j D (D_ph i v D) := by
  obtain ⟨ca, ph, cm, km, gr, kp, su, ro, ou, ex, sz, ww⟩ := D
  exact ⟨fun k hk => rfl, pk_un hji, rfl, rfl, rfl, rfl, rfl, rfl, rfl, rfl, rfl, rfl⟩
theorem Fq_forget {i j : Nat} {D : q_Dy} (hji : j ≠ i) : Fq j D (D_forget i D) := by
  obtain ⟨ca, ph, cm, km, gr, kp, su, ro, ou, ex, sz, ww⟩ := D
  refine ⟨fun k hk => ?_, pk_un hji, pk_uLn hji, pk_uLn hji, pk_uLn hji, rfl, rfl, rfl, rfl, rfl, rfl, rfl⟩
  show m_clr ca i 32 (32 * j + k) = ca (32 * j + k)
  rw [m_clr_at, if_neg (by omega)]
theorem Fq_step {tc ta wa wr sh fa : Nat → Int32} {i j : Nat} {th x : Int32} {v : q_Og} (hji : j ≠ i) : Fq j v.1 (G_step tc ta wa wr sh fa i th x v).1 := Fq_trans (Fq_comes hji) (Fq_ph hji)
theorem Fq_in {tc ta wa wr sh fa : Nat → Int32} {i j : Nat} {th x : Int32} {v : q_Og} (hji : j ≠ i) : ∀ k : Nat, Fq j v.1 (G_in tc ta wa wr sh fa i th x v k).1
  | 0 => Fq_refl j v.1
  | k + 1 => Fq_trans (Fq_in hji k) (Fq_step hji)
theorem Fq_out {tc ta wa wr sh fa ir : Nat → Int32} {i j e : Nat} {th : Int32} {v : q_Og} (hji : j ≠ i) : ∀ k : Nat, Fq j v.1 (G_out tc ta wa wr sh fa i th e ir v k).1
  | 0 => Fq_refl j v.1
  | k + 1 => Fq_trans (Fq_out hji k) (Fq_in hji e)
/-- all of a stage's relation -/
def RA (i : Nat) (X : q_St) (be by_ tc ta wa wr pl bi wo sh fa : Nat → Int32) (D : q_Dy) : Prop := RSt i X be by_ tc ta wa wr pl bi wo sh fa ∧ RSd i X by_ D ∧ RX i X be tc ta pl sh fa D
def Sq (j : Nat) (be by_ tc ta wa wr pl bi wo sh fa be' by' tc' ta' wa' wr' pl' bi' wo' sh' fa' : Nat → Int32) : Prop := (be' j = be j ∧ by' j = by_ j ∧ tc' j = tc j ∧ wa' j = wa j ∧ wr' j = wr j ∧ pl' j = pl j ∧ bi' j = bi j ∧ wo' j = wo j ∧ sh' j = sh j) ∧ ∀ k : Nat, k < 32 → ta' (32 * j + k) = ta (32 * j + k) ∧ fa' (32 * j + k) = fa (32 * j + k)
theorem nrm_fr {fa fa' : Nat → Int32} {j : Nat} (h : ∀ k : Nat, k < 32 → fa' (32 * j + k) = fa (32 * j + k)) : ∀ t : Nat, t ≤ 32 → m_nrm fa' j t = m_nrm fa j t
  | 0, _ => rfl
  | t + 1, ht => by
    show m_nrm fa' j t + m_abs (fa' (32 * j + t)).toInt64 = m_nrm fa j t + m_abs (fa (32 * j + t)).toInt64
    rw [nrm_fr h t (by omega), h t (by omega)]
theorem RSt_fr {j : Nat} {X : q_St} {be by_ tc ta wa wr pl bi wo sh fa be' by' tc' ta' wa' wr' pl' bi' wo' sh' fa' : Nat → Int32} (hs : Sq j be by_ tc ta wa wr pl bi wo sh fa be' by' tc' ta' wa' wr' pl' bi' wo' sh' fa') (h : RSt j X be by_ tc ta wa wr pl bi wo sh fa) : RSt j X be' by' tc' ta' wa' wr' pl' bi' wo' sh' fa' := by
  obtain ⟨⟨e1, e2, e3, e4, e5, e6, e7, e8, e9⟩, et⟩ := hs
  obtain ⟨a1, a2, a3, a4, a5, a6, a7, a8, a9, a10⟩ := h
  refine ⟨?_, ?_, ?_, fun k hk => ?_, ?_, ?_, ?_, ?_, ?_, fun k hk => ?_⟩
  · rw [e1]; exact a1
  · rw [e2]; exact a2
  · rw [e3]; exact a3
  · rw [(et k hk).1]; exact a4 k hk
  · rw [e4]; exact a5
  · rw [e5]; exact a6
  · rw [e6]; exact a7
  · rw [e7, e8]; exact a8
  · rw [e9]; exact a9
  · rw [(et k hk).2]; exact a10 k hk
theorem RSd_fr {j : Nat} {X : q_St} {by_ by' : Nat → Int32} {D D' : q_Dy} (hb : by' j = by_ j) (hf : Fq j D D') (h : RSd j X by_ D) : RSd j X by' D' := by
  obtain ⟨f1, f2, f3, f4, f5, f6, f7, f8, f9, f10, f11, f12⟩ := hf
  obtain ⟨⟨r, hr, h1, h2⟩, h3, h4, h5, h6⟩ := h
  refine ⟨⟨r, hr, h1, fun k hk => ?_⟩, fun k hk => ?_, ?_, ?_, ?_⟩
  · rw [f1 k hk]; exact h2 k hk
  · rw [f1 k hk]; exact h3 k hk
  · rw [hb, f2]; exact h4
  · rw [f3, f4, f5]; exact h5
  · rw [f7, f8, f9, f10, f11, f12]; exact h6
theorem RX_fr {j : Nat} {X : q_St} {be by_ tc ta wa wr pl bi wo sh fa be' by' tc' ta' wa' wr' pl' bi' wo' sh' fa' : Nat → Int32} {D D' : q_Dy} (hs : Sq j be by_ tc ta wa wr pl bi wo sh fa be' by' tc' ta' wa' wr' pl' bi' wo' sh' fa') (hf : Fq j D D') (hc : (tc j).toNatClampNeg ≤ 32) (h : RX j X be tc ta pl sh fa D) : RX j X be' tc' ta' pl' sh' fa' D' := by
  obtain ⟨⟨e1, e2, e3, e4, e5, e6, e7, e8, e9⟩, et⟩ := hs
  obtain ⟨f1, f2, f3, f4, f5, f6, f7, f8, f9, f10, f11, f12⟩ := hf
  have em : m_ht pl' (D_kp D') j = m_ht pl (D_kp D) j := by
    unfold m_ht
    rw [e6, f6]
  obtain ⟨x1, x2, x3⟩ := h
  refine ⟨?_, fun hp => ?_, fun hm => ?_⟩
  · rw [em]; exact x1
  · rw [e6] at hp
    obtain ⟨y1, y2⟩ := x2 hp
    rw [e3, e9, e1]
    refine ⟨y1.trans (nrm_fr (fun k hk => (et k hk).2) _ hc).symm, fun k hk => ?_⟩
    rw [(et k (by omega)).1, (et k (by omega)).2]
    exact y2 k hk
  · rw [em] at hm
    rw [f8, f10, f11, f12, e9, e1]
    exact x3 hm
theorem RA_fr {j : Nat} {X : q_St} {be by_ tc ta wa wr pl bi wo sh fa be' by' tc' ta' wa' wr' pl' bi' wo' sh' fa' : Nat → Int32} {D D' : q_Dy} (hs : Sq j be by_ tc ta wa wr pl bi wo sh fa be' by' tc' ta' wa' wr' pl' bi' wo' sh' fa') (hf : Fq j D D') (h : RA j X be by_ tc ta wa wr pl bi wo sh fa D) : RA j X be' by' tc' ta' wa' wr' pl' bi' wo' sh' fa' D' := by
  obtain ⟨h1, h2, h3⟩ := h
  obtain ⟨_, _, ⟨_, c, hc, e2⟩, _⟩ := id h1
  exact ⟨RSt_fr hs h1, RSd_fr hs.1.2.1 hf h2, RX_fr hs hf (by rw [e2, nI_clamp (by omega)]; exact hc) h3⟩
theorem Sq_refl (j : Nat) (be by_ tc ta wa wr pl bi wo sh fa : Nat → Int32) : Sq j be by_ tc ta wa wr pl bi wo sh fa be by_ tc ta wa wr pl bi wo sh fa := ⟨⟨rfl, rfl, rfl, rfl, rfl, rfl, rfl, rfl, rfl⟩, fun _ _ => ⟨rfl, rfl⟩⟩
/-- pass against goes, with the rest -/
theorem step_relX {be by_ tc ta wa wr pl bi wo sh fa : Nat → Int32} {i : Nat} {x : Int32} {w : q_Om} {v : q_Og} (hp : ¬ pl i = 0) (hx1 : -32768 ≤ x.toInt) (hx2 : x.toInt ≤ 32767) (h : RO i be by_ tc ta wa wr pl bi wo sh fa w v) (hX : RX i w.1 be tc ta pl sh fa v.1) : RX i (P_step x w).1 be tc ta pl sh fa (G_step tc ta wa wr sh fa i (m_thin (by_ i)) x v).1 := take_relX hx1 hx2 hp h.1 h.2.1 hX
theorem in_relX {be by_ tc ta wa wr pl bi wo sh fa : Nat → Int32} {i : Nat} {x : Int32} {w : q_Om} {v : q_Og} (hp : ¬ pl i = 0) (hx1 : -32768 ≤ x.toInt) (hx2 : x.toInt ≤ 32767) (h : RO i be by_ tc ta wa wr pl bi wo sh fa w v) (hX : RX i w.1 be tc ta pl sh fa v.1) : ∀ k : Nat, v.2.1 + k ≤ 16 → RX i (P_in x w k).1 be tc ta pl sh fa (G_in tc ta wa wr sh fa i (m_thin (by_ i)) x v k).1
  | 0, _ => hX
  | k + 1, hk => by
    have ih := in_relX hp hx1 hx2 h hX k (by omega)
    have hr := in_rel hx1 hx2 h k (by omega)
    have e0 : (0 : Int32).toInt = 0 := by decide
    show RX i (P_step (if nI k = 0 then x else 0) (P_in x w k)).1 be tc ta pl sh fa (G_step tc ta wa wr sh fa i (m_thin (by_ i)) (if nI k = 0 then x else 0) (G_in tc ta wa wr sh fa i (m_thin (by_ i)) x v k)).1
    by_cases hz : nI k = 0
    · rw [if_pos hz]
      exact step_relX hp hx1 hx2 hr ih
    · rw [if_neg hz]
      exact step_relX hp (by rw [e0]; decide) (by rw [e0]; decide) hr ih
theorem out_relX {be by_ tc ta wa wr pl bi wo sh fa fr ir : Nat → Int32} {i e m : Nat} {w : q_Om} {v : q_Og} (hp : ¬ pl i = 0) (hm : m ≤ 16) (hf : ∀ q : Nat, q < m → fr q = ir q ∧ -32768 ≤ (ir q).toInt ∧ (ir q).toInt ≤ 32767) (h : RO i be by_ tc ta wa wr pl bi wo sh fa w v) (hX : RX i w.1 be tc ta pl sh fa v.1) : ∀ t : Nat, t ≤ m → v.2.1 + t * e ≤ 16 → RX i (P_out fr e w t).1 be tc ta pl sh fa (G_out tc ta wa wr sh fa i (m_thin (by_ i)) e ir v t).1
  | 0, _, _ => hX
  | t + 1, ht, hb => by
    have h3 : (t + 1) * e = t * e + e := by rw [Nat.add_mul, Nat.one_mul]
    have ih := out_relX (e := e) hp hm hf h hX t (by omega) (by omega)
    have hr := out_rel (e := e) hm hf h t (by omega) (by omega)
    have hle := G_out_le (tc := tc) (ta := ta) (wa := wa) (wr := wr) (sh := sh) (fa := fa) (j := i) (th := m_thin (by_ i)) (e := e) (ir := ir) (w0 := v) t
    show RX i (P_in (fr (nI t).toNatClampNeg) (P_out fr e w t) e).1 be tc ta pl sh fa (G_in tc ta wa wr sh fa i (m_thin (by_ i)) (ir t) (G_out tc ta wa wr sh fa i (m_thin (by_ i)) e ir v t) e).1
    rw [nI_clamp (by omega), (hf t (by omega)).1]
    exact in_relX hp (hf t (by omega)).2.1 (hf t (by omega)).2.2 hr ih e (by omega)
