/-- a stage's state, how many have come out, and the row of them, on both sides -/
def RO (i : Nat) (be by_ tc ta wa wr pl bi wo sh fa : Nat → Int32) (w : q_Om) (v : q_Og) : Prop := RSt i w.1 be by_ tc ta wa wr pl bi wo sh fa ∧ RSd i w.1 by_ v.1 ∧ w.2.1 = v.2.1 ∧ ∀ q : Nat, q < v.2.1 → w.2.2 q = v.2.2 q ∧ -32768 ≤ (v.2.2 q).toInt ∧ (v.2.2 q).toInt ≤ 32767
theorem step_rel {be by_ tc ta wa wr pl bi wo sh fa : Nat → Int32} {i : Nat} {x : Int32} {w : q_Om} {v : q_Og} (hx1 : -32768 ≤ x.toInt) (hx2 : x.toInt ≤ 32767) (h : RO i be by_ tc ta wa wr pl bi wo sh fa w v) (hn : v.2.1 < 16) : RO i be by_ tc ta wa wr pl bi wo sh fa (P_step x w) (G_step tc ta wa wr sh fa i (m_thin (by_ i)) x v) := by
  obtain ⟨h1, h2, h3, h4⟩ := h
  obtain ⟨o1, o2, o3⟩ := take_rel hx1 hx2 h1 h2
  obtain ⟨c1, c2, c3⟩ := come_rel o2 o3
  have hr : -32768 ≤ (D_out tc ta wa wr sh fa i x v.1).toInt ∧ (D_out tc ta wa wr sh fa i x v.1).toInt ≤ 32767 := held_rng ..
  have hg : ¬ (16 : Int32) ≤ nI w.2.1 := nI_ge (b := 16) (by omega) (by decide)
  unfold P_step G_step
  by_cases hz : D_phv (D_comes tc ta wa wr sh fa i x v.1) i = 0
  · have hs : S_thin0 (S_take x w.1) = true := c1.mpr hz
    refine ⟨c2, c3, ?_, ?_⟩
    · show (bif S_thin0 (S_take x w.1) && !decide ((16 : Int32) ≤ nI w.2.1) then w.2.1 + 1 else w.2.1) = if _ then v.2.1 + 1 else v.2.1
      rw [hs, decide_eq_false hg, if_pos hz, h3]
      rfl
    · show ∀ q : Nat, q < (if D_phv (D_comes tc ta wa wr sh fa i x v.1) i = 0 then v.2.1 + 1 else v.2.1) → _
      rw [if_pos hz]
      intro q hq
      show (bif S_thin0 (S_take x w.1) && !decide ((16 : Int32) ≤ nI w.2.1) then upd w.2.2 (nI w.2.1).toNatClampNeg (S_out x w.1) else w.2.2) q = (if D_phv (D_comes tc ta wa wr sh fa i x v.1) i = 0 then upd v.2.2 v.2.1 (D_out tc ta wa wr sh fa i x v.1) else v.2.2) q ∧ -32768 ≤ ((if D_phv (D_comes tc ta wa wr sh fa i x v.1) i = 0 then upd v.2.2 v.2.1 (D_out tc ta wa wr sh fa i x v.1) else v.2.2) q).toInt ∧ ((if D_phv (D_comes tc ta wa wr sh fa i x v.1) i = 0 then upd v.2.2 v.2.1 (D_out tc ta wa wr sh fa i x v.1) else v.2.2) q).toInt ≤ 32767
      rw [hs, decide_eq_false hg, if_pos hz, Bool.not_false, Bool.and_self, cond_true, nI_clamp (by omega), h3, o1]
      by_cases hq2 : q = v.2.1
      · subst hq2
        rw [pk_us, pk_us]
        exact ⟨rfl, hr⟩
      · rw [pk_un hq2, pk_un hq2]
        exact h4 q (by omega)
  · have hs : S_thin0 (S_take x w.1) = false := by
      cases e : S_thin0 (S_take x w.1) with
      | false => rfl
      | true => exact absurd (c1.mp e) hz
    refine ⟨c2, c3, ?_, ?_⟩
    · show (bif S_thin0 (S_take x w.1) && !decide ((16 : Int32) ≤ nI w.2.1) then w.2.1 + 1 else w.2.1) = if _ then v.2.1 + 1 else v.2.1
      rw [hs, if_neg hz, h3]
      rfl
    · show ∀ q : Nat, q < (if D_phv (D_comes tc ta wa wr sh fa i x v.1) i = 0 then v.2.1 + 1 else v.2.1) → _
      rw [if_neg hz]
      intro q hq
      show (bif S_thin0 (S_take x w.1) && !decide ((16 : Int32) ≤ nI w.2.1) then upd w.2.2 (nI w.2.1).toNatClampNeg (S_out x w.1) else w.2.2) q = (if D_phv (D_comes tc ta wa wr sh fa i x v.1) i = 0 then upd v.2.2 v.2.1 (D_out tc ta wa wr sh fa i x v.1) else v.2.2) q ∧ -32768 ≤ ((if D_phv (D_comes tc ta wa wr sh fa i x v.1) i = 0 then upd v.2.2 v.2.1 (D_out tc ta wa wr sh fa i x v.1) else v.2.2) q).toInt ∧ ((if D_phv (D_comes tc ta wa wr sh fa i x v.1) i = 0 then upd v.2.2 v.2.1 (D_out tc ta wa wr sh fa i x v.1) else v.2.2) q).toInt ≤ 32767
      rw [hs, if_neg hz]
      exact h4 q hq
