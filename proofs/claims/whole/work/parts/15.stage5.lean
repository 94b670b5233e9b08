/-! what a stage does, over its whole state -/
def S_out (x : Int32) : q_St → Int32 := fun (below, by_, tc, way, wr, thin, cin, hld, gst, taps, pst, bits, word, shift, psz, fac, lst, sum, ex, rnd, out, ssz, rby, wds, rhd) => (s_held (s_round (s_sum fac (r_psh wds rhd x) (r_ph rhd) tc.toNatClampNeg) shift way) wr)
def S_take (x : Int32) : q_St → q_St := fun (below, by_, tc, way, wr, thin, cin, hld, gst, taps, pst, bits, word, shift, psz, fac, lst, sum, ex, rnd, out, ssz, rby, wds, rhd) =>
  (below, by_, tc, way, wr, thin, cin + 1, if (s_held (s_round (s_sum fac (r_psh wds rhd x) (r_ph rhd) tc.toNatClampNeg) shift way) wr).toInt64 = (s_round (s_sum fac (r_psh wds rhd x) (r_ph rhd) tc.toNatClampNeg) shift way) then hld else hld + 1, m_max gst (m_abs (s_sum fac (r_psh wds rhd x) (r_ph rhd) tc.toNatClampNeg)), taps, pst, bits, word, shift, psz, fac, 1, (s_sum fac (r_psh wds rhd x) (r_ph rhd) tc.toNatClampNeg), (s_ex tc taps (r_psh wds rhd x) (r_ph rhd) tc.toNatClampNeg), (s_round (s_sum fac (r_psh wds rhd x) (r_ph rhd) tc.toNatClampNeg) shift way), (s_held (s_round (s_sum fac (r_psh wds rhd x) (r_ph rhd) tc.toNatClampNeg) shift way) wr), (s_sz (r_psh wds rhd x) (r_ph rhd) tc.toNatClampNeg), way, (r_psh wds rhd x), (r_ph rhd))
def S_come : q_St → q_St := fun (below, by_, tc, way, wr, thin, cin, hld, gst, taps, pst, bits, word, shift, psz, fac, lst, sum, ex, rnd, out, ssz, rby, wds, rhd) => (below, by_, tc, way, wr, s_thin thin by_, cin, hld, gst, taps, pst, bits, word, shift, psz, fac, lst, sum, ex, rnd, out, ssz, rby, wds, rhd)
def S_thin0 : q_St → Bool := fun (below, by_, tc, way, wr, thin, cin, hld, gst, taps, pst, bits, word, shift, psz, fac, lst, sum, ex, rnd, out, ssz, rby, wds, rhd) => decide (thin ≤ 0)
def S_forget : q_St → q_St := fun (below, by_, tc, way, wr, thin, cin, hld, gst, taps, pst, bits, word, shift, psz, fac, lst, sum, ex, rnd, out, ssz, rby, wds, rhd) => (below, by_, tc, way, wr, 0, 0, 0, 0, taps, pst, bits, word, shift, psz, fac, lst, sum, ex, rnd, out, ssz, rby, r_clr wds 32, 0)
def S_drop : q_St → q_St := fun (below, by_, tc, way, wr, thin, cin, hld, gst, taps, pst, bits, word, shift, psz, fac, lst, sum, ex, rnd, out, ssz, rby, wds, rhd) => (below, by_, tc, way, wr, thin, cin, hld, gst, taps, 0, bits, word, shift, psz, fac, 0, sum, ex, rnd, out, ssz, rby, wds, rhd)
def S_setPlan (bb ww ss : Int32) : q_St → q_St := fun (below, by_, tc, way, wr, thin, cin, hld, gst, taps, pst, bits, word, shift, psz, fac, lst, sum, ex, rnd, out, ssz, rby, wds, rhd) =>
  (below, by_, tc, way, wr, 0, 0, 0, 0, taps, 1, bb, ww, ss, s_pz tc below taps ss tc.toNatClampNeg, s_pf tc below taps ss fac tc.toNatClampNeg, 0, sum, ex, rnd, out, ssz, rby, r_clr wds 32, 0)
def S_setTap (k x : Int32) : q_St → q_St := fun (below, by_, tc, way, wr, thin, cin, hld, gst, taps, pst, bits, word, shift, psz, fac, lst, sum, ex, rnd, out, ssz, rby, wds, rhd) => (below, by_, tc, way, wr, thin, cin, hld, gst, bif s_ok tc k then upd taps k.toNatClampNeg x else taps, pst, bits, word, shift, psz, fac, lst, sum, ex, rnd, out, ssz, rby, wds, rhd)
def S_addTap (x : Int32) : q_St → q_St := fun (below, by_, tc, way, wr, thin, cin, hld, gst, taps, pst, bits, word, shift, psz, fac, lst, sum, ex, rnd, out, ssz, rby, wds, rhd) => (below, by_, bif s_roomy tc then tc + 1 else tc, way, wr, thin, cin, hld, gst, bif s_roomy tc then upd taps tc.toNatClampNeg x else taps, pst, bits, word, shift, psz, fac, lst, sum, ex, rnd, out, ssz, rby, wds, rhd)
def S_safe (bb ww ss : Int32) : q_St → Bool := fun (below, by_, tc, way, wr, thin, cin, hld, gst, taps, pst, bits, word, shift, psz, fac, lst, sum, ex, rnd, out, ssz, rby, wds, rhd) => s_isSafe tc below taps tc.toNatClampNeg bb ww ss
def S_sym : q_St → Int32 := fun (below, by_, tc, way, wr, thin, cin, hld, gst, taps, pst, bits, word, shift, psz, fac, lst, sum, ex, rnd, out, ssz, rby, wds, rhd) => s_sym tc taps tc.toNatClampNeg
def S_mix (g : Int64) : q_St → Int64 := fun (below, by_, tc, way, wr, thin, cin, hld, gst, taps, pst, bits, word, shift, psz, fac, lst, sum, ex, rnd, out, ssz, rby, wds, rhd) => if pst = 0 then x_m1 tc taps g tc.toNatClampNeg else x_m3 wds rhd (x_m2 fac (x_m1 tc taps g tc.toNatClampNeg) tc.toNatClampNeg) tc.toNatClampNeg
def S_tc : q_St → Int32 := fun (below, by_, tc, way, wr, thin, cin, hld, gst, taps, pst, bits, word, shift, psz, fac, lst, sum, ex, rnd, out, ssz, rby, wds, rhd) => tc
def S_by : q_St → Int32 := fun (below, by_, tc, way, wr, thin, cin, hld, gst, taps, pst, bits, word, shift, psz, fac, lst, sum, ex, rnd, out, ssz, rby, wds, rhd) => by_
def S_ok (S : q_St) : Prop := ∃ c : Nat, c ≤ 32 ∧ S_tc S = nI c
theorem w_take {f : q_Hp} {n p : Nat} {S : q_St} {x : Int32} (h : S_ok S) : Sp yX3_take uX3_take [.ref p, .int x] n (q_blk f p (stE p S)) (some (.int (S_out x S)), n, q_blk f p (stE p (S_take x S))) := by
  obtain ⟨below, by_, tc, way, wr, thin, cin, hld, gst, taps, pst, bits, word, shift, psz, fac, lst, sum, ex, rnd, out, ssz, rby, wds, rhd⟩ := S
  obtain ⟨c, hc, h⟩ := h
  have h : tc = nI c := h
  subst h
  have e := nI_clamp (n := c) (by omega)
  simp only [S_out, S_take, e]
  exact c_X3_take hc

theorem w_come {f : q_Hp} {n p : Nat} {S : q_St} : Sp yX3_comesOut uX3_comesOut [.ref p] n (q_blk f p (stE p S)) (some (.int (q_b (S_thin0 S))), n, q_blk f p (stE p (S_come S))) := by
  obtain ⟨below, by_, tc, way, wr, thin, cin, hld, gst, taps, pst, bits, word, shift, psz, fac, lst, sum, ex, rnd, out, ssz, rby, wds, rhd⟩ := S
  exact c_X3_comesOut

theorem w_forget {f : q_Hp} {n p : Nat} {S : q_St} : Sp yX3_forget uX3_forget [.ref p] n (q_blk f p (stE p S)) (none, n, q_blk f p (stE p (S_forget S))) := by
  obtain ⟨below, by_, tc, way, wr, thin, cin, hld, gst, taps, pst, bits, word, shift, psz, fac, lst, sum, ex, rnd, out, ssz, rby, wds, rhd⟩ := S
  exact c_X3_forget

theorem w_drop {f : q_Hp} {n p : Nat} {S : q_St} : Sp yX3_dropPlan uX3_dropPlan [.ref p] n (q_blk f p (stE p S)) (none, n, q_blk f p (stE p (S_drop S))) := by
  obtain ⟨below, by_, tc, way, wr, thin, cin, hld, gst, taps, pst, bits, word, shift, psz, fac, lst, sum, ex, rnd, out, ssz, rby, wds, rhd⟩ := S
  exact c_X3_dropPlan

theorem w_setPlan {f : q_Hp} {n p : Nat} {S : q_St} {bb ww ss : Int32} (h : S_ok S) : Sp yX3_setPlan uX3_setPlan [.ref p, .int bb, .int ww, .int ss] n (q_blk f p (stE p S)) (none, n, q_blk f p (stE p (S_setPlan bb ww ss S))) := by
  obtain ⟨below, by_, tc, way, wr, thin, cin, hld, gst, taps, pst, bits, word, shift, psz, fac, lst, sum, ex, rnd, out, ssz, rby, wds, rhd⟩ := S
  obtain ⟨c, hc, h⟩ := h
  have h : tc = nI c := h
  subst h
  have e := nI_clamp (n := c) (by omega)
  simp only [S_setPlan, e]
  exact c_X3_setPlan hc

theorem w_setTap {f : q_Hp} {n p : Nat} {S : q_St} {k x : Int32} : Sp yX3_setTap uX3_setTap [.ref p, .int k, .int x] n (q_blk f p (stE p S)) (none, n, q_blk f p (stE p (S_setTap k x S))) := by
  obtain ⟨below, by_, tc, way, wr, thin, cin, hld, gst, taps, pst, bits, word, shift, psz, fac, lst, sum, ex, rnd, out, ssz, rby, wds, rhd⟩ := S
  exact c_X3_setTap

theorem w_addTap {f : q_Hp} {n p : Nat} {S : q_St} {x : Int32} : Sp yX3_addTap uX3_addTap [.ref p, .int x] n (q_blk f p (stE p S)) (some (.int (q_b (s_roomy (S_tc S)))), n, q_blk f p (stE p (S_addTap x S))) := by
  obtain ⟨below, by_, tc, way, wr, thin, cin, hld, gst, taps, pst, bits, word, shift, psz, fac, lst, sum, ex, rnd, out, ssz, rby, wds, rhd⟩ := S
  exact c_X3_addTap

theorem w_isSafe {f : q_Hp} {n p : Nat} {S : q_St} {bb ww ss : Int32} (h : S_ok S) : Sp yX3_isSafe uX3_isSafe [.ref p, .int bb, .int ww, .int ss] n (q_blk f p (stE p S)) (some (.int (q_b (S_safe bb ww ss S))), n, q_blk f p (stE p S)) := by
  obtain ⟨below, by_, tc, way, wr, thin, cin, hld, gst, taps, pst, bits, word, shift, psz, fac, lst, sum, ex, rnd, out, ssz, rby, wds, rhd⟩ := S
  obtain ⟨c, hc, h⟩ := h
  have h : tc = nI c := h
  subst h
  have e := nI_clamp (n := c) (by omega)
  simp only [S_safe, e]
  exact c_X3_isSafe hc

theorem w_sym {f : q_Hp} {n p : Nat} {S : q_St} (h : S_ok S) : Sp yX3_symmetry uX3_symmetry [.ref p] n (q_blk f p (stE p S)) (some (.int (S_sym S)), n, q_blk f p (stE p S)) := by
  obtain ⟨below, by_, tc, way, wr, thin, cin, hld, gst, taps, pst, bits, word, shift, psz, fac, lst, sum, ex, rnd, out, ssz, rby, wds, rhd⟩ := S
  obtain ⟨c, hc, h⟩ := h
  have h : tc = nI c := h
  subst h
  have e := nI_clamp (n := c) (by omega)
  simp only [S_sym, e]
  exact c_X3_symmetry hc

theorem w_mix {f : q_Hp} {n p : Nat} {S : q_St} {g : Int64} (h : S_ok S) : Sp yX3_mixRows uX3_mixRows [.ref p, .long g] n (q_blk f p (stE p S)) (some (.long (S_mix g S)), n, q_blk f p (stE p S)) := by
  obtain ⟨below, by_, tc, way, wr, thin, cin, hld, gst, taps, pst, bits, word, shift, psz, fac, lst, sum, ex, rnd, out, ssz, rby, wds, rhd⟩ := S
  obtain ⟨c, hc, h⟩ := h
  have h : tc = nI c := h
  subst h
  have e := nI_clamp (n := c) (by omega)
  simp only [S_mix, e]
  exact c_X3_mixRows hc

theorem w_fill {f : q_Hp} {n p : Nat} {S : q_St} : Sp yX3_filling uX3_filling [.ref p] n (q_blk f p (stE p S)) (some (.int (s_fill (S_by S))), n, q_blk f p (stE p S)) := by
  obtain ⟨below, by_, tc, way, wr, thin, cin, hld, gst, taps, pst, bits, word, shift, psz, fac, lst, sum, ex, rnd, out, ssz, rby, wds, rhd⟩ := S
  exact c_X3_filling

abbrev q_Om : Type := q_St × Nat × (Nat → Int32)
def P_step (x : Int32) (w : q_Om) : q_Om := (S_come (S_take x w.1), bif S_thin0 (S_take x w.1) && !decide ((16 : Int32) ≤ nI w.2.1) then w.2.1 + 1 else w.2.1, bif S_thin0 (S_take x w.1) && !decide ((16 : Int32) ≤ nI w.2.1) then upd w.2.2 (nI w.2.1).toNatClampNeg (S_out x w.1) else w.2.2)
def P_in (x : Int32) (w0 : q_Om) : Nat → q_Om
  | 0 => w0
  | j + 1 => P_step (if nI j = 0 then x else 0) (P_in x w0 j)
def P_out (fr : Nat → Int32) (e : Nat) (w0 : q_Om) : Nat → q_Om
  | 0 => w0
  | i + 1 => P_in (fr (nI i).toNatClampNeg) (P_out fr e w0 i) e
theorem S_tc_take (x : Int32) (S : q_St) : S_tc (S_take x S) = S_tc S := rfl
theorem S_tc_come (S : q_St) : S_tc (S_come S) = S_tc S := rfl
theorem S_by_take (x : Int32) (S : q_St) : S_by (S_take x S) = S_by S := rfl
theorem S_by_come (S : q_St) : S_by (S_come S) = S_by S := rfl
theorem P_step_ok {x : Int32} {w : q_Om} (h : S_ok w.1 ∧ w.2.1 ≤ 16) : S_ok (P_step x w).1 ∧ (P_step x w).2.1 ≤ 16 := by
  obtain ⟨⟨c, hc, h1⟩, h2⟩ := h
  refine ⟨⟨c, hc, h1⟩, ?_⟩
  show (bif S_thin0 (S_take x w.1) && !decide ((16 : Int32) ≤ nI w.2.1) then w.2.1 + 1 else w.2.1) ≤ 16
  by_cases h3 : w.2.1 = 16
  · rw [h3]
    cases S_thin0 (S_take x w.1) <;> decide
  · cases (S_thin0 (S_take x w.1) && !decide ((16 : Int32) ≤ nI w.2.1))
    · exact h2
    · show w.2.1 + 1 ≤ 16
      omega
theorem P_in_ok {x : Int32} {w0 : q_Om} (h : S_ok w0.1 ∧ w0.2.1 ≤ 16) : ∀ j : Nat, S_ok (P_in x w0 j).1 ∧ (P_in x w0 j).2.1 ≤ 16
  | 0 => h
  | j + 1 => P_step_ok (P_in_ok h j)
theorem P_out_ok {fr : Nat → Int32} {e : Nat} {w0 : q_Om} (h : S_ok w0.1 ∧ w0.2.1 ≤ 16) : ∀ j : Nat, S_ok (P_out fr e w0 j).1 ∧ (P_out fr e w0 j).2.1 ≤ 16
  | 0 => h
  | j + 1 => P_in_ok (P_out_ok h j) e
theorem q_rdA {f : q_Hp} {a b p : Nat} {es : List q_E} {e e' : q_E} (ha : f a = some e) (hab : a ≠ b) (hA : a < p ∨ p + es.length ≤ a) : q_blk (q_up f b e') p es a = some e := by
  rw [q_blk_out hA, q_up_ne _ _ hab]
  exact ha
theorem q_rdB {f : q_Hp} {b p : Nat} {es : List q_E} {e' : q_E} (hB : b < p ∨ p + es.length ≤ b) : q_blk (q_up f b e') p es b = some e' := by
  rw [q_blk_out hB, q_up_self]
theorem q_wrB {f : q_Hp} {b p : Nat} {es : List q_E} {e e2 : q_E} (hB : b < p ∨ p + es.length ≤ b) : q_up (q_blk (q_up f b e) p es) b e2 = q_blk (q_up f b e2) p es := by
  funext q
  by_cases hq : q = b
  · subst hq
    rw [q_up_self, q_rdB hB]
  · rw [q_up_ne _ _ hq]
    unfold q_blk
    rw [q_up_ne _ _ hq, q_up_ne _ _ hq]
set_option maxHeartbeats 4000000 in
set_option maxRecDepth 100000 in
theorem lp_X3_pass_in {G : q_G} {d : q_D} {z : q_Z} {f : q_Hp} {n p a b m e : Nat} {fr : Nat → Int32} {w0 : q_Om} {t : Nat} (ha : f a = some (.inl (0, 16, .inl fr))) (hab : a ≠ b) (hA : a < p ∨ p + 7 ≤ a) (hB : b < p ∨ p + 7 ≤ b) (hw : S_ok w0.1 ∧ w0.2.1 ≤ 16) (hm : m ≤ 16) (he : e ≤ 4) (ht : t < 16) (hx : J G d uX3_pass z 0 0 n 83 (q_l [(0, .ref p), (1, .ref a), (2, .int (nI m)), (3, .ref b), (4, .int (nI (P_in (fr (nI t).toNatClampNeg) w0 e).2.1)), (5, .int (nI e)), (6, .int (nI t)), (7, .int (nI e))]) [] (q_blk (q_up f b (.inl (0, 16, .inl (P_in (fr (nI t).toNatClampNeg) w0 e).2.2))) p (stE p (P_in (fr (nI t).toNatClampNeg) w0 e).1))) : ∀ (k i : Nat), i + k = e → J G d uX3_pass z 0 0 n 28 (q_l [(0, .ref p), (1, .ref a), (2, .int (nI m)), (3, .ref b), (4, .int (nI (P_in (fr (nI t).toNatClampNeg) w0 i).2.1)), (5, .int (nI e)), (6, .int (nI t)), (7, .int (nI i))]) [] (q_blk (q_up f b (.inl (0, 16, .inl (P_in (fr (nI t).toNatClampNeg) w0 i).2.2))) p (stE p (P_in (fr (nI t).toNatClampNeg) w0 i).1)) := by
  intro k
  induction k with
  | zero =>
    intro i hi
    rw [show i = e by omega]
    refine q_iload dX3_pass_28 rfl ?_
    refine q_iload dX3_pass_30 rfl ?_
    refine q_icmp_ge (tgt := 83) dX3_pass_32 (by decide) (fun c_32 => ?_) (fun h_n => absurd ((Int32.le_refl _)) h_n)
    exact q_lo [(0, .ref p), (1, .ref a), (2, .int (nI m)), (3, .ref b), (4, .int (nI (P_in (fr (nI t).toNatClampNeg) w0 e).2.1)), (5, .int (nI e)), (6, .int (nI t)), (7, .int (nI e))] ⟨rfl, rfl, rfl, rfl, rfl, rfl, rfl, rfl, trivial⟩ hx
  | succ k ih =>
    intro i hi
    refine q_iload dX3_pass_28 rfl ?_
    refine q_iload dX3_pass_30 rfl ?_
    refine q_icmp_ge (tgt := 83) dX3_pass_32 (by decide) (fun h_n => absurd h_n ((nI_ge (by omega) (by omega)))) (fun c_32 => ?_)
    refine q_aload_n dX3_pass_35 rfl ?_
    refine q_iload dX3_pass_36 rfl ?_
    refine q_if_ne (tgt := 48) dX3_pass_38 (by decide) (fun c_38 => ?_) (fun c_38 => ?_)
    · refine q_iconst dX3_pass_48 (v := 0) (by decide) ?_
      refine q_cW (w_take (P_in_ok hw i).1) dX3_pass_49 kl_X3_108 rfl (q_blk_get (j := 0) rfl) rfl ⟨q_le rfl, q_le rfl⟩ (q_le rfl) (q_le rfl) (q_le rfl) ?_
      refine q_istore dX3_pass_52 (q_le rfl) ?_
      refine q_aload_n dX3_pass_54 rfl ?_
      refine q_cW (w_come) dX3_pass_55 kl_X3_111 rfl (q_blk_get (j := 0) rfl) rfl ⟨q_le rfl, q_le rfl⟩ (q_le rfl) (q_le rfl) (q_le rfl) ?_
      refine q_ifeq_b (tgt := 77) dX3_pass_58 (by decide) (fun c_58 => ?_) (fun c_58 => ?_)
      · refine q_iinc dX3_pass_77 rfl (v := nI (i + 1)) (nI_1 i) ?_
        refine q_goto (tgt := 28) dX3_pass_80 (by decide) ?_
        have hP : (P_in (fr (nI t).toNatClampNeg) w0 (i + 1)) = (S_come (S_take 0 (P_in (fr (nI t).toNatClampNeg) w0 i).1), (P_in (fr (nI t).toNatClampNeg) w0 i).2.1, (P_in (fr (nI t).toNatClampNeg) w0 i).2.2) := by
          simp only [P_in, P_step, c_38, if_true, if_false]
          simp [c_58]
        have hI := ih (i + 1) (by omega)
        rw [hP] at hI
        exact q_lo [(0, .ref p), (1, .ref a), (2, .int (nI m)), (3, .ref b), (4, .int (nI ((P_in (fr (nI t).toNatClampNeg) w0 i).2.1))), (5, .int (nI e)), (6, .int (nI t)), (7, .int (nI (i + 1)))] ⟨rfl, rfl, rfl, rfl, rfl, rfl, rfl, rfl, trivial⟩ hI
      · refine q_iload dX3_pass_61 rfl ?_
        refine q_aload_n dX3_pass_63 rfl ?_
        refine q_alen dX3_pass_64 (q_rdB hB) rfl (v := 16) rfl ?_
        refine q_icmp_ge (tgt := 77) dX3_pass_65 (by decide) (fun c_65 => ?_) (fun c_65 => ?_)
        · refine q_iinc dX3_pass_77 rfl (v := nI (i + 1)) (nI_1 i) ?_
          refine q_goto (tgt := 28) dX3_pass_80 (by decide) ?_
          have hP : (P_in (fr (nI t).toNatClampNeg) w0 (i + 1)) = (S_come (S_take 0 (P_in (fr (nI t).toNatClampNeg) w0 i).1), (P_in (fr (nI t).toNatClampNeg) w0 i).2.1, (P_in (fr (nI t).toNatClampNeg) w0 i).2.2) := by
            simp only [P_in, P_step, c_38, if_true, if_false]
            simp [c_58, c_65]
          have hI := ih (i + 1) (by omega)
          rw [hP] at hI
          exact q_lo [(0, .ref p), (1, .ref a), (2, .int (nI m)), (3, .ref b), (4, .int (nI ((P_in (fr (nI t).toNatClampNeg) w0 i).2.1))), (5, .int (nI e)), (6, .int (nI t)), (7, .int (nI (i + 1)))] ⟨rfl, rfl, rfl, rfl, rfl, rfl, rfl, rfl, trivial⟩ hI
        · refine q_aload_n dX3_pass_68 rfl ?_
          refine q_iload dX3_pass_69 rfl ?_
          refine q_iload dX3_pass_71 rfl ?_
          refine q_iast dX3_pass_73 (q_rdB hB) (q_vq (M := 16) (nI_pos (by have := (P_in_ok (x := fr (nI t).toNatClampNeg) hw i).2; omega)) c_65 (by decide) (by decide)) ?_
          refine q_heap (q_wrB hB) ?_
          refine q_iinc dX3_pass_74 rfl (v := nI ((P_in (fr (nI t).toNatClampNeg) w0 i).2.1 + 1)) (nI_1 _) ?_
          refine q_iinc dX3_pass_77 rfl (v := nI (i + 1)) (nI_1 i) ?_
          refine q_goto (tgt := 28) dX3_pass_80 (by decide) ?_
          have hP : (P_in (fr (nI t).toNatClampNeg) w0 (i + 1)) = (S_come (S_take 0 (P_in (fr (nI t).toNatClampNeg) w0 i).1), (P_in (fr (nI t).toNatClampNeg) w0 i).2.1 + 1, upd (P_in (fr (nI t).toNatClampNeg) w0 i).2.2 (nI (P_in (fr (nI t).toNatClampNeg) w0 i).2.1).toNatClampNeg (S_out 0 (P_in (fr (nI t).toNatClampNeg) w0 i).1)) := by
            simp only [P_in, P_step, c_38, if_true, if_false]
            simp [c_58, c_65]
          have hI := ih (i + 1) (by omega)
          rw [hP] at hI
          exact q_lo [(0, .ref p), (1, .ref a), (2, .int (nI m)), (3, .ref b), (4, .int (nI ((P_in (fr (nI t).toNatClampNeg) w0 i).2.1 + 1))), (5, .int (nI e)), (6, .int (nI t)), (7, .int (nI (i + 1)))] ⟨rfl, rfl, rfl, rfl, rfl, rfl, rfl, rfl, trivial⟩ hI
    · refine q_aload_n dX3_pass_41 rfl ?_
      refine q_iload dX3_pass_42 rfl ?_
      refine q_iald dX3_pass_44 (q_rdA ha hab hA) (vp_in_nI ht (by decide)) ?_
      refine q_goto (tgt := 49) dX3_pass_45 (by decide) ?_
      refine q_cW (w_take (P_in_ok hw i).1) dX3_pass_49 kl_X3_108 rfl (q_blk_get (j := 0) rfl) rfl ⟨q_le rfl, q_le rfl⟩ (q_le rfl) (q_le rfl) (q_le rfl) ?_
      refine q_istore dX3_pass_52 (q_le rfl) ?_
      refine q_aload_n dX3_pass_54 rfl ?_
      refine q_cW (w_come) dX3_pass_55 kl_X3_111 rfl (q_blk_get (j := 0) rfl) rfl ⟨q_le rfl, q_le rfl⟩ (q_le rfl) (q_le rfl) (q_le rfl) ?_
      refine q_ifeq_b (tgt := 77) dX3_pass_58 (by decide) (fun c_58 => ?_) (fun c_58 => ?_)
      · refine q_iinc dX3_pass_77 rfl (v := nI (i + 1)) (nI_1 i) ?_
        refine q_goto (tgt := 28) dX3_pass_80 (by decide) ?_
        have hP : (P_in (fr (nI t).toNatClampNeg) w0 (i + 1)) = (S_come (S_take (fr (nI t).toNatClampNeg) (P_in (fr (nI t).toNatClampNeg) w0 i).1), (P_in (fr (nI t).toNatClampNeg) w0 i).2.1, (P_in (fr (nI t).toNatClampNeg) w0 i).2.2) := by
          simp only [P_in, P_step, c_38, if_true, if_false]
          simp [c_58]
        have hI := ih (i + 1) (by omega)
        rw [hP] at hI
        exact q_lo [(0, .ref p), (1, .ref a), (2, .int (nI m)), (3, .ref b), (4, .int (nI ((P_in (fr (nI t).toNatClampNeg) w0 i).2.1))), (5, .int (nI e)), (6, .int (nI t)), (7, .int (nI (i + 1)))] ⟨rfl, rfl, rfl, rfl, rfl, rfl, rfl, rfl, trivial⟩ hI
      · refine q_iload dX3_pass_61 rfl ?_
        refine q_aload_n dX3_pass_63 rfl ?_
        refine q_alen dX3_pass_64 (q_rdB hB) rfl (v := 16) rfl ?_
        refine q_icmp_ge (tgt := 77) dX3_pass_65 (by decide) (fun c_65 => ?_) (fun c_65 => ?_)
        · refine q_iinc dX3_pass_77 rfl (v := nI (i + 1)) (nI_1 i) ?_
          refine q_goto (tgt := 28) dX3_pass_80 (by decide) ?_
          have hP : (P_in (fr (nI t).toNatClampNeg) w0 (i + 1)) = (S_come (S_take (fr (nI t).toNatClampNeg) (P_in (fr (nI t).toNatClampNeg) w0 i).1), (P_in (fr (nI t).toNatClampNeg) w0 i).2.1, (P_in (fr (nI t).toNatClampNeg) w0 i).2.2) := by
            simp only [P_in, P_step, c_38, if_true, if_false]
            simp [c_58, c_65]
          have hI := ih (i + 1) (by omega)
          rw [hP] at hI
          exact q_lo [(0, .ref p), (1, .ref a), (2, .int (nI m)), (3, .ref b), (4, .int (nI ((P_in (fr (nI t).toNatClampNeg) w0 i).2.1))), (5, .int (nI e)), (6, .int (nI t)), (7, .int (nI (i + 1)))] ⟨rfl, rfl, rfl, rfl, rfl, rfl, rfl, rfl, trivial⟩ hI
        · refine q_aload_n dX3_pass_68 rfl ?_
          refine q_iload dX3_pass_69 rfl ?_
          refine q_iload dX3_pass_71 rfl ?_
          refine q_iast dX3_pass_73 (q_rdB hB) (q_vq (M := 16) (nI_pos (by have := (P_in_ok (x := fr (nI t).toNatClampNeg) hw i).2; omega)) c_65 (by decide) (by decide)) ?_
          refine q_heap (q_wrB hB) ?_
          refine q_iinc dX3_pass_74 rfl (v := nI ((P_in (fr (nI t).toNatClampNeg) w0 i).2.1 + 1)) (nI_1 _) ?_
          refine q_iinc dX3_pass_77 rfl (v := nI (i + 1)) (nI_1 i) ?_
          refine q_goto (tgt := 28) dX3_pass_80 (by decide) ?_
          have hP : (P_in (fr (nI t).toNatClampNeg) w0 (i + 1)) = (S_come (S_take (fr (nI t).toNatClampNeg) (P_in (fr (nI t).toNatClampNeg) w0 i).1), (P_in (fr (nI t).toNatClampNeg) w0 i).2.1 + 1, upd (P_in (fr (nI t).toNatClampNeg) w0 i).2.2 (nI (P_in (fr (nI t).toNatClampNeg) w0 i).2.1).toNatClampNeg (S_out (fr (nI t).toNatClampNeg) (P_in (fr (nI t).toNatClampNeg) w0 i).1)) := by
            simp only [P_in, P_step, c_38, if_true, if_false]
            simp [c_58, c_65]
          have hI := ih (i + 1) (by omega)
          rw [hP] at hI
          exact q_lo [(0, .ref p), (1, .ref a), (2, .int (nI m)), (3, .ref b), (4, .int (nI ((P_in (fr (nI t).toNatClampNeg) w0 i).2.1 + 1))), (5, .int (nI e)), (6, .int (nI t)), (7, .int (nI (i + 1)))] ⟨rfl, rfl, rfl, rfl, rfl, rfl, rfl, rfl, trivial⟩ hI

set_option maxHeartbeats 4000000 in
set_option maxRecDepth 100000 in
theorem lp_X3_pass {G : q_G} {d : q_D} {z : q_Z} {f : q_Hp} {n p a b m e : Nat} {fr : Nat → Int32} {w0 : q_Om} (ha : f a = some (.inl (0, 16, .inl fr))) (hab : a ≠ b) (hA : a < p ∨ p + 7 ≤ a) (hB : b < p ∨ p + 7 ≤ b) (hw : S_ok w0.1 ∧ w0.2.1 ≤ 16) (hm : m ≤ 16) (he : e ≤ 4) (hx : J G d uX3_pass z 0 0 n 89 (q_l [(0, .ref p), (4, .int (nI (P_out fr e w0 m).2.1))]) [] (q_blk (q_up f b (.inl (0, 16, .inl (P_out fr e w0 m).2.2))) p (stE p (P_out fr e w0 m).1))) : ∀ (k i : Nat), i + k = m → J G d uX3_pass z 0 0 n 12 (q_l [(0, .ref p), (1, .ref a), (2, .int (nI m)), (3, .ref b), (4, .int (nI (P_out fr e w0 i).2.1)), (5, .int (nI e)), (6, .int (nI i))]) [] (q_blk (q_up f b (.inl (0, 16, .inl (P_out fr e w0 i).2.2))) p (stE p (P_out fr e w0 i).1)) := by
  intro k
  induction k with
  | zero =>
    intro i hi
    rw [show i = m by omega]
    refine q_iload dX3_pass_12 rfl ?_
    refine q_iload_n dX3_pass_14 rfl ?_
    refine q_icmp_ge (tgt := 89) dX3_pass_15 (by decide) (fun c_15 => ?_) (fun h_n => absurd ((Int32.le_refl _)) h_n)
    exact q_lo [(0, .ref p), (4, .int (nI (P_out fr e w0 m).2.1))] ⟨rfl, rfl, trivial⟩ hx
  | succ k ih =>
    intro i hi
    refine q_iload dX3_pass_12 rfl ?_
    refine q_iload_n dX3_pass_14 rfl ?_
    refine q_icmp_ge (tgt := 89) dX3_pass_15 (by decide) (fun h_n => absurd h_n ((nI_ge (by omega) (by omega)))) (fun c_15 => ?_)
    refine q_iload dX3_pass_18 rfl ?_
    refine q_aload_n dX3_pass_20 rfl ?_
    refine q_alen dX3_pass_21 (q_rdA ha hab hA) rfl (v := 16) rfl ?_
    refine q_icmp_ge (tgt := 89) dX3_pass_22 (by decide) (fun h_n => absurd h_n ((nI_ge (b := 16) (by omega) (by decide)))) (fun c_22 => ?_)
    refine q_iconst dX3_pass_25 (v := 0) (by decide) ?_
    refine q_istore dX3_pass_26 (q_le rfl) ?_
    refine q_lo [(0, .ref p), (1, .ref a), (2, .int (nI m)), (3, .ref b), (4, .int (nI (P_out fr e w0 i).2.1)), (5, .int (nI e)), (6, .int (nI i)), (7, .int (nI 0))] ⟨rfl, rfl, rfl, rfl, rfl, rfl, rfl, rfl, trivial⟩ (lp_X3_pass_in (w0 := (P_out fr e w0 i)) (t := i) ha hab hA hB (P_out_ok hw i) hm he (by omega) ?_ e 0 (by omega))
    refine q_iinc dX3_pass_83 rfl (v := nI (i + 1)) (nI_1 i) ?_
    refine q_goto (tgt := 12) dX3_pass_86 (by decide) ?_
    exact q_lo [(0, .ref p), (1, .ref a), (2, .int (nI m)), (3, .ref b), (4, .int (nI (P_out fr e w0 (i + 1)).2.1)), (5, .int (nI e)), (6, .int (nI (i + 1)))] ⟨rfl, rfl, rfl, rfl, rfl, rfl, rfl, trivial⟩ (ih (i + 1) (by omega))

set_option maxHeartbeats 4000000 in
set_option maxRecDepth 100000 in
theorem c_X3_pass {f : q_Hp} {n p a b m e : Nat} {fr to : Nat → Int32} {S : q_St} (ha : f a = some (.inl (0, 16, .inl fr))) (hab : a ≠ b) (hA : a < p ∨ p + 7 ≤ a) (hB : b < p ∨ p + 7 ≤ b) (hS : S_ok S) (hm : m ≤ 16) (he : e ≤ 4) (hf : s_fill (S_by S) = nI e) : Sp yX3_pass uX3_pass [.ref p, .ref a, .int (nI m), .ref b] n (q_blk (q_up f b (.inl (0, 16, .inl to))) p (stE p S)) (some (.int (nI (P_out fr e (S, 0, to) m).2.1)), n, q_blk (q_up f b (.inl (0, 16, .inl (P_out fr e (S, 0, to) m).2.2))) p (stE p (P_out fr e (S, 0, to) m).1)) := by
  refine Sp.ofF (by decide +kernel) rfl rfl (q_le rfl) ?_
  intro G d
  refine q_iconst dX3_pass_0 (v := 0) (by decide) ?_
  refine q_istore dX3_pass_1 (q_le rfl) ?_
  refine q_aload_n dX3_pass_3 rfl ?_
  refine q_cW (w_fill) dX3_pass_4 kl_X3_104 rfl (q_blk_get (j := 0) rfl) rfl ⟨q_le rfl, q_le rfl⟩ (q_le rfl) (q_le rfl) (q_le rfl) ?_
  rw [hf]
  refine q_istore dX3_pass_7 (q_le rfl) ?_
  refine q_iconst dX3_pass_9 (v := 0) (by decide) ?_
  refine q_istore dX3_pass_10 (q_le rfl) ?_
  refine q_lo [(0, .ref p), (1, .ref a), (2, .int (nI m)), (3, .ref b), (4, .int (nI 0)), (5, .int (nI e)), (6, .int (nI 0))] ⟨rfl, rfl, rfl, rfl, rfl, rfl, rfl, trivial⟩ (lp_X3_pass (w0 := (S, 0, to)) ha hab hA hB ⟨hS, Nat.zero_le _⟩ hm he ?_ m 0 (by omega))
  refine q_iload dX3_pass_89 rfl ?_
  exact q_iret dX3_pass_91 rfl (rfl) (q_le rfl) (q_le rfl)

