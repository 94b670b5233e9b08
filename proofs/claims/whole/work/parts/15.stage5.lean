/-! what a stage does, over its whole state -/
def S_out (x : Int32) : q_St → Int32 := fun (below, by_, tc, way, wr, thin, cin, hld, gst, taps, pst, bits, word, shift, psz, fac, lst, sum, ex, rnd, out, ssz, rby, wds, rhd) => (s_held (s_round (s_sum fac (r_psh wds rhd x) (r_ph rhd) tc.toNatClampNeg) shift way) wr)
def S_take (x : Int32) : q_St → q_St := fun (below, by_, tc, way, wr, thin, cin, hld, gst, taps, pst, bits, word, shift, psz, fac, lst, sum, ex, rnd, out, ssz, rby, wds, rhd) =>
  (below, by_, tc, way, wr, thin, cin + 1, if (s_held (s_round (s_sum fac (r_psh wds rhd x) (r_ph rhd) tc.toNatClampNeg) shift way) wr).toInt64 = (s_round (s_sum fac (r_psh wds rhd x) (r_ph rhd) tc.toNatClampNeg) shift way) then hld else hld + 1, m_max gst (m_abs (s_sum fac (r_psh wds rhd x) (r_ph rhd) tc.toNatClampNeg)), taps, pst, bits, word, shift, psz, fac, 1, (s_sum fac (r_psh wds rhd x) (r_ph rhd) tc.toNatClampNeg), (s_ex tc taps (r_psh wds rhd x) (r_ph rhd) tc.toNatClampNeg), (s_round (s_sum fac (r_psh wds rhd x) (r_ph rhd) tc.toNatClampNeg) shift way), (s_held (s_round (s_sum fac (r_psh wds rhd x) (r_ph rhd) tc.toNatClampNeg) shift way) wr), (s_sz (r_psh wds rhd x) (r_ph rhd) tc.toNatClampNeg), way, (r_psh wds rhd x), (r_ph rhd))
def S_come : q_St → q_St := fun (below, by_, tc, way, wr, thin, cin, hld, gst, taps, pst, bits, word, shift, psz, fac, lst, sum, ex, rnd, out, ssz, rby, wds, rhd) => (below, by_, tc, way, wr, s_thin thin by_, cin, hld, gst, taps, pst, bits, word, shift, psz, fac, lst, sum, ex, rnd, out, ssz, rby, wds, rhd)
def S_thin0 : q_St → Bool := fun (below, by_, tc, way, wr, thin, cin, hld, gst, taps, pst, bits, word, shift, psz, fac, lst, sum, ex, rnd, out, ssz, rby, wds, rhd) => decide (thin ≤ 0)
def S_forget : q_St → q_St := fun (below, by_, tc, way, wr, thin, cin, hld, gst, taps, pst, bits, word, shift, psz, fac, lst, sum, ex, rnd, out, ssz, rby, wds, rhd) => (below, by_, tc, way, wr, 0, 0, 0, 0, taps, pst, bits, word, shift, psz, fac, lst, sum, ex, rnd, out, ssz, rby, r_clr wds 32, 0)
def S_drop : q_St → q_St := fun (below, by_, tc, way, wr, thin, cin, hld, gst, taps, pst, bits, word, shift, psz, fac, lst, sum, ex, rnd, out, ssz, rby, wds, rhd) => (below, by_, tc, way, wr, thin, cin, hld, gst, taps, 0, bits, word, shift, psz, fac, 0, sum, ex, rnd, out, ssz, rby, wds, rhd)
def S_setPlan (bb ww ss : Int32) : q_St → q_St := fun (below, by_, tc, way, wr, thin, cin, hld, gst, taps, pst, bits, word, shift, psz, fac, lst, sum, ex, rnd, out, ssz, rby, wds, rhd) =>
  (below, by_, tc, way, wr, 0, 0, 0, 0, taps, 1, bb, ww, ss, s_pz tc below taps ss tc.toNatClampNeg, s_pf tc below taps ss fac tc.toNatClampNeg, 0, sum, ex, rnd, out, ssz, rby, r_clr wds 32, 0)
def S_setTap (k x : Int32) : q_St → q_St := fun (below, by_, tc, way, wr, thin, cin, hld, gst, taps, pst, bits, word, shift, psz, fac, lst, sum, ex, rnd, out, ssz, rby, wds, rhd) => (below, by_, tc, way, wr, thin, cin, hld, gst, bif s_ok tc k then upd taps k.toNatClampNeg x else taps, pst, bits, word, shift, psz, fac, lst, sum, ex, rnd, out, ssz, rby, wds, rhd)
def S_addTap (x : Int32) : q_St → q_St := fun (below, by_, tc, way, wr, thin, cin, hld, gst, taps, pst, bits, word, shift, psz, fac, lst, sum, ex, rnd, out, ssz, rby, wds, rhd) => (below, by_, bif s_roomy tc then tc + 1 else tc, way, wr, thin, cin, hld, gst, bif s_roomy tc then upd taps tc.toNatClampNeg x else taps, pst, bits, word, shift, psz, fac, lst, sum, ex, rnd, out, ssz, rby, wds, rhd)
def S_safe (bb ww ss : Int32) : q_St → Bool := fun (below, by_, tc, way, wr, thin, cin, hld, gst, taps, pst, bits, word, shift, psz, fac, lst, sum, ex, rnd, out, ssz, rby, wds, rhd) => s_isSafe tc below taps tc.toNatClampNeg bb ww ss
def S_sym : q_St → Int32 := fun (below, by_, tc, way, wr, thin, cin, hld, gst, taps, pst, bits, word, shift, psz, fac, lst, sum, ex, rnd, out, ssz, rby, wds, rhd) => s_sym tc taps tc.toNatClampNeg
def S_mix (g : Int64) : q_St → Int64 := fun (below, by_, tc, way, wr, thin, cin, hld, gst, taps, pst, bits, word, shift, psz, fac, lst, sum, ex, rnd, out, ssz, rby, wds, rhd) => if pst = 0 then x_m1 tc taps g tc.toNatClampNeg else x_m3 wds rhd (x_m2 fac (x_m1 tc taps g tc.toNatClampNeg) tc.toNatClampNeg) tc.toNatClampNeg
def S_tc : q_St → Int32 := fun (below, by_, tc, way, wr, thin, cin, hld, gst, taps, pst, bits, word, shift, psz, fac, lst, sum, ex, rnd, out, ssz, rby, wds, rhd) => tc
def S_by : q_St → Int32 := fun (below, by_, tc, way, wr, thin, cin, hld, gst, taps, pst, bits, word, shift, psz, fac, lst, sum, ex, rnd, out, ssz, rby, wds, rhd) => by_
def S_ok (S : q_St) : Prop := ∃ c : Nat, c ≤ 32 ∧ S_tc S = nI c
theorem w_take {f : q_Hp} {n p : Nat} {S : q_St} {x : Int32} (h : S_ok S) : Sp yX4_take uX4_take [.ref p, .int x] n (q_blk f p (stE p S)) (some (.int (S_out x S)), n, q_blk f p (stE p (S_take x S))) := by
  obtain ⟨below, by_, tc, way, wr, thin, cin, hld, gst, taps, pst, bits, word, shift, psz, fac, lst, sum, ex, rnd, out, ssz, rby, wds, rhd⟩ := S
  obtain ⟨c, hc, h⟩ := h
  have h : tc = nI c := h
  subst h
  have e := nI_clamp (n := c) (by omega)
  simp only [S_out, S_take, e]
  exact c_X4_take hc

theorem w_come {f : q_Hp} {n p : Nat} {S : q_St} : Sp yX4_comesOut uX4_comesOut [.ref p] n (q_blk f p (stE p S)) (some (.int (q_b (S_thin0 S))), n, q_blk f p (stE p (S_come S))) := by
  obtain ⟨below, by_, tc, way, wr, thin, cin, hld, gst, taps, pst, bits, word, shift, psz, fac, lst, sum, ex, rnd, out, ssz, rby, wds, rhd⟩ := S
  exact c_X4_comesOut

theorem w_forget {f : q_Hp} {n p : Nat} {S : q_St} : Sp yX4_forget uX4_forget [.ref p] n (q_blk f p (stE p S)) (none, n, q_blk f p (stE p (S_forget S))) := by
  obtain ⟨below, by_, tc, way, wr, thin, cin, hld, gst, taps, pst, bits, word, shift, psz, fac, lst, sum, ex, rnd, out, ssz, rby, wds, rhd⟩ := S
  exact c_X4_forget

theorem w_drop {f : q_Hp} {n p : Nat} {S : q_St} : Sp yX4_dropPlan uX4_dropPlan [.ref p] n (q_blk f p (stE p S)) (none, n, q_blk f p (stE p (S_drop S))) := by
  obtain ⟨below, by_, tc, way, wr, thin, cin, hld, gst, taps, pst, bits, word, shift, psz, fac, lst, sum, ex, rnd, out, ssz, rby, wds, rhd⟩ := S
  exact c_X4_dropPlan

theorem w_setPlan {f : q_Hp} {n p : Nat} {S : q_St} {bb ww ss : Int32} (h : S_ok S) : Sp yX4_setPlan uX4_setPlan [.ref p, .int bb, .int ww, .int ss] n (q_blk f p (stE p S)) (none, n, q_blk f p (stE p (S_setPlan bb ww ss S))) := by
  obtain ⟨below, by_, tc, way, wr, thin, cin, hld, gst, taps, pst, bits, word, shift, psz, fac, lst, sum, ex, rnd, out, ssz, rby, wds, rhd⟩ := S
  obtain ⟨c, hc, h⟩ := h
  have h : tc = nI c := h
  subst h
  have e := nI_clamp (n := c) (by omega)
  simp only [S_setPlan, e]
  exact c_X4_setPlan hc

theorem w_setTap {f : q_Hp} {n p : Nat} {S : q_St} {k x : Int32} : Sp yX4_setTap uX4_setTap [.ref p, .int k, .int x] n (q_blk f p (stE p S)) (none, n, q_blk f p (stE p (S_setTap k x S))) := by
  obtain ⟨below, by_, tc, way, wr, thin, cin, hld, gst, taps, pst, bits, word, shift, psz, fac, lst, sum, ex, rnd, out, ssz, rby, wds, rhd⟩ := S
  exact c_X4_setTap

theorem w_addTap {f : q_Hp} {n p : Nat} {S : q_St} {x : Int32} : Sp yX4_addTap uX4_addTap [.ref p, .int x] n (q_blk f p (stE p S)) (some (.int (q_b (s_roomy (S_tc S)))), n, q_blk f p (stE p (S_addTap x S))) := by
  obtain ⟨below, by_, tc, way, wr, thin, cin, hld, gst, taps, pst, bits, word, shift, psz, fac, lst, sum, ex, rnd, out, ssz, rby, wds, rhd⟩ := S
  exact c_X4_addTap

theorem w_isSafe {f : q_Hp} {n p : Nat} {S : q_St} {bb ww ss : Int32} (h : S_ok S) : Sp yX4_isSafe uX4_isSafe [.ref p, .int bb, .int ww, .int ss] n (q_blk f p (stE p S)) (some (.int (q_b (S_safe bb ww ss S))), n, q_blk f p (stE p S)) := by
  obtain ⟨below, by_, tc, way, wr, thin, cin, hld, gst, taps, pst, bits, word, shift, psz, fac, lst, sum, ex, rnd, out, ssz, rby, wds, rhd⟩ := S
  obtain ⟨c, hc, h⟩ := h
  have h : tc = nI c := h
  subst h
  have e := nI_clamp (n := c) (by omega)
  simp only [S_safe, e]
  exact c_X4_isSafe hc

theorem w_sym {f : q_Hp} {n p : Nat} {S : q_St} (h : S_ok S) : Sp yX4_symmetry uX4_symmetry [.ref p] n (q_blk f p (stE p S)) (some (.int (S_sym S)), n, q_blk f p (stE p S)) := by
  obtain ⟨below, by_, tc, way, wr, thin, cin, hld, gst, taps, pst, bits, word, shift, psz, fac, lst, sum, ex, rnd, out, ssz, rby, wds, rhd⟩ := S
  obtain ⟨c, hc, h⟩ := h
  have h : tc = nI c := h
  subst h
  have e := nI_clamp (n := c) (by omega)
  simp only [S_sym, e]
  exact c_X4_symmetry hc

theorem w_mix {f : q_Hp} {n p : Nat} {S : q_St} {g : Int64} (h : S_ok S) : Sp yX4_mixRows uX4_mixRows [.ref p, .long g] n (q_blk f p (stE p S)) (some (.long (S_mix g S)), n, q_blk f p (stE p S)) := by
  obtain ⟨below, by_, tc, way, wr, thin, cin, hld, gst, taps, pst, bits, word, shift, psz, fac, lst, sum, ex, rnd, out, ssz, rby, wds, rhd⟩ := S
  obtain ⟨c, hc, h⟩ := h
  have h : tc = nI c := h
  subst h
  have e := nI_clamp (n := c) (by omega)
  simp only [S_mix, e]
  exact c_X4_mixRows hc

theorem w_fill {f : q_Hp} {n p : Nat} {S : q_St} : Sp yX4_filling uX4_filling [.ref p] n (q_blk f p (stE p S)) (some (.int (s_fill (S_by S))), n, q_blk f p (stE p S)) := by
  obtain ⟨below, by_, tc, way, wr, thin, cin, hld, gst, taps, pst, bits, word, shift, psz, fac, lst, sum, ex, rnd, out, ssz, rby, wds, rhd⟩ := S
  exact c_X4_filling

abbrev q_Om : Type := q_St × Nat × (Nat → Int32)
def P_step (x : Int32) (w : q_Om) : q_Om := (S_come (S_take x w.1), bif S_thin0 (S_take x w.1) && !decide ((16 : Int32) ≤ nI w.2.1) then w.2.1 + 1 else w.2.1, bif S_thin0 (S_take x w.1) && !decide ((16 : Int32) ≤ nI w.2.1) then upd w.2.2 (nI w.2.1).toNatClampNeg (S_out x w.1) else w.2.2)
def P_in (x : Int32) (w0 : q_Om) : Nat → q_Om
  | 0 => w0
  | j + 1 => P_step (if nI j = 0 then x else 0) (P_in x w0 j)
def P_out (fr : Nat → Int32) (e : Nat) (w0 : q_Om) : Nat → q_Om
  | 0 => w0
  | i + 1 => P_in (fr (nI i).toNatClampNeg) (P_out fr e w0 i) e
theorem S_tc_take (x : Int32) (S : q_St) : S_tc (S_take x S) = S_tc S := rfl
theorem S_tc_come (S : q_St) : S_tc (S_come S) = S_tc S := rfl
theorem S_by_take (x : Int32) (S : q_St) : S_by (S_take x S) = S_by S := rfl
theorem S_by_come (S : q_St) : S_by (S_come S) = S_by S := rfl
theorem P_step_ok {x : Int32} {w : q_Om} (h : S_ok w.1 ∧ w.2.1 ≤ 16) : S_ok (P_step x w).1 ∧ (P_step x w).2.1 ≤ 16 := by
  obtain ⟨⟨c, hc, h1⟩, h2⟩ := h
  refine ⟨⟨c, hc, h1⟩, ?_⟩
  show (bif S_thin0 (S_take x w.1) && !decide ((16 : Int32) ≤ nI w.2.1) then w.2.1 + 1 else w.2.1) ≤ 16
  by_cases h3 : w.2.1 = 16
  · rw [h3]
    cases S_thin0 (S_take x w.1) <;> decide
  · cases (S_thin0 (S_take x w.1) && !decide ((16 : Int32) ≤ nI w.2.1))
    · exact h2
    · show w.2.1 + 1 ≤ 16
      omega
theorem P_in_ok {x : Int32} {w0 : q_Om} (h : S_ok w0.1 ∧ w0.2.1 ≤ 16) : ∀ j : Nat, S_ok (P_in x w0 j).1 ∧ (P_in x w0 j).2.1 ≤ 16
  | 0 => h
  | j + 1 => P_step_ok (P_in_ok h j)
theorem P_out_ok {fr : Nat → Int32} {e : Nat} {w0 : q_Om} (h : S_ok w0.1 ∧ w0.2.1 ≤ 16) : ∀ j : Nat, S_ok (P_out fr e w0 j).1 ∧ (P_out fr e w0 j).2.1 ≤ 16
  | 0 => h
  | j + 1 => P_in_ok (P_out_ok h j) e
theorem q_blk_dis {f : q_Hp} {p p' : Nat} {es es' : List q_E} (h : p + es.length ≤ p' ∨ p' + es'.length ≤ p) : q_blk (q_blk f p' es') p es = q_blk (q_blk f p es) p' es' := by
  funext q
  unfold q_blk
  by_cases h1 : p ≤ q ∧ q < p + es.length
  · rw [if_pos h1, if_neg (by omega), if_pos h1]
  · rw [if_neg h1]
    by_cases h2 : p' ≤ q ∧ q < p' + es'.length
    · rw [if_pos h2, if_pos h2]
    · rw [if_neg h2, if_neg h2, if_neg h1]
/-- a row that the heap holds already, seen behind another row and a stage -/
theorem q_rvA {f : q_Hp} {a b p m l : Nat} {fr to : Nat → Int32} {X : q_St} (ha : f = q_blk f a (rwE a fr m)) (hab : a + 2 ≤ b ∨ b + 2 ≤ a) (hA : a + 2 ≤ p ∨ p + 7 ≤ a) : q_blk (q_blk f b (rwE b to l)) p (stE p X) = q_blk (q_blk (q_blk f b (rwE b to l)) p (stE p X)) a (rwE a fr m) := by
  have h1 : q_blk (q_blk f b (rwE b to l)) a (rwE a fr m) = q_blk f b (rwE b to l) := by
    rw [q_blk_dis (show a + (rwE a fr m).length ≤ b ∨ b + (rwE b to l).length ≤ a from hab), ← ha]
  rw [q_blk_dis (show a + (rwE a fr m).length ≤ p ∨ p + (stE p X).length ≤ a from hA), h1]
theorem q_rdA {f : q_Hp} {a b p m l : Nat} {fr to : Nat → Int32} {X : q_St} (ha : f = q_blk f a (rwE a fr m)) (hab : a + 2 ≤ b ∨ b + 2 ≤ a) (hA : a + 2 ≤ p ∨ p + 7 ≤ a) : q_blk (q_blk f b (rwE b to l)) p (stE p X) a = some (.inr (3, [.ref (a + 1), .int (nI m)])) := by
  rw [q_rvA ha hab hA]
  exact q_blk_get (p := a) (j := 0) rfl
section ROWCALLS
variable {G : q_G} {d : q_D} {u u' : q_M} {z : q_Z} {ce sl n pc : Nat} {ls : q_L} {st stk : List Value} {f : q_Hp}
/-- a call on the row that is read -/
theorem q_rA {y : MethodName} {as : List Value} {a b p m l ix : Nat} {T : u_T} {N : Nat} {r : Option Value} {fr to : Nat → Int32} {X : q_St} (hS : Sp y u' (.ref a :: as) n (q_blk (q_blk (q_blk f b (rwE b to l)) p (stE p X)) a (rwE a fr m)) (r, n, q_blk (q_blk (q_blk f b (rwE b to l)) p (stE p X)) a (rwE a fr m))) (ha : f = q_blk f a (rwE a fr m)) (hab : a + 2 ≤ b ∨ b + 2 ≤ a) (hA : a + 2 ≤ p ∨ p + 7 ≤ a) (hd : decode u.1 pc = .ok (.invokevirtual ix, 3)) (hw : q_LV u.2.1 ix y u' as.length) (he : stk = as.reverse ++ .ref a :: st) (hci : vwCl[3]? = some (y.cls, T, N)) (hR : q_R u' u) (hce : ce + u'.2.2.2.1.cells ≤ u.2.2.2.1.cells) (hsl : sl + u'.2.2.2.1.slots ≤ u.2.2.2.1.slots) (hst : (st.map fun v => v.category).sum ≤ 8)
    (k : J G d u z (ce + u'.2.2.2.1.cells) (sl + u'.2.2.2.1.slots) n (pc + 3) ls (r.toList ++ st) (q_blk (q_blk f b (rwE b to l)) p (stE p X))) : J G d u z ce sl n pc ls stk (q_blk (q_blk f b (rwE b to l)) p (stE p X)) := by
  have hb' : q_blk (q_blk (q_blk f b (rwE b to l)) p (stE p X)) a (rwE a fr m) a = some (.inr (3, [.ref (a + 1), .int (nI m)])) := q_blk_get (p := a) (j := 0) rfl
  exact q_heap (q_rvA ha hab hA) (q_cW hS hd hw he hb' hci hR hce hsl hst (q_heap (q_rvA ha hab hA).symm k))
/-- a call on the row that is written -/
theorem q_rB {y : MethodName} {as : List Value} {b p l l2 ix : Nat} {T : u_T} {N : Nat} {r : Option Value} {to to2 : Nat → Int32} {X : q_St} (hS : Sp y u' (.ref b :: as) n (q_blk (q_blk f p (stE p X)) b (rwE b to l)) (r, n, q_blk (q_blk f p (stE p X)) b (rwE b to2 l2))) (hB : b + 2 ≤ p ∨ p + 7 ≤ b) (hd : decode u.1 pc = .ok (.invokevirtual ix, 3)) (hw : q_LV u.2.1 ix y u' as.length) (he : stk = as.reverse ++ .ref b :: st) (hci : vwCl[3]? = some (y.cls, T, N)) (hR : q_R u' u) (hce : ce + u'.2.2.2.1.cells ≤ u.2.2.2.1.cells) (hsl : sl + u'.2.2.2.1.slots ≤ u.2.2.2.1.slots) (hst : (st.map fun v => v.category).sum ≤ 8)
    (k : J G d u z (ce + u'.2.2.2.1.cells) (sl + u'.2.2.2.1.slots) n (pc + 3) ls (r.toList ++ st) (q_blk (q_blk f b (rwE b to2 l2)) p (stE p X))) : J G d u z ce sl n pc ls stk (q_blk (q_blk f b (rwE b to l)) p (stE p X)) := by
  have hB' : ∀ (t : Nat → Int32) (v : Nat), q_blk (q_blk f p (stE p X)) b (rwE b t v) = q_blk (q_blk f b (rwE b t v)) p (stE p X) := fun t v => q_blk_dis (show b + (rwE b t v).length ≤ p ∨ p + (stE p X).length ≤ b from hB)
  have hb' : q_blk (q_blk f p (stE p X)) b (rwE b to l) b = some (.inr (3, [.ref (b + 1), .int (nI l)])) := q_blk_get (p := b) (j := 0) rfl
  exact q_heap (hB' to l).symm (q_cW hS hd hw he hb' hci hR hce hsl hst (q_heap (hB' to2 l2) k))
end ROWCALLS
set_option maxHeartbeats 4000000 in
set_option maxRecDepth 100000 in
theorem lp_X4_pass_in {G : q_G} {d : q_D} {z : q_Z} {f : q_Hp} {n p a b m e : Nat} {fr : Nat → Int32} {w0 : q_Om} {t : Nat} (ha : f = q_blk f a (rwE a fr m)) (hab : a + 2 ≤ b ∨ b + 2 ≤ a) (hA : a + 2 ≤ p ∨ p + 7 ≤ a) (hB : b + 2 ≤ p ∨ p + 7 ≤ b) (hw : S_ok w0.1 ∧ w0.2.1 ≤ 16) (hm : m ≤ 16) (he : e ≤ 4) (ht : t < m) (hx : J G d uX4_pass z 0 0 n 74 (q_l [(0, .ref p), (1, .ref a), (2, .ref b), (3, .int (nI e)), (4, .int (nI m)), (5, .int (nI t)), (6, .int (nI e))]) [] (q_blk (q_blk f b (rwE b (P_in (fr (nI t).toNatClampNeg) w0 e).2.2 (P_in (fr (nI t).toNatClampNeg) w0 e).2.1)) p (stE p (P_in (fr (nI t).toNatClampNeg) w0 e).1))) : ∀ (k i : Nat), i + k = e → J G d uX4_pass z 0 0 n 28 (q_l [(0, .ref p), (1, .ref a), (2, .ref b), (3, .int (nI e)), (4, .int (nI m)), (5, .int (nI t)), (6, .int (nI i))]) [] (q_blk (q_blk f b (rwE b (P_in (fr (nI t).toNatClampNeg) w0 i).2.2 (P_in (fr (nI t).toNatClampNeg) w0 i).2.1)) p (stE p (P_in (fr (nI t).toNatClampNeg) w0 i).1)) := by
  intro k
  induction k with
  | zero =>
    intro i hi
    rw [show i = e by omega]
    refine q_iload dX4_pass_28 rfl ?_
    refine q_iload_n dX4_pass_30 rfl ?_
    refine q_icmp_ge (tgt := 74) dX4_pass_31 (by decide) (fun c_31 => ?_) (fun h_n => absurd ((Int32.le_refl _)) h_n)
    exact q_lo [(0, .ref p), (1, .ref a), (2, .ref b), (3, .int (nI e)), (4, .int (nI m)), (5, .int (nI t)), (6, .int (nI e))] ⟨rfl, rfl, rfl, rfl, rfl, rfl, rfl, trivial⟩ hx
  | succ k ih =>
    intro i hi
    refine q_iload dX4_pass_28 rfl ?_
    refine q_iload_n dX4_pass_30 rfl ?_
    refine q_icmp_ge (tgt := 74) dX4_pass_31 (by decide) (fun h_n => absurd h_n ((nI_ge (by omega) (by omega)))) (fun c_31 => ?_)
    refine q_aload_n dX4_pass_34 rfl ?_
    refine q_iload dX4_pass_35 rfl ?_
    refine q_if_ne (tgt := 49) dX4_pass_37 (by decide) (fun c_37 => ?_) (fun c_37 => ?_)
    · refine q_iconst dX4_pass_49 (v := 0) (by decide) ?_
      refine q_cW (w_take (P_in_ok hw i).1) dX4_pass_50 kl_X4_117 rfl (q_blk_get (j := 0) rfl) rfl ⟨q_le rfl, q_le rfl⟩ (q_le rfl) (q_le rfl) (q_le rfl) ?_
      refine q_istore dX4_pass_53 (q_le rfl) ?_
      refine q_aload_n dX4_pass_55 rfl ?_
      refine q_cW (w_come) dX4_pass_56 kl_X4_120 rfl (q_blk_get (j := 0) rfl) rfl ⟨q_le rfl, q_le rfl⟩ (q_le rfl) (q_le rfl) (q_le rfl) ?_
      refine q_ifeq_b (tgt := 68) dX4_pass_59 (by decide) (fun c_59 => ?_) (fun c_59 => ?_)
      · refine q_iinc dX4_pass_68 rfl (v := nI (i + 1)) (nI_1 i) ?_
        refine q_goto (tgt := 28) dX4_pass_71 (by decide) ?_
        have hP : (P_in (fr (nI t).toNatClampNeg) w0 (i + 1)) = (S_come (S_take 0 (P_in (fr (nI t).toNatClampNeg) w0 i).1), (P_in (fr (nI t).toNatClampNeg) w0 i).2.1, (P_in (fr (nI t).toNatClampNeg) w0 i).2.2) := by
          simp only [P_in, P_step, c_37, if_true, if_false]
          simp [c_59]
        have hI := ih (i + 1) (by omega)
        rw [hP] at hI
        exact q_lo [(0, .ref p), (1, .ref a), (2, .ref b), (3, .int (nI e)), (4, .int (nI m)), (5, .int (nI t)), (6, .int (nI (i + 1)))] ⟨rfl, rfl, rfl, rfl, rfl, rfl, rfl, trivial⟩ hI
      · refine q_aload_n dX4_pass_62 rfl ?_
        refine q_iload dX4_pass_63 rfl ?_
        refine q_rB (c_X3_add (P_in_ok hw i).2) hB dX4_pass_65 kl_X4_124 rfl rfl ⟨q_le rfl, q_le rfl⟩ (q_le rfl) (q_le rfl) (q_le rfl) ?_
        refine q_iinc dX4_pass_68 rfl (v := nI (i + 1)) (nI_1 i) ?_
        refine q_goto (tgt := 28) dX4_pass_71 (by decide) ?_
        have hP : (P_in (fr (nI t).toNatClampNeg) w0 (i + 1)) = (S_come (S_take 0 (P_in (fr (nI t).toNatClampNeg) w0 i).1), (bif w_rm (P_in (fr (nI t).toNatClampNeg) w0 i).2.1 then (P_in (fr (nI t).toNatClampNeg) w0 i).2.1 + 1 else (P_in (fr (nI t).toNatClampNeg) w0 i).2.1), (bif w_rm (P_in (fr (nI t).toNatClampNeg) w0 i).2.1 then upd (P_in (fr (nI t).toNatClampNeg) w0 i).2.2 (nI (P_in (fr (nI t).toNatClampNeg) w0 i).2.1).toNatClampNeg (S_out 0 (P_in (fr (nI t).toNatClampNeg) w0 i).1) else (P_in (fr (nI t).toNatClampNeg) w0 i).2.2)) := by
          simp only [P_in, P_step, c_37, if_true, if_false]
          simp [c_59, w_rm]
        have hI := ih (i + 1) (by omega)
        rw [hP] at hI
        exact q_lo [(0, .ref p), (1, .ref a), (2, .ref b), (3, .int (nI e)), (4, .int (nI m)), (5, .int (nI t)), (6, .int (nI (i + 1)))] ⟨rfl, rfl, rfl, rfl, rfl, rfl, rfl, trivial⟩ hI
    · refine q_aload_n dX4_pass_40 rfl ?_
      refine q_iload dX4_pass_41 rfl ?_
      refine q_rA (c_X3_at ht hm) ha hab hA dX4_pass_43 kl_X4_114 rfl rfl ⟨q_le rfl, q_le rfl⟩ (q_le rfl) (q_le rfl) (q_le rfl) ?_
      refine q_goto (tgt := 50) dX4_pass_46 (by decide) ?_
      refine q_cW (w_take (P_in_ok hw i).1) dX4_pass_50 kl_X4_117 rfl (q_blk_get (j := 0) rfl) rfl ⟨q_le rfl, q_le rfl⟩ (q_le rfl) (q_le rfl) (q_le rfl) ?_
      refine q_istore dX4_pass_53 (q_le rfl) ?_
      refine q_aload_n dX4_pass_55 rfl ?_
      refine q_cW (w_come) dX4_pass_56 kl_X4_120 rfl (q_blk_get (j := 0) rfl) rfl ⟨q_le rfl, q_le rfl⟩ (q_le rfl) (q_le rfl) (q_le rfl) ?_
      refine q_ifeq_b (tgt := 68) dX4_pass_59 (by decide) (fun c_59 => ?_) (fun c_59 => ?_)
      · refine q_iinc dX4_pass_68 rfl (v := nI (i + 1)) (nI_1 i) ?_
        refine q_goto (tgt := 28) dX4_pass_71 (by decide) ?_
        have hP : (P_in (fr (nI t).toNatClampNeg) w0 (i + 1)) = (S_come (S_take (fr (nI t).toNatClampNeg) (P_in (fr (nI t).toNatClampNeg) w0 i).1), (P_in (fr (nI t).toNatClampNeg) w0 i).2.1, (P_in (fr (nI t).toNatClampNeg) w0 i).2.2) := by
          simp only [P_in, P_step, c_37, if_true, if_false]
          simp [c_59]
        have hI := ih (i + 1) (by omega)
        rw [hP] at hI
        exact q_lo [(0, .ref p), (1, .ref a), (2, .ref b), (3, .int (nI e)), (4, .int (nI m)), (5, .int (nI t)), (6, .int (nI (i + 1)))] ⟨rfl, rfl, rfl, rfl, rfl, rfl, rfl, trivial⟩ hI
      · refine q_aload_n dX4_pass_62 rfl ?_
        refine q_iload dX4_pass_63 rfl ?_
        refine q_rB (c_X3_add (P_in_ok hw i).2) hB dX4_pass_65 kl_X4_124 rfl rfl ⟨q_le rfl, q_le rfl⟩ (q_le rfl) (q_le rfl) (q_le rfl) ?_
        refine q_iinc dX4_pass_68 rfl (v := nI (i + 1)) (nI_1 i) ?_
        refine q_goto (tgt := 28) dX4_pass_71 (by decide) ?_
        have hP : (P_in (fr (nI t).toNatClampNeg) w0 (i + 1)) = (S_come (S_take (fr (nI t).toNatClampNeg) (P_in (fr (nI t).toNatClampNeg) w0 i).1), (bif w_rm (P_in (fr (nI t).toNatClampNeg) w0 i).2.1 then (P_in (fr (nI t).toNatClampNeg) w0 i).2.1 + 1 else (P_in (fr (nI t).toNatClampNeg) w0 i).2.1), (bif w_rm (P_in (fr (nI t).toNatClampNeg) w0 i).2.1 then upd (P_in (fr (nI t).toNatClampNeg) w0 i).2.2 (nI (P_in (fr (nI t).toNatClampNeg) w0 i).2.1).toNatClampNeg (S_out (fr (nI t).toNatClampNeg) (P_in (fr (nI t).toNatClampNeg) w0 i).1) else (P_in (fr (nI t).toNatClampNeg) w0 i).2.2)) := by
          simp only [P_in, P_step, c_37, if_true, if_false]
          simp [c_59, w_rm]
        have hI := ih (i + 1) (by omega)
        rw [hP] at hI
        exact q_lo [(0, .ref p), (1, .ref a), (2, .ref b), (3, .int (nI e)), (4, .int (nI m)), (5, .int (nI t)), (6, .int (nI (i + 1)))] ⟨rfl, rfl, rfl, rfl, rfl, rfl, rfl, trivial⟩ hI

set_option maxHeartbeats 4000000 in
set_option maxRecDepth 100000 in
theorem lp_X4_pass {G : q_G} {d : q_D} {z : q_Z} {f : q_Hp} {n p a b m e : Nat} {fr : Nat → Int32} {w0 : q_Om} (ha : f = q_blk f a (rwE a fr m)) (hab : a + 2 ≤ b ∨ b + 2 ≤ a) (hA : a + 2 ≤ p ∨ p + 7 ≤ a) (hB : b + 2 ≤ p ∨ p + 7 ≤ b) (hw : S_ok w0.1 ∧ w0.2.1 ≤ 16) (hm : m ≤ 16) (he : e ≤ 4) (hx : J G d uX4_pass z 0 0 n 80 (q_l [(0, .ref p)]) [] (q_blk (q_blk f b (rwE b (P_out fr e w0 m).2.2 (P_out fr e w0 m).2.1)) p (stE p (P_out fr e w0 m).1))) : ∀ (k i : Nat), i + k = m → J G d uX4_pass z 0 0 n 18 (q_l [(0, .ref p), (1, .ref a), (2, .ref b), (3, .int (nI e)), (4, .int (nI m)), (5, .int (nI i))]) [] (q_blk (q_blk f b (rwE b (P_out fr e w0 i).2.2 (P_out fr e w0 i).2.1)) p (stE p (P_out fr e w0 i).1)) := by
  intro k
  induction k with
  | zero =>
    intro i hi
    rw [show i = m by omega]
    refine q_iload dX4_pass_18 rfl ?_
    refine q_iload dX4_pass_20 rfl ?_
    refine q_icmp_ge (tgt := 80) dX4_pass_22 (by decide) (fun c_22 => ?_) (fun h_n => absurd ((Int32.le_refl _)) h_n)
    exact q_lo [(0, .ref p)] ⟨rfl, trivial⟩ hx
  | succ k ih =>
    intro i hi
    refine q_iload dX4_pass_18 rfl ?_
    refine q_iload dX4_pass_20 rfl ?_
    refine q_icmp_ge (tgt := 80) dX4_pass_22 (by decide) (fun h_n => absurd h_n ((nI_ge (by omega) (by omega)))) (fun c_22 => ?_)
    refine q_iconst dX4_pass_25 (v := 0) (by decide) ?_
    refine q_istore dX4_pass_26 (q_le rfl) ?_
    refine q_lo [(0, .ref p), (1, .ref a), (2, .ref b), (3, .int (nI e)), (4, .int (nI m)), (5, .int (nI i)), (6, .int (nI 0))] ⟨rfl, rfl, rfl, rfl, rfl, rfl, rfl, trivial⟩ (lp_X4_pass_in (w0 := (P_out fr e w0 i)) (t := i) ha hab hA hB (P_out_ok hw i) hm he (by omega) ?_ e 0 (by omega))
    refine q_iinc dX4_pass_74 rfl (v := nI (i + 1)) (nI_1 i) ?_
    refine q_goto (tgt := 18) dX4_pass_77 (by decide) ?_
    exact q_lo [(0, .ref p), (1, .ref a), (2, .ref b), (3, .int (nI e)), (4, .int (nI m)), (5, .int (nI (i + 1)))] ⟨rfl, rfl, rfl, rfl, rfl, rfl, trivial⟩ (ih (i + 1) (by omega))

set_option maxHeartbeats 4000000 in
set_option maxRecDepth 100000 in
theorem c_X4_pass {f : q_Hp} {n p a b m l e : Nat} {fr to : Nat → Int32} {S : q_St} (ha : f = q_blk f a (rwE a fr m)) (hab : a + 2 ≤ b ∨ b + 2 ≤ a) (hA : a + 2 ≤ p ∨ p + 7 ≤ a) (hB : b + 2 ≤ p ∨ p + 7 ≤ b) (hS : S_ok S) (hm : m ≤ 16) (he : e ≤ 4) (hf : s_fill (S_by S) = nI e) : Sp yX4_pass uX4_pass [.ref p, .ref a, .ref b] n (q_blk (q_blk f b (rwE b to l)) p (stE p S)) (none, n, q_blk (q_blk f b (rwE b (P_out fr e (S, 0, to) m).2.2 (P_out fr e (S, 0, to) m).2.1)) p (stE p (P_out fr e (S, 0, to) m).1)) := by
  refine Sp.ofF (by decide +kernel) rfl rfl (q_le rfl) ?_
  intro G d
  refine q_aload_n dX4_pass_0 rfl ?_
  refine q_rB (c_X3_clear) hB dX4_pass_1 kl_X4_104 rfl rfl ⟨q_le rfl, q_le rfl⟩ (q_le rfl) (q_le rfl) (q_le rfl) ?_
  refine q_aload_n dX4_pass_4 rfl ?_
  refine q_cW (w_fill) dX4_pass_5 kl_X4_107 rfl (q_blk_get (j := 0) rfl) rfl ⟨q_le rfl, q_le rfl⟩ (q_le rfl) (q_le rfl) (q_le rfl) ?_
  rw [hf]
  refine q_istore_n dX4_pass_8 (q_le rfl) ?_
  refine q_aload_n dX4_pass_9 rfl ?_
  refine q_getf dX4_pass_10 fl_X4_111 (q_rdA ha hab hA) rfl ?_
  refine q_istore dX4_pass_13 (q_le rfl) ?_
  refine q_iconst dX4_pass_15 (v := 0) (by decide) ?_
  refine q_istore dX4_pass_16 (q_le rfl) ?_
  refine q_lo [(0, .ref p), (1, .ref a), (2, .ref b), (3, .int (nI e)), (4, .int (nI m)), (5, .int (nI 0))] ⟨rfl, rfl, rfl, rfl, rfl, rfl, trivial⟩ (lp_X4_pass (w0 := (S, 0, to)) ha hab hA hB ⟨hS, Nat.zero_le _⟩ hm he ?_ m 0 (by omega))
  exact q_vret dX4_pass_80 rfl (rfl) (q_le rfl) (q_le rfl)

