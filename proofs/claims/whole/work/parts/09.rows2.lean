section JROWS2
variable {G : q_G} {d : q_D} {u u' : q_M} {z : q_Z} {ce sl n pc : Nat} {ls : q_L} {st stk : List Value} {f : q_Hp}
/-- a static call -/
theorem q_cS {y : MethodName} {as : List Value} {i : Nat} {r : Option Value} {n' : Nat} {f' : q_Hp} (hS : Sp y u' as n f (r, n', f')) (hd : decode u.1 pc = .ok (.invokestatic i, 3)) (hw : q_LS u.2.1 i y u' as.length) (he : stk = as.reverse ++ st) (hR : q_R u' u) (hce : ce + u'.2.2.2.1.cells ≤ u.2.2.2.1.cells) (hsl : sl + u'.2.2.2.1.slots ≤ u.2.2.2.1.slots) (hst : (st.map fun v => v.category).sum ≤ 8)
    (k : J G d u z (ce + u'.2.2.2.1.cells) (sl + u'.2.2.2.1.slots) n' (pc + 3) ls (r.toList ++ st) f') : J G d u z ce sl n pc ls stk f := he ▸ q_callS hS hd hw hR hce hsl hst k
/-- a call on the block's own object, at its head or elsewhere -/
theorem q_cW {y : MethodName} {as : List Value} {b i ci : Nat} {fs : List Value} {T : u_T} {N : Nat} {r : Option Value} {n' : Nat} {f' : q_Hp} (hS : Sp y u' (.ref b :: as) n f (r, n', f')) (hd : decode u.1 pc = .ok (.invokevirtual i, 3)) (hw : q_LV u.2.1 i y u' as.length) (he : stk = as.reverse ++ .ref b :: st) (hb : f b = some (.inr (ci, fs))) (hci : vwCl[ci]? = some (y.cls, T, N)) (hR : q_R u' u) (hce : ce + u'.2.2.2.1.cells ≤ u.2.2.2.1.cells) (hsl : sl + u'.2.2.2.1.slots ≤ u.2.2.2.1.slots) (hst : (st.map fun v => v.category).sum ≤ 8)
    (k : J G d u z (ce + u'.2.2.2.1.cells) (sl + u'.2.2.2.1.slots) n' (pc + 3) ls (r.toList ++ st) f') : J G d u z ce sl n pc ls stk f := he ▸ q_callV hS hd hw hR hb hci hce hsl hst k
theorem q_cI {y : MethodName} {as : List Value} {b i : Nat} {n' : Nat} {f' : q_Hp} (hS : Sp y u' (.ref b :: as) n f (none, n', f')) (hd : decode u.1 pc = .ok (.invokespecial i, 3)) (hw : q_LI u.2.1 i y u' as.length) (he : stk = as.reverse ++ .ref b :: st) (hR : q_R u' u) (hce : ce + u'.2.2.2.1.cells ≤ u.2.2.2.1.cells) (hsl : sl + u'.2.2.2.1.slots ≤ u.2.2.2.1.slots) (hst : (st.map fun v => v.category).sum ≤ 8)
    (k : J G d u z (ce + u'.2.2.2.1.cells) (sl + u'.2.2.2.1.slots) n' (pc + 3) ls st f') : J G d u z ce sl n pc ls stk f := he ▸ q_callI hS hd hw hR hce hsl hst k
theorem q_blk_view {f : q_Hp} {p j : Nat} {es es1 : List q_E} (hv : (es.drop j).take es1.length = es1) : q_blk f p es = q_blk (q_blk f p es) (p + j) es1 := by
  refine q_blk_sub (fun i hi => ?_)
  have h1 : es1[i]? = ((es.drop j).take es1.length)[i]? := by rw [hv]
  rw [h1, List.getElem?_take, if_pos hi, List.getElem?_drop]
theorem q_blk_back {f : q_Hp} {p j : Nat} {es es2 : List q_E} (hj : j + es2.length ≤ es.length) : q_blk (q_blk f p es) (p + j) es2 = q_blk f p (es.take j ++ (es2 ++ es.drop (j + es2.length))) := by
  refine q_blk_in ?_ hj (fun i hi => ?_)
  · simp
    omega
  · by_cases h : j ≤ i ∧ i < j + es2.length
    · rw [if_pos h, List.getElem?_append_right (by simp; omega), List.getElem?_append_left (by simp; omega)]
      simp
      rw [show min j es.length = j by omega]
    · rw [if_neg h]
      by_cases h2 : i < j
      · rw [List.getElem?_append_left (by simp; omega), List.getElem?_take, if_pos h2]
      · rw [List.getElem?_append_right (by simp; omega), List.getElem?_append_right (by simp; omega), List.getElem?_drop]
        congr 1
        simp
        omega
/-- a call on an object inside the block, which only reads -/
theorem q_cVr {y : MethodName} {as : List Value} {p j i ci : Nat} {fs : List Value} {T : u_T} {N : Nat} {r : Option Value} {es es1 : List q_E} (hS : Sp y u' (.ref (p + j) :: as) n (q_blk (q_blk f p es) (p + j) es1) (r, n, q_blk (q_blk f p es) (p + j) es1)) (hd : decode u.1 pc = .ok (.invokevirtual i, 3)) (hw : q_LV u.2.1 i y u' as.length) (he : stk = as.reverse ++ .ref (p + j) :: st) (hv : (es.drop j).take es1.length = es1) (hb : es1[0]? = some (.inr (ci, fs))) (hci : vwCl[ci]? = some (y.cls, T, N)) (hR : q_R u' u) (hce : ce + u'.2.2.2.1.cells ≤ u.2.2.2.1.cells) (hsl : sl + u'.2.2.2.1.slots ≤ u.2.2.2.1.slots) (hst : (st.map fun v => v.category).sum ≤ 8)
    (k : J G d u z (ce + u'.2.2.2.1.cells) (sl + u'.2.2.2.1.slots) n (pc + 3) ls (r.toList ++ st) (q_blk f p es)) : J G d u z ce sl n pc ls stk (q_blk f p es) := by
  have hb' : q_blk (q_blk f p es) (p + j) es1 (p + j) = some (.inr (ci, fs)) := q_blk_get (f := q_blk f p es) (p := p + j) hb
  exact q_heap (q_blk_view hv) (q_cW hS hd hw he hb' hci hR hce hsl hst (q_heap (q_blk_view hv).symm k))
/-- a call on an object inside the block, which changes it -/
theorem q_cV {y : MethodName} {as : List Value} {p j i ci : Nat} {fs : List Value} {T : u_T} {N : Nat} {r : Option Value} {es es1 es2 : List q_E} (hS : Sp y u' (.ref (p + j) :: as) n (q_blk (q_blk f p es) (p + j) es1) (r, n, q_blk (q_blk f p es) (p + j) es2)) (hd : decode u.1 pc = .ok (.invokevirtual i, 3)) (hw : q_LV u.2.1 i y u' as.length) (he : stk = as.reverse ++ .ref (p + j) :: st) (hv : (es.drop j).take es1.length = es1) (hb : es1[0]? = some (.inr (ci, fs))) (hci : vwCl[ci]? = some (y.cls, T, N)) (hj : j + es2.length ≤ es.length) (hR : q_R u' u) (hce : ce + u'.2.2.2.1.cells ≤ u.2.2.2.1.cells) (hsl : sl + u'.2.2.2.1.slots ≤ u.2.2.2.1.slots) (hst : (st.map fun v => v.category).sum ≤ 8)
    (k : J G d u z (ce + u'.2.2.2.1.cells) (sl + u'.2.2.2.1.slots) n (pc + 3) ls (r.toList ++ st) (q_blk f p (es.take j ++ (es2 ++ es.drop (j + es2.length))))) : J G d u z ce sl n pc ls stk (q_blk f p es) := by
  have hb' : q_blk (q_blk f p es) (p + j) es1 (p + j) = some (.inr (ci, fs)) := q_blk_get (f := q_blk f p es) (p := p + j) hb
  exact q_heap (q_blk_view hv) (q_cW hS hd hw he hb' hci hR hce hsl hst (q_heap (q_blk_back hj) k))
end JROWS2
theorem q_vp {k : Int32} {m : Nat} (h0 : ¬ k < 0) (h1 : ¬ Int32.ofNat m ≤ k) (hm : m < 2 ^ 31) : vp_in k m := by
  rcases pk_ix k hm with h | h | ⟨j, hj, rfl⟩
  · exact absurd h h0
  · exact absurd h h1
  · exact vp_in_nI hj hm
/-! the state of a stage: below, by, how many taps, way, wraps, to thin; came in, held, greatest; taps; plan: stands, bits, word, shift, norm, factors; latest: stands, sum, exact, rounded, output, sizes, rounded by; ring: words, head -/
abbrev q_St : Type := Int32 × Int32 × Int32 × Int32 × Int32 × Int32 × Int64 × Int64 × Int64 × (Nat → Int32) × Int32 × Int32 × Int32 × Int32 × Int64 × (Nat → Int32) × Int32 × Int64 × Int64 × Int64 × Int32 × Int64 × Int32 × (Nat → Int32) × Int32
abbrev plE (p : Nat) (pst bits word shift : Int32) (psz : Int64) (fac : Nat → Int32) : List q_E := [.inr (1, [.int pst, .int bits, .int word, .int shift, .long psz, .ref (p + 1)]), .inl (0, 32, .inl fac)]
abbrev laE (lst : Int32) (sum ex rnd : Int64) (out : Int32) (ssz : Int64) (rby : Int32) : List q_E := [.inr (0, [.int lst, .long sum, .long ex, .long rnd, .int out, .long ssz, .int rby])]
abbrev rgE (p : Nat) (wds : Nat → Int32) (rhd : Int32) : List q_E := [.inr (2, [.ref (p + 1), .int rhd]), .inl (1, 32, .inl wds)]
abbrev tpE (p : Nat) (sam : Nat → Int32) (len lost : Int32) : List q_E := [.inr (5, [.ref (p + 1), .int len, .int lost]), .inl (1, 600, .inl sam)]
def stE (p : Nat) : q_St → List q_E := fun (below, by_, tc, way, wr, thin, cin, hld, gst, taps, pst, bits, word, shift, psz, fac, lst, sum, ex, rnd, out, ssz, rby, wds, rhd) =>
  [.inr (4, [.int below, .int by_, .ref (p + 1), .int tc, .int way, .int wr, .ref (p + 2), .ref (p + 4), .ref (p + 5), .int thin, .long cin, .long hld, .long gst]), .inl (0, 32, .inl taps), .inr (1, [.int pst, .int bits, .int word, .int shift, .long psz, .ref (p + 3)]), .inl (0, 32, .inl fac), .inr (0, [.int lst, .long sum, .long ex, .long rnd, .int out, .long ssz, .int rby]), .inr (2, [.ref (p + 6), .int rhd]), .inl (1, 32, .inl wds)]
theorem q_le {a b : Nat} (h : Nat.ble a b = true) : a ≤ b := Nat.le_of_ble_eq_true h
theorem Sp.ofF {u : q_M} {z : q_Z} {n : Nat} {f : q_Hp} {y : MethodName} {as : List Value} (hy : plainFor y = true) (ho : y.cls = u.2.1) (hnm : y.name = u.2.2.2.2.2) (hl : (lg_sl as).length ≤ u.2.2.1) (body : ∀ (G : q_G) (d : q_D), J G d u z 0 0 n 0 (q_l (lv_args 0 as)) [] f) : Sp y u as n f z := by
  intro l d
  refine va_MetF (cc := u.1) (maxL := u.2.2.1) (ret := u.2.2.2.2.1) hy rfl ?_
  intro p e s m args below meth c s₁ B hml hv
  obtain ⟨rfl, ⟨hK, hAO⟩, hH⟩ := hv
  have hts := atoms_spec (ws := Cond.code y u.1 u.2.2.1 u.2.2.2.2.1 :: q_tb) B.pre
  have hown : s.vm.findClass y.cls = some m.cls := findClass_of_methodNamed B.named
  rw [lg_entry_eq]
  have hE := lv_entry (as.map (q_v d)) (n := u.2.2.1) (by rw [q_lg_sl]; exact hl)
  refine body (p, l, e, s, m, _, below, meth, c) d ⟨B.exec, B.bytes, hml, by rw [← ho]; exact hown, fun w hw => hts w (List.mem_cons_of_mem _ hw), B.returns, ⟨B.notSynchronized, hAO⟩, by rw [← hnm]; exact (name_of_methodNamed B.named B.method).1, hK⟩ s.heap [] _ hH (fun _ _ => rfl) (fun _ h => by cases h) ⟨hE.1, hE.2.1, fun i v hv => ?_⟩
  refine hE.2.2 (i, q_v d v) ?_
  rw [q_lv_args]
  exact List.mem_map.mpr ⟨(i, v), q_l_mem hv, rfl⟩
theorem q_vq {k : Int32} {m : Nat} {M : Int32} (h0 : ¬ k < 0) (h1 : ¬ M ≤ k) (hm : m < 2 ^ 31) (hM : Int32.ofNat m = M) : vp_in k m := by
  subst hM
  exact q_vp h0 h1 hm
theorem q_ne {x v : Int32} (h : ¬ x = v) {i : Int} (hv : v.toInt = i) : x.toInt ≠ i := fun e => h (Int32.toInt_inj.mp (e.trans hv.symm))
def q_all (ls : q_L) : List (Nat × Value) → Prop
  | [] => True
  | q :: r => ls q.1 = some q.2 ∧ q_all ls r
theorem q_all_mem {ls : q_L} : ∀ {l : List (Nat × Value)}, q_all ls l → ∀ q ∈ l, ls q.1 = some q.2
  | [], _, q, h => by cases h
  | a :: r, h, q, hq => by
    rcases List.mem_cons.mp hq with e | e
    · rw [e]; exact h.1
    · exact q_all_mem h.2 q e
theorem q_lo {G : q_G} {d : q_D} {u : q_M} {z : q_Z} {ce sl n pc : Nat} {ls : q_L} {st : List Value} {f : q_Hp} (l : List (Nat × Value)) (h : q_all ls l) (k : J G d u z ce sl n pc (q_l l) st f) : J G d u z ce sl n pc ls st f := q_loc l (q_all_mem h) k
theorem q_zz {G : q_G} {d : q_D} {u : q_M} {z z' : q_Z} {ce sl n pc : Nat} {ls : q_L} {st : List Value} {f : q_Hp} (h : z' = z) (k : J G d u z' ce sl n pc ls st f) : J G d u z ce sl n pc ls st f := h ▸ k
theorem q_ge32 {i : Nat} (h : i < 32) : ¬ (32 : Int32) ≤ nI i := nI_ge (b := 32) h (by decide)
theorem q_in32 {i : Nat} (h : i < 32) : vp_in (nI i) 32 := vp_in_nI h (by decide)
