theorem q_goodIn : GoodIn q_tb q_tb := fun w hw => ⟨hw, good_of_word (List.mem_filter.mp hw).2⟩
theorem q_goodC {y : MethodName} {u : q_M} (h : Cond.code y u.1 u.2.2.1 u.2.2.2.2.1 ∈ q_tb) : GoodIn q_tb (Cond.code y u.1 u.2.2.1 u.2.2.2.2.1 :: q_tb) := by
  intro w hw
  rcases List.mem_cons.mp hw with e | e
  · rw [e]; exact q_goodIn _ h
  · exact q_goodIn w e
/-- a call's words: virtual, static, of a constructor -/
def q_LV (own : String) (i : Nat) (y : MethodName) (u : q_M) (k : Nat) : Prop := (Cond.methodLink own i y ∈ q_tb ∧ Cond.instanceMethod y ∈ q_tb ∧ Cond.selects y.cls y y ∈ q_tb ∧ Cond.initialized y.cls ∈ q_tb ∧ Cond.code y u.1 u.2.2.1 u.2.2.2.2.1 ∈ q_tb) ∧
  y.cls ≠ "java/lang/invoke/MethodHandle" ∧ y.cls ≠ "java/lang/invoke/VarHandle" ∧ (parseMethodDescriptor y.desc).map (fun x => x.parameters.length) = some k
def q_LS (own : String) (i : Nat) (y : MethodName) (u : q_M) (k : Nat) : Prop := (Cond.methodLink own i y ∈ q_tb ∧ Cond.static y ∈ q_tb ∧ Cond.initialized y.cls ∈ q_tb ∧ Cond.code y u.1 u.2.2.1 u.2.2.2.2.1 ∈ q_tb) ∧
  y.cls ≠ "java/lang/invoke/MethodHandle" ∧ y.cls ≠ "java/lang/invoke/VarHandle" ∧ (parseMethodDescriptor y.desc).map (fun x => x.parameters.length) = some k
def q_LI (own : String) (i : Nat) (y : MethodName) (u : q_M) (k : Nat) : Prop := (Cond.methodLink own i y ∈ q_tb ∧ Cond.instanceMethod y ∈ q_tb ∧ Cond.initialized y.cls ∈ q_tb ∧ Cond.code y u.1 u.2.2.1 u.2.2.2.2.1 ∈ q_tb) ∧
  y.cls ≠ "java/lang/invoke/MethodHandle" ∧ y.cls ≠ "java/lang/invoke/VarHandle" ∧ (parseMethodDescriptor y.desc).map (fun x => x.parameters.length) = some k ∧ y.name = "<init>" ∧ u.2.2.2.2.1 = none
/-- the callee's room is in the caller's -/
def q_R (u' u : q_M) : Prop := u'.2.2.2.1.frames + 1 ≤ u.2.2.2.1.frames ∧ 8 + (u'.2.2.1 + 11) + u'.2.2.2.1.locals ≤ u.2.2.2.1.locals
theorem q_cat_map (d : q_D) (st : List Value) : ((st.map (q_v d)).map fun v => v.category) = st.map fun v => v.category := by
  rw [List.map_map]
  exact List.map_congr_left (fun v _ => q_v_cat d v)
theorem q_blind (d : q_D) (as : List Value) (n : Nat) (f : q_Hp) : FrameBlind (va_Pc (as.map (q_v d)) (fun U => (va_K d.1 vwCl (q_tys d) U ∧ va_AO RX4 U) ∧ q_H d n f U.heap)) := by
  intro a U g mk h
  obtain ⟨h1, ⟨h2, h4⟩, h3⟩ := h
  exact ⟨h1, ⟨va_K.moved (u := U) (U := U.calling g mk a) (Vm.Alike.refl U.vm) h2, va_AO.moved (u := U) (U := U.calling g mk a) (Vm.Alike.refl U.vm) h4⟩, h3⟩
theorem q_after {p : Program} {l : Launch} {e : Env} {R : Room} {s : State} {m : MethodId} {args : Array Value} {below : List Frame} {meth : Method} {c : Code} {H : Heap} {locs : List Loc} {cells slots mc ms pc : Nat} {Q : State → Prop} {arr : Array Slot} {st0 rest : List Value} {d : q_D} {z : q_Z} {a : Array Value}
    (hr : va_Run p l e R s m args below meth c H locs cells slots mc ms (F0 m pc arr st0) rest (q_Q d z a) (fun q => d.2.2.1 < q)) (h2 : ∀ q : Nat, q ≤ d.2.2.1 → H[q]? = s.heap[q]?) (h3 : ∀ q ∈ locs, d.2.2.1 < q.base)
    (kk : ∀ (H1 : Heap) (locs1 : List Loc), q_H d z.2.1 z.2.2 H1 → (∀ q : Nat, q ≤ d.2.2.1 → H1[q]? = s.heap[q]?) → (∀ q ∈ locs1, d.2.2.1 < q.base) → W p l e R s m args below meth c H1 locs1 (cells + mc) (slots + ms) Q (F0 m (pc + 3) arr ((z.1.map (q_v d)).toList ++ rest))) : W p l e R s m args below meth c H locs cells slots Q (F0 m pc arr st0) := by
  intro T hT X
  obtain ⟨v, st₀, t, T', L, h0, X', hL, e1, e2, ⟨hv, hH, hlow⟩, st⟩ := hr T hT X
  have hv : v = z.1.map (q_v d) := Outcome.returned.inj hv
  subst hv
  rw [h0] at hlow
  obtain ⟨t2, a1, b1⟩ := kk T'.heap (locs ++ L) (by rw [e1]; exact hH) (fun q hq => by rw [e1]; exact (hlow q hq).trans (h2 q hq)) (fun q hq => by
      rcases List.mem_append.mp hq with h | h
      · exact h3 q h
      · exact hL q h) T' rfl X'
  exact ⟨t2, st t2 a1, b1⟩
section JCALLS
variable {G : q_G} {d : q_D} {u u' : q_M} {z : q_Z} {ce sl n pc : Nat} {ls : q_L} {st : List Value} {f : q_Hp}
theorem q_callV {y : MethodName} {as : List Value} {b i ci : Nat} {fs : List Value} {T : u_T} {N : Nat} {r : Option Value} {n' : Nat} {f' : q_Hp} (hS : Sp y u' (.ref b :: as) n f (r, n', f')) (hd : decode u.1 pc = .ok (.invokevirtual i, 3)) (hw : q_LV u.2.1 i y u' as.length) (hR : q_R u' u) (hb : f b = some (.inr (ci, fs))) (hci : vwCl[ci]? = some (y.cls, T, N)) (hce : ce + u'.2.2.2.1.cells ≤ u.2.2.2.1.cells) (hsl : sl + u'.2.2.2.1.slots ≤ u.2.2.2.1.slots) (hst : (st.map fun v => v.category).sum ≤ 8)
    (k : J G d u z (ce + u'.2.2.2.1.cells) (sl + u'.2.2.2.1.slots) n' (pc + 3) ls (r.toList ++ st) f') : J G d u z ce sl n pc ls (as.reverse ++ .ref b :: st) f := by
  intro X H locs arr h1 h2 h3 h4
  obtain ⟨⟨w1, w2, w3, w4, w5⟩, g1, g2, g3⟩ := hw
  have hts := X.2.2.2.2.1
  have hK := X.2.2.2.2.2.2.2.2
  rw [List.map_append, List.map_reverse, List.map_cons]
  have hB := callB_of (own := u.2.1) (index := i) (R := u.2.2.2.1) (rm := u'.2.2.2.1) (s := G.2.2.2.1) (args := G.2.2.2.2.2.1) (ret := u'.2.2.2.2.1) as.length hts (q_goodC w5) rfl rfl rfl (hts _ w4) (hts _ w1) ⟨g1, g2, g3⟩ hR
  refine q_after (rest := st.map (q_v d)) (va_runV (own := u.2.1) (As := as.map (q_v d)) (b := q_ad d b) (C := y.cls) (n := as.length) ⟨X.1, X.2.1, X.2.2.1, X.2.2.2.1, hts⟩ (hS G.2.1 d) ⟨hB, hts _ w2, hts _ w3⟩ ⟨q_blind d _ n f, va_recv hK (h1.at hb) hci (q0 := 0) rfl, fun U hU hW => ⟨rfl, ⟨va_K.moved hW.alike hK, va_AO.moved hW.alike X.2.2.2.2.2.2.1.2⟩, by rw [hU]; exact h1⟩⟩ rfl (List.length_map ..) h4.1 rfl (lv_room (by rw [q_cat_map]; exact hst)) hd ⟨hce, hsl⟩) h2 h3 (fun H1 locs1 a1 a2 a3 => ?_)
  · have := k X H1 locs1 arr a1 a2 a3 h4
    rw [List.map_append] at this
    cases r with
    | none => exact this
    | some x => exact this
theorem q_callS {y : MethodName} {as : List Value} {i : Nat} {r : Option Value} {n' : Nat} {f' : q_Hp} (hS : Sp y u' as n f (r, n', f')) (hd : decode u.1 pc = .ok (.invokestatic i, 3)) (hw : q_LS u.2.1 i y u' as.length) (hR : q_R u' u) (hce : ce + u'.2.2.2.1.cells ≤ u.2.2.2.1.cells) (hsl : sl + u'.2.2.2.1.slots ≤ u.2.2.2.1.slots) (hst : (st.map fun v => v.category).sum ≤ 8)
    (k : J G d u z (ce + u'.2.2.2.1.cells) (sl + u'.2.2.2.1.slots) n' (pc + 3) ls (r.toList ++ st) f') : J G d u z ce sl n pc ls (as.reverse ++ st) f := by
  intro X H locs arr h1 h2 h3 h4
  obtain ⟨⟨w1, w2, w4, w5⟩, g1, g2, g3⟩ := hw
  have hts := X.2.2.2.2.1
  have hK := X.2.2.2.2.2.2.2.2
  rw [List.map_append, List.map_reverse]
  have hB := callB_of (own := u.2.1) (index := i) (R := u.2.2.2.1) (rm := u'.2.2.2.1) (s := G.2.2.2.1) (args := G.2.2.2.2.2.1) (ret := u'.2.2.2.2.1) as.length hts (q_goodC w5) rfl rfl rfl (hts _ w4) (hts _ w1) ⟨g1, g2, g3⟩ hR
  refine q_after (rest := st.map (q_v d)) (va_runS (own := u.2.1) (As := as.map (q_v d)) (n := as.length) ⟨X.1, X.2.1, X.2.2.1, X.2.2.2.1, hts⟩ (hS G.2.1 d) ⟨hB, hts _ w2⟩ ⟨q_blind d _ n f, fun U hU hW => ⟨rfl, ⟨va_K.moved hW.alike hK, va_AO.moved hW.alike X.2.2.2.2.2.2.1.2⟩, by rw [hU]; exact h1⟩⟩ rfl (List.length_map ..) h4.1 rfl (lv_room (by rw [q_cat_map]; exact hst)) hd ⟨hce, hsl⟩) h2 h3 (fun H1 locs1 a1 a2 a3 => ?_)
  · have := k X H1 locs1 arr a1 a2 a3 h4
    rw [List.map_append] at this
    cases r with
    | none => exact this
    | some x => exact this
theorem q_callI {y : MethodName} {as : List Value} {b i : Nat} {n' : Nat} {f' : q_Hp} (hS : Sp y u' (.ref b :: as) n f (none, n', f')) (hd : decode u.1 pc = .ok (.invokespecial i, 3)) (hw : q_LI u.2.1 i y u' as.length) (hR : q_R u' u) (hce : ce + u'.2.2.2.1.cells ≤ u.2.2.2.1.cells) (hsl : sl + u'.2.2.2.1.slots ≤ u.2.2.2.1.slots) (hst : (st.map fun v => v.category).sum ≤ 8)
    (k : J G d u z (ce + u'.2.2.2.1.cells) (sl + u'.2.2.2.1.slots) n' (pc + 3) ls st f') : J G d u z ce sl n pc ls (as.reverse ++ .ref b :: st) f := by
  intro X H locs arr h1 h2 h3 h4
  obtain ⟨⟨w1, w2, w4, w5⟩, g1, g2, g3, g4, g5⟩ := hw
  have hts := X.2.2.2.2.1
  have hK := X.2.2.2.2.2.2.2.2
  rw [List.map_append, List.map_reverse, List.map_cons]
  have hSp := hS G.2.1 d
  have hB := callB_of (own := u.2.1) (index := i) (R := u.2.2.2.1) (rm := u'.2.2.2.1) (s := G.2.2.2.1) (args := G.2.2.2.2.2.1) (ret := u'.2.2.2.2.1) as.length hts (q_goodC w5) rfl rfl rfl (hts _ w4) (hts _ w1) ⟨g1, g2, g3⟩ hR
  rw [g5] at hSp hB
  exact q_after (rest := st.map (q_v d)) (va_runI (own := u.2.1) (As := as.map (q_v d)) (b := q_ad d b) (n := as.length) ⟨X.1, X.2.1, X.2.2.1, X.2.2.2.1, hts⟩ hSp ⟨hB, g4, hts _ w2⟩ ⟨q_blind d _ n f, fun U hU hW => ⟨rfl, ⟨va_K.moved hW.alike hK, va_AO.moved hW.alike X.2.2.2.2.2.2.1.2⟩, by rw [hU]; exact h1⟩⟩ rfl (List.length_map ..) h4.1 rfl (lv_room (by rw [q_cat_map]; exact hst)) hd ⟨hce, hsl⟩) h2 h3 (fun H1 locs1 a1 a2 a3 => k X H1 locs1 arr a1 a2 a3 h4)
theorem q_lv_args (d : q_D) (as : List Value) : ∀ i : Nat, lv_args i (as.map (q_v d)) = (lv_args i as).map (fun q => (q.1, q_v d q.2)) := by
  induction as with
  | nil => intro i; rfl
  | cons v r ih =>
    intro i
    rw [List.map_cons]
    show (i, q_v d v) :: lv_args _ _ = (i, q_v d v) :: _
    rw [q_v_cat, ih]
theorem q_lg_sl (d : q_D) (as : List Value) : (lg_sl (as.map (q_v d))).length = (lg_sl as).length := by
  induction as with
  | nil => rfl
  | cons v r ih =>
    have h : ∀ (x : Value) (t : List Value), (lg_sl (x :: t)).length = (if x.category = 2 then 2 else 1) + (lg_sl t).length := by
      intro x t
      unfold lg_sl
      rw [List.flatMap_cons, List.length_append]
      split <;> simp [*]
    rw [List.map_cons, h, h, q_v_cat, ih]
/-- a contract out of a walk -/
theorem Sp.of {y : MethodName} {as : List Value} (hy : plainName y.cls = true) (ho : y.cls = u.2.1) (hnm : y.name = u.2.2.2.2.2) (hl : (lg_sl as).length ≤ u.2.2.1) (body : ∀ (G : q_G) (d : q_D), J G d u z 0 0 n 0 (q_l (lv_args 0 as)) [] f) : Sp y u as n f z := by
  intro l d
  refine Met.ofW (cc := u.1) (maxL := u.2.2.1) (ret := u.2.2.2.2.1) hy rfl ?_
  intro p e s m args below meth c s₁ B hml hv
  obtain ⟨rfl, ⟨hK, hAO⟩, hH⟩ := hv
  have hts := atoms_spec (ws := Cond.code y u.1 u.2.2.1 u.2.2.2.2.1 :: q_tb) B.pre
  have hown : s.vm.findClass y.cls = some m.cls := findClass_of_methodNamed B.named
  rw [lg_entry_eq]
  have hE := lv_entry (as.map (q_v d)) (n := u.2.2.1) (by rw [q_lg_sl]; exact hl)
  refine body (p, l, e, s, m, _, below, meth, c) d ⟨B.exec, B.bytes, hml, by rw [← ho]; exact hown, fun w hw => hts w (List.mem_cons_of_mem _ hw), B.returns, ⟨B.notSynchronized, hAO⟩, by rw [← hnm]; exact (name_of_methodNamed B.named B.method).1, hK⟩ s.heap [] _ hH (fun _ _ => rfl) (fun _ h => by cases h) ⟨hE.1, hE.2.1, fun i v hv => ?_⟩
  refine hE.2.2 (i, q_v d v) ?_
  rw [q_lv_args]
  exact List.mem_map.mpr ⟨(i, v), q_l_mem hv, rfl⟩
end JCALLS
/-! blocks of cells: a heap with the cells es from place p on -/
def q_blk (f : q_Hp) (p : Nat) (es : List q_E) : q_Hp := fun q => if p ≤ q ∧ q < p + es.length then es[q - p]? else f q
theorem q_blk_get {f : q_Hp} {p j : Nat} {es : List q_E} {e : q_E} (h : es[j]? = some e) : q_blk f p es (p + j) = some e := by
  have hl : j < es.length := (List.getElem?_eq_some_iff.mp h).1
  unfold q_blk
  rw [if_pos ⟨Nat.le_add_right p j, by omega⟩, show p + j - p = j by omega]
  exact h
theorem q_blk_out {f : q_Hp} {p q : Nat} {es : List q_E} (h : q < p ∨ p + es.length ≤ q) : q_blk f p es q = f q := by
  unfold q_blk
  rw [if_neg (by omega)]
theorem q_blk_up {f : q_Hp} {p j : Nat} {es : List q_E} {e : q_E} (h : j < es.length) : q_up (q_blk f p es) (p + j) e = q_blk f p (es.set j e) := by
  funext q
  by_cases hq : q = p + j
  · subst hq
    rw [q_up_self, q_blk_get (List.getElem?_set_self h)]
  · rw [q_up_ne _ _ hq]
    unfold q_blk
    rw [List.length_set]
    split
    · rw [List.getElem?_set_ne (by omega)]
    · rfl
/-- the same heap, seen from a smaller block -/
theorem q_blk_sub {f : q_Hp} {p j : Nat} {es es' : List q_E} (h : ∀ i : Nat, i < es'.length → es[j + i]? = es'[i]?) : q_blk f p es = q_blk (q_blk f p es) (p + j) es' := by
  funext q
  by_cases hq : p + j ≤ q ∧ q < p + j + es'.length
  · obtain ⟨i, rfl⟩ : ∃ i, q = p + j + i := ⟨q - (p + j), by omega⟩
    have hi : i < es'.length := by omega
    have h1 := h i hi
    rw [q_blk_get (f := q_blk f p es) (p := p + j) (List.getElem?_eq_getElem hi)]
    rw [List.getElem?_eq_getElem hi] at h1
    rw [Nat.add_assoc]
    exact q_blk_get h1
  · rw [q_blk_out (f := q_blk f p es) (by omega)]
/-- a smaller block put into a block -/
theorem q_blk_in {f : q_Hp} {p j : Nat} {es es' es2 : List q_E} (hl : es2.length = es.length) (hj : j + es'.length ≤ es.length) (h : ∀ i : Nat, i < es.length → es2[i]? = if j ≤ i ∧ i < j + es'.length then es'[i - j]? else es[i]?) : q_blk (q_blk f p es) (p + j) es' = q_blk f p es2 := by
  funext q
  by_cases hq : p ≤ q ∧ q < p + es.length
  · obtain ⟨i, rfl⟩ : ∃ i, q = p + i := ⟨q - p, by omega⟩
    have hi : i < es.length := by omega
    have h1 := h i hi
    by_cases h2 : j ≤ i ∧ i < j + es'.length
    · rw [if_pos h2] at h1
      obtain ⟨t, rfl⟩ : ∃ t, i = j + t := ⟨i - j, by omega⟩
      rw [show j + t - j = t by omega, List.getElem?_eq_getElem (by omega : t < es'.length)] at h1
      rw [q_blk_get h1, ← Nat.add_assoc]
      exact q_blk_get (List.getElem?_eq_getElem (by omega))
    · rw [if_neg h2, List.getElem?_eq_getElem hi] at h1
      rw [q_blk_get h1, q_blk_out (f := q_blk f p es) (by omega)]
      exact q_blk_get (List.getElem?_eq_getElem hi)
  · rw [q_blk_out (es := es2) (by omega), q_blk_out (f := q_blk f p es) (by omega), q_blk_out (by omega)]
