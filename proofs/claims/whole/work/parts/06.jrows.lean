/-! THE MACHINE BY PLACES. Place k (k > 0) is the cell B + k, place 0 the script at b. f: what each place holds. -/
def q_tb : List Cond := lw_tbl.filter goodWord
theorem q_in {w : Cond} {i : Nat} (h : lw_tbl[i]? = some w) (hg : goodWord w = true) : w ∈ q_tb := List.mem_filter.mpr ⟨List.mem_of_getElem? h, hg⟩
theorem q_tbl {w : Cond} (h : w ∈ q_tb) : w ∈ lw_tbl := (List.mem_filter.mp h).1
abbrev q_E : Type := (Nat × vp_A) ⊕ (Nat × List Value)
abbrev q_Hp : Type := Nat → Option q_E
abbrev q_D : Type := va_G × (Nat → ClassId) × Nat × Nat
abbrev q_L : Type := Nat → Option Value
abbrev q_G : Type := Program × Launch × Env × State × MethodId × Array Value × List Frame × Method × Code
/-- code, own class, how many locals, room, return type, name -/
abbrev q_M : Type := ByteArray × String × Nat × Room × Option FieldType × String
/-- answer, how many places, heap -/
abbrev q_Z : Type := Option Value × Nat × q_Hp
def q_ad (d : q_D) (k : Nat) : Nat := if k = 0 then d.2.2.2 else d.2.2.1 + k
def q_v (d : q_D) : Value → Value
  | .ref k => .ref (q_ad d k)
  | .int x => .int x
  | .long x => .long x
  | .null => .null
  | .float x => .float x
  | .double x => .double x
  | .retAddr x => .retAddr x
def q_a (d : q_D) : vp_A → vp_A
  | (n, .inr (.inr (.inr (.inr g)))) => (n, .inr (.inr (.inr (.inr (fun j => (g j).map (q_ad d))))))
  | (n, .inl g) => (n, .inl g)
  | (n, .inr (.inl g)) => (n, .inr (.inl g))
  | (n, .inr (.inr (.inl g))) => (n, .inr (.inr (.inl g)))
  | (n, .inr (.inr (.inr (.inl g)))) => (n, .inr (.inr (.inr (.inl g))))
def q_e (d : q_D) : q_E → va_E
  | .inl a => .inl (d.2.1 a.1, q_a d a.2)
  | .inr r => .inr (r.1, r.2.map (q_v d))
def q_tys (d : q_D) : List (ClassId × FieldType) := [(d.2.1 0, .int), (d.2.1 1, .short), (d.2.1 2, .boolean), (d.2.1 3, .long), (d.2.1 4, .object RX4)]
def q_H (d : q_D) (n : Nat) (f : q_Hp) (H : Heap) : Prop := H.size = d.2.2.1 + n ∧ 0 < n ∧ f 0 = none ∧ ∀ (k : Nat) (e : q_E), f k = some e → k < n ∧ va_at d.1 vwCl (d.2.2.1 + k, q_e d e) H
def q_A (d : q_D) (nL : Nat) (arr : Array Slot) (ls : q_L) : Prop := arr.size = nL ∧ lv_wf arr ∧ ∀ (i : Nat) (v : Value), ls i = some v → arr[i]? = some (.val (q_v d v))
def q_up (f : q_Hp) (k : Nat) (e : q_E) : q_Hp := fun j => if j = k then some e else f j
theorem q_up_self (f : q_Hp) (k : Nat) (e : q_E) : q_up f k e k = some e := if_pos rfl
theorem q_up_ne (f : q_Hp) {k j : Nat} (e : q_E) (h : j ≠ k) : q_up f k e j = f j := if_neg h
theorem q_v_cat (d : q_D) (v : Value) : (q_v d v).category = v.category := by cases v <;> rfl
/-! locals -/
def q_1 : Option Value → Option Value
  | none => none
  | some w => bif Nat.beq w.category 2 then none else some w
def q_s1 (ls : q_L) (i : Nat) (v : Value) : q_L := fun j => bif Nat.beq j i then some v else bif Nat.beq (j + 1) i then q_1 (ls j) else ls j
def q_s2 (ls : q_L) (i : Nat) (v : Value) : q_L := fun j => bif Nat.beq j i then some v else bif Nat.beq j (i + 1) then none else bif Nat.beq (j + 1) i then q_1 (ls j) else ls j
def q_l : List (Nat × Value) → q_L
  | [], _ => none
  | (j, v) :: r, i => bif Nat.beq j i then some v else q_l r i
theorem q_beq_f {i j : Nat} (h : i ≠ j) : Nat.beq i j = false := by
  cases e : Nat.beq i j with
  | false => rfl
  | true => exact absurd (Nat.eq_of_beq_eq_true e) h
theorem q_beq_t (i : Nat) : Nat.beq i i = true := Nat.beq_refl i
def q_lst (d : q_D) (nL : Nat) (ls : q_L) : List (Nat × Value) := (List.range nL).filterMap (fun i => (ls i).map (fun v => (i, q_v d v)))
theorem q_lst_mem {d : q_D} {nL : Nat} {ls : q_L} {i : Nat} {v : Value} (hi : i < nL) (h : ls i = some v) : (i, q_v d v) ∈ q_lst d nL ls :=
  List.mem_filterMap.mpr ⟨i, List.mem_range.mpr hi, by rw [h]; rfl⟩
theorem q_A.has {d : q_D} {nL : Nat} {arr : Array Slot} {ls : q_L} (h : q_A d nL arr ls) : lv_has arr nL (q_lst d nL ls) := by
  refine ⟨h.1, h.2.1, fun q hq => ?_⟩
  obtain ⟨i, -, hi⟩ := List.mem_filterMap.mp hq
  cases hv : ls i with
  | none => rw [hv] at hi; cases hi
  | some v =>
    rw [hv] at hi
    cases hi
    exact h.2.2 i v hv
theorem q_A.lt {d : q_D} {nL : Nat} {arr : Array Slot} {ls : q_L} (h : q_A d nL arr ls) {i : Nat} {v : Value} (hv : ls i = some v) : i < nL := by
  have := (Array.getElem?_eq_some_iff.mp (h.2.2 i v hv)).1
  rw [h.1] at this
  exact this
theorem q_A.s1 {d : q_D} {nL : Nat} {arr arr' : Array Slot} {ls : q_L} {i : Nat} {v : Value} (h : q_A d nL arr ls)
    (h' : lv_has arr' nL ((i, q_v d v) :: (q_lst d nL ls).filter (fun q => !(q.1 == i) && !(q.1 + 1 == i && q.2.category == 2)))) : q_A d nL arr' (q_s1 ls i v) := by
  refine ⟨h'.1, h'.2.1, fun j w hw => ?_⟩
  unfold q_s1 at hw
  by_cases h1 : j = i
  · subst h1
    rw [q_beq_t] at hw
    cases hw
    exact h'.2.2 _ List.mem_cons_self
  · rw [q_beq_f h1] at hw
    by_cases h2 : j + 1 = i
    · rw [h2, q_beq_t] at hw
      have hw : q_1 (ls j) = some w := hw
      cases hl : ls j with
      | none => rw [hl] at hw; cases hw
      | some x =>
        rw [hl] at hw
        by_cases hc : x.category = 2
        · simp [q_1, hc] at hw
        · have hx : x = w := by simpa [q_1, q_beq_f hc] using hw
          subst hx
          refine h'.2.2 (j, q_v d x) (List.mem_cons_of_mem _ (List.mem_filter.mpr ⟨q_lst_mem (h.lt hl) hl, ?_⟩))
          simp [q_v_cat, hc, h1]
    · rw [q_beq_f h2] at hw
      have hw : ls j = some w := hw
      refine h'.2.2 (j, q_v d w) (List.mem_cons_of_mem _ (List.mem_filter.mpr ⟨q_lst_mem (h.lt hw) hw, ?_⟩))
      simp [h1, h2]
theorem q_A.s2 {d : q_D} {nL : Nat} {arr arr' : Array Slot} {ls : q_L} {i : Nat} {v : Value} (h : q_A d nL arr ls)
    (h' : lv_has arr' nL ((i, q_v d v) :: (q_lst d nL ls).filter (fun q => !(q.1 == i) && (!(q.1 == i + 1) && !(q.1 + 1 == i && q.2.category == 2))))) : q_A d nL arr' (q_s2 ls i v) := by
  refine ⟨h'.1, h'.2.1, fun j w hw => ?_⟩
  unfold q_s2 at hw
  by_cases h1 : j = i
  · subst h1
    rw [q_beq_t] at hw
    cases hw
    exact h'.2.2 _ List.mem_cons_self
  · rw [q_beq_f h1] at hw
    by_cases h3 : j = i + 1
    · subst h3
      rw [q_beq_t] at hw
      cases hw
    · rw [q_beq_f h3] at hw
      by_cases h2 : j + 1 = i
      · rw [h2, q_beq_t] at hw
        have hw : q_1 (ls j) = some w := hw
        cases hl : ls j with
        | none => rw [hl] at hw; cases hw
        | some x =>
          rw [hl] at hw
          by_cases hc : x.category = 2
          · simp [q_1, hc] at hw
          · have hx : x = w := by simpa [q_1, q_beq_f hc] using hw
            subst hx
            refine h'.2.2 (j, q_v d x) (List.mem_cons_of_mem _ (List.mem_filter.mpr ⟨q_lst_mem (h.lt hl) hl, ?_⟩))
            simp [q_v_cat, hc, h1, h3]
      · rw [q_beq_f h2] at hw
        have hw : ls j = some w := hw
        refine h'.2.2 (j, q_v d w) (List.mem_cons_of_mem _ (List.mem_filter.mpr ⟨q_lst_mem (h.lt hw) hw, ?_⟩))
        simp [h1, h2, h3]
theorem q_l_mem {l : List (Nat × Value)} {i : Nat} {v : Value} (h : q_l l i = some v) : (i, v) ∈ l := by
  induction l with
  | nil => cases h
  | cons q r ih =>
    obtain ⟨j, x⟩ := q
    by_cases hj : j = i
    · subst hj
      simp only [q_l, q_beq_t, cond_true] at h
      cases h
      exact List.mem_cons_self
    · simp only [q_l, q_beq_f hj, cond_false] at h
      exact List.mem_cons_of_mem _ (ih h)
/-! the heap under a write, and under something new -/
theorem q_H.lt {d : q_D} {n : Nat} {f : q_Hp} {H : Heap} (h : q_H d n f H) {k : Nat} {e : q_E} (he : f k = some e) : 0 < k ∧ k < n := by
  refine ⟨?_, (h.2.2.2 k e he).1⟩
  cases k with
  | zero => rw [h.2.2.1] at he; cases he
  | succ k => exact Nat.succ_pos k
theorem q_H.ad {d : q_D} {n : Nat} {f : q_Hp} {H : Heap} (h : q_H d n f H) {k : Nat} {e : q_E} (he : f k = some e) : q_ad d k = d.2.2.1 + k := by
  unfold q_ad
  rw [if_neg (Nat.ne_of_gt (h.lt he).1)]
theorem q_H.at {d : q_D} {n : Nat} {f : q_Hp} {H : Heap} (h : q_H d n f H) {k : Nat} {e : q_E} (he : f k = some e) : va_P d.1 vwCl [(q_ad d k, q_e d e)] H := by
  intro j q hq
  have hj : j < 1 := (List.getElem?_eq_some_iff.mp hq).1
  rw [show j = 0 by omega] at hq
  cases hq
  rw [h.ad he]
  exact (h.2.2.2 k e he).2
theorem q_H.set {d : q_D} {n : Nat} {f : q_Hp} {H H1 : Heap} (h : q_H d n f H) {k : Nat} {e0 e : q_E} (he : f k = some e0) (hz : H1.size = H.size) (ho : ∀ q : Nat, q ≠ q_ad d k → H1[q]? = H[q]?) (hn : va_at d.1 vwCl (q_ad d k, q_e d e) H1) : q_H d n (q_up f k e) H1 := by
  have hk := h.lt he
  have ha := h.ad he
  rw [ha] at ho hn
  refine ⟨hz.trans h.1, h.2.1, ?_, fun j x hj => ?_⟩
  · rw [q_up_ne f e (by omega)]
    exact h.2.2.1
  · by_cases hjk : j = k
    · subst hjk
      rw [q_up_self] at hj
      cases hj
      exact ⟨hk.2, hn⟩
    · rw [q_up_ne f e hjk] at hj
      obtain ⟨h1, h2⟩ := h.2.2.2 j x hj
      exact ⟨h1, h2.kept (ho _ (by show d.2.2.1 + j ≠ d.2.2.1 + k; omega))⟩
theorem q_H.push {d : q_D} {n : Nat} {f : q_Hp} {H H1 : Heap} (h : q_H d n f H) {e : q_E} (hz : H1.size = H.size + 1) (ho : ∀ q : Nat, q < H.size → H1[q]? = H[q]?) (hn : va_at d.1 vwCl (H.size, q_e d e) H1) : q_H d (n + 1) (q_up f n e) H1 := by
  have h1 := h.1
  refine ⟨by omega, Nat.succ_pos n, ?_, fun j x hj => ?_⟩
  · rw [q_up_ne f e (Nat.ne_of_lt h.2.1)]
    exact h.2.2.1
  · by_cases hjk : j = n
    · subst hjk
      rw [q_up_self] at hj
      cases hj
      exact ⟨Nat.lt_succ_self _, by rw [← h1]; exact hn⟩
    · rw [q_up_ne f e hjk] at hj
      obtain ⟨h2, h3⟩ := h.2.2.2 j x hj
      exact ⟨Nat.lt_succ_of_lt h2, h3.kept (ho _ (by show d.2.2.1 + j < H.size; omega))⟩
theorem q_H.adn {d : q_D} {n : Nat} {f : q_Hp} {H : Heap} (h : q_H d n f H) : H.size = q_ad d n := by
  unfold q_ad
  rw [if_neg (Nat.ne_of_gt h.2.1)]
  exact h.1
/-! the judgement -/
def q_X (G : q_G) (d : q_D) (u : q_M) : Prop := G.1.tables.exec = Jvm.exec ∧ G.2.2.2.2.2.2.2.2.code = u.1 ∧ G.2.2.2.2.2.2.2.2.maxLocals = u.2.2.1 ∧ G.2.2.2.1.vm.findClass u.2.1 = some G.2.2.2.2.1.cls ∧ (∀ w ∈ q_tb, w.before G.2.2.2.2.2.1 G.2.2.2.1 = true) ∧
  G.2.2.2.2.2.2.2.1.sig.returnType = u.2.2.2.2.1 ∧ (G.2.2.2.2.2.2.2.1.locks = false ∧ va_AO RX4 G.2.2.2.1) ∧ G.2.2.2.2.2.2.2.1.name = u.2.2.2.2.2 ∧ va_K d.1 vwCl (q_tys d) G.2.2.2.1
def q_Q (d : q_D) (z : q_Z) : Array Value → State → Outcome → State → Prop := fun _ st r t => r = .returned (z.1.map (q_v d)) ∧ q_H d z.2.1 z.2.2 t.heap ∧ ∀ q : Nat, q ≤ d.2.2.1 → t.heap[q]? = st.heap[q]?
def J (G : q_G) (d : q_D) (u : q_M) (z : q_Z) (ce sl n pc : Nat) (ls : q_L) (st : List Value) (f : q_Hp) : Prop :=
  q_X G d u → ∀ (H : Heap) (locs : List Loc) (arr : Array Slot), q_H d n f H → (∀ q : Nat, q ≤ d.2.2.1 → H[q]? = G.2.2.2.1.heap[q]?) → (∀ q ∈ locs, d.2.2.1 < q.base) → q_A d u.2.2.1 arr ls →
    W G.1 G.2.1 G.2.2.1 u.2.2.2.1 G.2.2.2.1 G.2.2.2.2.1 G.2.2.2.2.2.1 G.2.2.2.2.2.2.1 G.2.2.2.2.2.2.2.1 G.2.2.2.2.2.2.2.2 H locs ce sl (MQ G.2.2.2.2.2.2.1 (q_Q d z) G.2.2.2.2.2.1 G.2.2.2.1 u.2.2.2.1.cells u.2.2.2.1.slots (fun q => d.2.2.1 < q)) (F0 G.2.2.2.2.1 pc arr (st.map (q_v d)))
/-- THE CONTRACT: from these arguments in this heap the method answers so, and leaves that heap -/
def Sp (y : MethodName) (u : q_M) (as : List Value) (n : Nat) (f : q_Hp) (z : q_Z) : Prop :=
  ∀ (l : Launch) (d : q_D), Met l y (Cond.code y u.1 u.2.2.1 u.2.2.2.2.1 :: q_tb) u.2.2.2.1 (va_Pc (as.map (q_v d)) (fun U => (va_K d.1 vwCl (q_tys d) U ∧ va_AO RX4 U) ∧ q_H d n f U.heap)) (q_Q d z) u.2.2.2.1.cells u.2.2.2.1.slots (fun q => d.2.2.1 < q)
section JROWS
variable {G : q_G} {d : q_D} {u : q_M} {z : q_Z} {ce sl n pc : Nat} {ls : q_L} {st : List Value} {f : q_Hp}
theorem q_heap {f' : q_Hp} (h : f = f') (k : J G d u z ce sl n pc ls st f') : J G d u z ce sl n pc ls st f := h ▸ k
theorem q_stk {st' : List Value} (h : st = st') (k : J G d u z ce sl n pc ls st' f) : J G d u z ce sl n pc ls st f := h ▸ k
/-- fewer locals -/
theorem q_loc (l : List (Nat × Value)) (h : ∀ q ∈ l, ls q.1 = some q.2) (k : J G d u z ce sl n pc (q_l l) st f) : J G d u z ce sl n pc ls st f :=
  fun X H locs arr h1 h2 h3 h4 => k X H locs arr h1 h2 h3 ⟨h4.1, h4.2.1, fun i v hv => h4.2.2 i v (h (i, v) (q_l_mem hv))⟩
theorem q_iconst {i : Int} {v : Int32} (hd : decode u.1 pc = .ok (.iconst i, 1)) (hv : Int32.ofInt i = v) (k : J G d u z ce sl n (pc + 1) ls (.int v :: st) f) : J G d u z ce sl n pc ls st f :=
  fun X H locs arr h1 h2 h3 h4 => lv_iconst X.1 X.2.1 hd hv (k X H locs arr h1 h2 h3 h4)
theorem q_bipush {i : Int} {v : Int32} (hd : decode u.1 pc = .ok (.bipush i, 2)) (hv : (Int8.ofInt i).toInt32 = v) (k : J G d u z ce sl n (pc + 2) ls (.int v :: st) f) : J G d u z ce sl n pc ls st f :=
  fun X H locs arr h1 h2 h3 h4 => lv_bipush X.1 X.2.1 hd hv (k X H locs arr h1 h2 h3 h4)
theorem q_sipush {i : Int} {v : Int32} (hd : decode u.1 pc = .ok (.sipush i, 3)) (hv : (Int16.ofInt i).toInt32 = v) (k : J G d u z ce sl n (pc + 3) ls (.int v :: st) f) : J G d u z ce sl n pc ls st f :=
  fun X H locs arr h1 h2 h3 h4 => lv_sipush X.1 X.2.1 hd hv (k X H locs arr h1 h2 h3 h4)
theorem q_lconst {i : Fin 2} {v : Int64} (hd : decode u.1 pc = .ok (.lconst i, 1)) (hv : Int64.ofNat (i : Nat) = v) (k : J G d u z ce sl n (pc + 1) ls (.long v :: st) f) : J G d u z ce sl n pc ls st f :=
  fun X H locs arr h1 h2 h3 h4 => lv_lconst X.1 X.2.1 hd hv (k X H locs arr h1 h2 h3 h4)
theorem q_ldc {i : Nat} {v : Int32} (hd : decode u.1 pc = .ok (.ldc i, 2)) (hw : Cond.constant u.2.1 i v ∈ q_tb) (k : J G d u z ce sl n (pc + 2) ls (.int v :: st) f) : J G d u z ce sl n pc ls st f :=
  fun X H locs arr h1 h2 h3 h4 => lv_ldc X.1 X.2.1 X.2.2.2.1 (X.2.2.2.2.1 _ hw) hd (k X H locs arr h1 h2 h3 h4)
theorem q_ldc2 {i : Nat} {v : Int64} (hd : decode u.1 pc = .ok (.ldc2_w i, 3)) (hw : Cond.constantLong u.2.1 i v ∈ q_tb) (k : J G d u z ce sl n (pc + 3) ls (.long v :: st) f) : J G d u z ce sl n pc ls st f :=
  fun X H locs arr h1 h2 h3 h4 => lv_ldc2 X.1 X.2.1 X.2.2.2.1 (X.2.2.2.2.1 _ hw) hd (k X H locs arr h1 h2 h3 h4)
theorem q_null  (hd : decode u.1 pc = .ok (.aconst_null, 1)) (k : J G d u z ce sl n (pc + 1) ls (.null :: st) f) : J G d u z ce sl n pc ls st f :=
  fun X H locs arr h1 h2 h3 h4 => lv_null X.1 X.2.1 hd (k X H locs arr h1 h2 h3 h4)
theorem q_iload_n {i : Fin 4} {x : Int32} (hd : decode u.1 pc = .ok (.iload_n i, 1)) (hl : ls i.val = some (.int x)) (k : J G d u z ce sl n (pc + 1) ls (.int x :: st) f) : J G d u z ce sl n pc ls st f :=
  fun X H locs arr h1 h2 h3 h4 => lv_iload_n X.1 X.2.1 hd rfl (h4.2.2 _ _ hl) (k X H locs arr h1 h2 h3 h4)
theorem q_iload {i : Nat} {x : Int32} (hd : decode u.1 pc = .ok (.iload i, 2)) (hl : ls i = some (.int x)) (k : J G d u z ce sl n (pc + 2) ls (.int x :: st) f) : J G d u z ce sl n pc ls st f :=
  fun X H locs arr h1 h2 h3 h4 => lv_iload X.1 X.2.1 hd (h4.2.2 _ _ hl) (k X H locs arr h1 h2 h3 h4)
theorem q_lload_n {i : Fin 4} {x : Int64} (hd : decode u.1 pc = .ok (.lload_n i, 1)) (hl : ls i.val = some (.long x)) (k : J G d u z ce sl n (pc + 1) ls (.long x :: st) f) : J G d u z ce sl n pc ls st f :=
  fun X H locs arr h1 h2 h3 h4 => lv_lload_n X.1 X.2.1 hd rfl (h4.2.2 _ _ hl) (k X H locs arr h1 h2 h3 h4)
theorem q_lload {i : Nat} {x : Int64} (hd : decode u.1 pc = .ok (.lload i, 2)) (hl : ls i = some (.long x)) (k : J G d u z ce sl n (pc + 2) ls (.long x :: st) f) : J G d u z ce sl n pc ls st f :=
  fun X H locs arr h1 h2 h3 h4 => lv_lload X.1 X.2.1 hd (h4.2.2 _ _ hl) (k X H locs arr h1 h2 h3 h4)
theorem q_aload_n {i : Fin 4} {x : Nat} (hd : decode u.1 pc = .ok (.aload_n i, 1)) (hl : ls i.val = some (.ref x)) (k : J G d u z ce sl n (pc + 1) ls (.ref x :: st) f) : J G d u z ce sl n pc ls st f :=
  fun X H locs arr h1 h2 h3 h4 => lv_aload_n X.1 X.2.1 hd rfl (h4.2.2 _ _ hl) (k X H locs arr h1 h2 h3 h4)
theorem q_aload {i : Nat} {x : Nat} (hd : decode u.1 pc = .ok (.aload i, 2)) (hl : ls i = some (.ref x)) (k : J G d u z ce sl n (pc + 2) ls (.ref x :: st) f) : J G d u z ce sl n pc ls st f :=
  fun X H locs arr h1 h2 h3 h4 => lv_aload X.1 X.2.1 hd (h4.2.2 _ _ hl) (k X H locs arr h1 h2 h3 h4)
theorem q_aload_nN {i : Fin 4} (hd : decode u.1 pc = .ok (.aload_n i, 1)) (hl : ls i.val = some .null) (k : J G d u z ce sl n (pc + 1) ls (.null :: st) f) : J G d u z ce sl n pc ls st f :=
  fun X H locs arr h1 h2 h3 h4 => lv_aload_nN X.1 X.2.1 hd rfl (h4.2.2 _ _ hl) (k X H locs arr h1 h2 h3 h4)
theorem q_aloadN {i : Nat} (hd : decode u.1 pc = .ok (.aload i, 2)) (hl : ls i = some .null) (k : J G d u z ce sl n (pc + 2) ls (.null :: st) f) : J G d u z ce sl n pc ls st f :=
  fun X H locs arr h1 h2 h3 h4 => lv_aloadN X.1 X.2.1 hd (h4.2.2 _ _ hl) (k X H locs arr h1 h2 h3 h4)
theorem q_istore_n {i : Fin 4} {x : Int32} (hd : decode u.1 pc = .ok (.istore_n i, 1)) (hn : i.val < u.2.2.1) (k : J G d u z ce sl n (pc + 1) (q_s1 ls i.val (.int x)) st f) : J G d u z ce sl n pc ls (.int x :: st) f :=
  fun X H locs arr h1 h2 h3 h4 => lv_istore_n X.1 X.2.1 hd rfl h4.has hn rfl (fun arr h => k X H locs arr h1 h2 h3 (h4.s1 (v := .int x) h))
theorem q_istore {i : Nat} {x : Int32} (hd : decode u.1 pc = .ok (.istore i, 2)) (hn : i < u.2.2.1) (k : J G d u z ce sl n (pc + 2) (q_s1 ls i (.int x)) st f) : J G d u z ce sl n pc ls (.int x :: st) f :=
  fun X H locs arr h1 h2 h3 h4 => lv_istore X.1 X.2.1 hd h4.has hn rfl (fun arr h => k X H locs arr h1 h2 h3 (h4.s1 (v := .int x) h))
theorem q_lstore_n {i : Fin 4} {x : Int64} (hd : decode u.1 pc = .ok (.lstore_n i, 1)) (hn : i.val + 1 < u.2.2.1) (k : J G d u z ce sl n (pc + 1) (q_s2 ls i.val (.long x)) st f) : J G d u z ce sl n pc ls (.long x :: st) f :=
  fun X H locs arr h1 h2 h3 h4 => lv_lstore_n X.1 X.2.1 hd rfl h4.has hn rfl (fun arr h => k X H locs arr h1 h2 h3 (h4.s2 (v := .long x) h))
theorem q_lstore {i : Nat} {x : Int64} (hd : decode u.1 pc = .ok (.lstore i, 2)) (hn : i + 1 < u.2.2.1) (k : J G d u z ce sl n (pc + 2) (q_s2 ls i (.long x)) st f) : J G d u z ce sl n pc ls (.long x :: st) f :=
  fun X H locs arr h1 h2 h3 h4 => lv_lstore X.1 X.2.1 hd h4.has hn rfl (fun arr h => k X H locs arr h1 h2 h3 (h4.s2 (v := .long x) h))
theorem q_astore_n {i : Fin 4} {x : Nat} (hd : decode u.1 pc = .ok (.astore_n i, 1)) (hn : i.val < u.2.2.1) (k : J G d u z ce sl n (pc + 1) (q_s1 ls i.val (.ref x)) st f) : J G d u z ce sl n pc ls (.ref x :: st) f :=
  fun X H locs arr h1 h2 h3 h4 => lv_astore_n X.1 X.2.1 hd rfl h4.has hn rfl (fun arr h => k X H locs arr h1 h2 h3 (h4.s1 (v := .ref x) h))
theorem q_astore {i : Nat} {x : Nat} (hd : decode u.1 pc = .ok (.astore i, 2)) (hn : i < u.2.2.1) (k : J G d u z ce sl n (pc + 2) (q_s1 ls i (.ref x)) st f) : J G d u z ce sl n pc ls (.ref x :: st) f :=
  fun X H locs arr h1 h2 h3 h4 => lv_astore X.1 X.2.1 hd h4.has hn rfl (fun arr h => k X H locs arr h1 h2 h3 (h4.s1 (v := .ref x) h))
theorem q_astore_nN {i : Fin 4} (hd : decode u.1 pc = .ok (.astore_n i, 1)) (hn : i.val < u.2.2.1) (k : J G d u z ce sl n (pc + 1) (q_s1 ls i.val .null) st f) : J G d u z ce sl n pc ls (.null :: st) f :=
  fun X H locs arr h1 h2 h3 h4 => lv_astore_nN X.1 X.2.1 hd rfl h4.has hn rfl (fun arr h => k X H locs arr h1 h2 h3 (h4.s1 (v := .null) h))
theorem q_astoreN {i : Nat} (hd : decode u.1 pc = .ok (.astore i, 2)) (hn : i < u.2.2.1) (k : J G d u z ce sl n (pc + 2) (q_s1 ls i .null) st f) : J G d u z ce sl n pc ls (.null :: st) f :=
  fun X H locs arr h1 h2 h3 h4 => lv_astoreN X.1 X.2.1 hd h4.has hn rfl (fun arr h => k X H locs arr h1 h2 h3 (h4.s1 (v := .null) h))
theorem q_iinc {i : Nat} {c : Int} {x v : Int32} (hd : decode u.1 pc = .ok (.iinc i c, 3)) (hl : ls i = some (.int x)) (hv : x + Int32.ofInt c = v) (k : J G d u z ce sl n (pc + 3) (q_s1 ls i (.int v)) st f) : J G d u z ce sl n pc ls st f := by
  intro X H locs arr h1 h2 h3 h4
  obtain ⟨j, hj⟩ := List.getElem?_of_mem (q_lst_mem (d := d) (h4.lt hl) hl)
  exact lv_iinc X.1 X.2.1 hd h4.has hj hv (h4.lt hl) rfl (fun arr h => k X H locs arr h1 h2 h3 (h4.s1 (v := .int v) h))
theorem q_iadd {x y : Int32} (hd : decode u.1 pc = .ok (.iadd, 1)) (k : J G d u z ce sl n (pc + 1) ls (.int (x + y) :: st) f) : J G d u z ce sl n pc ls (.int y :: .int x :: st) f :=
  fun X H locs arr h1 h2 h3 h4 => lv_iadd X.1 X.2.1 hd (k X H locs arr h1 h2 h3 h4)
theorem q_isub {x y : Int32} (hd : decode u.1 pc = .ok (.isub, 1)) (k : J G d u z ce sl n (pc + 1) ls (.int (x - y) :: st) f) : J G d u z ce sl n pc ls (.int y :: .int x :: st) f :=
  fun X H locs arr h1 h2 h3 h4 => lv_isub X.1 X.2.1 hd (k X H locs arr h1 h2 h3 h4)
theorem q_imul {x y : Int32} (hd : decode u.1 pc = .ok (.imul, 1)) (k : J G d u z ce sl n (pc + 1) ls (.int (x * y) :: st) f) : J G d u z ce sl n pc ls (.int y :: .int x :: st) f :=
  fun X H locs arr h1 h2 h3 h4 => lv_imul X.1 X.2.1 hd (k X H locs arr h1 h2 h3 h4)
theorem q_iand {x y : Int32} (hd : decode u.1 pc = .ok (.iand, 1)) (k : J G d u z ce sl n (pc + 1) ls (.int (x &&& y) :: st) f) : J G d u z ce sl n pc ls (.int y :: .int x :: st) f :=
  fun X H locs arr h1 h2 h3 h4 => lv_iand X.1 X.2.1 hd (k X H locs arr h1 h2 h3 h4)
theorem q_ior {x y : Int32} (hd : decode u.1 pc = .ok (.ior, 1)) (k : J G d u z ce sl n (pc + 1) ls (.int (x ||| y) :: st) f) : J G d u z ce sl n pc ls (.int y :: .int x :: st) f :=
  fun X H locs arr h1 h2 h3 h4 => lv_ior X.1 X.2.1 hd (k X H locs arr h1 h2 h3 h4)
theorem q_ladd {x y : Int64} (hd : decode u.1 pc = .ok (.ladd, 1)) (k : J G d u z ce sl n (pc + 1) ls (.long (x + y) :: st) f) : J G d u z ce sl n pc ls (.long y :: .long x :: st) f :=
  fun X H locs arr h1 h2 h3 h4 => lv_ladd X.1 X.2.1 hd (k X H locs arr h1 h2 h3 h4)
theorem q_lsub {x y : Int64} (hd : decode u.1 pc = .ok (.lsub, 1)) (k : J G d u z ce sl n (pc + 1) ls (.long (x - y) :: st) f) : J G d u z ce sl n pc ls (.long y :: .long x :: st) f :=
  fun X H locs arr h1 h2 h3 h4 => lv_lsub X.1 X.2.1 hd (k X H locs arr h1 h2 h3 h4)
theorem q_lmul {x y : Int64} (hd : decode u.1 pc = .ok (.lmul, 1)) (k : J G d u z ce sl n (pc + 1) ls (.long (x * y) :: st) f) : J G d u z ce sl n pc ls (.long y :: .long x :: st) f :=
  fun X H locs arr h1 h2 h3 h4 => lv_lmul X.1 X.2.1 hd (k X H locs arr h1 h2 h3 h4)
theorem q_land {x y : Int64} (hd : decode u.1 pc = .ok (.land, 1)) (k : J G d u z ce sl n (pc + 1) ls (.long (x &&& y) :: st) f) : J G d u z ce sl n pc ls (.long y :: .long x :: st) f :=
  fun X H locs arr h1 h2 h3 h4 => lv_land X.1 X.2.1 hd (k X H locs arr h1 h2 h3 h4)
theorem q_lxor {x y : Int64} (hd : decode u.1 pc = .ok (.lxor, 1)) (k : J G d u z ce sl n (pc + 1) ls (.long (x ^^^ y) :: st) f) : J G d u z ce sl n pc ls (.long y :: .long x :: st) f :=
  fun X H locs arr h1 h2 h3 h4 => lv_lxor X.1 X.2.1 hd (k X H locs arr h1 h2 h3 h4)
theorem q_ldiv {x y : Int64} (hd : decode u.1 pc = .ok (.ldiv, 1)) (h0 : ¬ y = 0) (k : J G d u z ce sl n (pc + 1) ls (.long (x / y) :: st) f) : J G d u z ce sl n pc ls (.long y :: .long x :: st) f :=
  fun X H locs arr h1 h2 h3 h4 => lv_ldiv X.1 X.2.1 hd h0 (k X H locs arr h1 h2 h3 h4)
theorem q_lrem {x y : Int64} (hd : decode u.1 pc = .ok (.lrem, 1)) (h0 : ¬ y = 0) (k : J G d u z ce sl n (pc + 1) ls (.long (x - x / y * y) :: st) f) : J G d u z ce sl n pc ls (.long y :: .long x :: st) f :=
  fun X H locs arr h1 h2 h3 h4 => lv_lrem X.1 X.2.1 hd h0 (k X H locs arr h1 h2 h3 h4)
theorem q_ineg {x : Int32} (hd : decode u.1 pc = .ok (.ineg, 1)) (k : J G d u z ce sl n (pc + 1) ls (.int (-x) :: st) f) : J G d u z ce sl n pc ls (.int x :: st) f :=
  fun X H locs arr h1 h2 h3 h4 => lv_ineg X.1 X.2.1 hd (k X H locs arr h1 h2 h3 h4)
theorem q_lneg {x : Int64} (hd : decode u.1 pc = .ok (.lneg, 1)) (k : J G d u z ce sl n (pc + 1) ls (.long (-x) :: st) f) : J G d u z ce sl n pc ls (.long x :: st) f :=
  fun X H locs arr h1 h2 h3 h4 => lv_lneg X.1 X.2.1 hd (k X H locs arr h1 h2 h3 h4)
theorem q_lshl {x : Int64} {y : Int32} (hd : decode u.1 pc = .ok (.lshl, 1)) (k : J G d u z ce sl n (pc + 1) ls (.long (x <<< (y.toInt64 &&& 63)) :: st) f) : J G d u z ce sl n pc ls (.int y :: .long x :: st) f :=
  fun X H locs arr h1 h2 h3 h4 => lv_lshl X.1 X.2.1 hd rfl (k X H locs arr h1 h2 h3 h4)
theorem q_lshr {x : Int64} {y : Int32} (hd : decode u.1 pc = .ok (.lshr, 1)) (k : J G d u z ce sl n (pc + 1) ls (.long (x >>> (y.toInt64 &&& 63)) :: st) f) : J G d u z ce sl n pc ls (.int y :: .long x :: st) f :=
  fun X H locs arr h1 h2 h3 h4 => lv_lshr X.1 X.2.1 hd rfl (k X H locs arr h1 h2 h3 h4)
theorem q_i2l {x : Int32} (hd : decode u.1 pc = .ok (.i2l, 1)) (k : J G d u z ce sl n (pc + 1) ls (.long x.toInt64 :: st) f) : J G d u z ce sl n pc ls (.int x :: st) f :=
  fun X H locs arr h1 h2 h3 h4 => lv_i2l X.1 X.2.1 hd rfl (k X H locs arr h1 h2 h3 h4)
theorem q_l2i {x : Int64} (hd : decode u.1 pc = .ok (.l2i, 1)) (k : J G d u z ce sl n (pc + 1) ls (.int x.toInt32 :: st) f) : J G d u z ce sl n pc ls (.long x :: st) f :=
  fun X H locs arr h1 h2 h3 h4 => lv_l2i X.1 X.2.1 hd rfl (k X H locs arr h1 h2 h3 h4)
theorem q_i2s {x : Int32} (hd : decode u.1 pc = .ok (.i2s, 1)) (k : J G d u z ce sl n (pc + 1) ls (.int x.toInt16.toInt32 :: st) f) : J G d u z ce sl n pc ls (.int x :: st) f :=
  fun X H locs arr h1 h2 h3 h4 => lv_i2s X.1 X.2.1 hd rfl (k X H locs arr h1 h2 h3 h4)
theorem q_dup {v : Value} (hd : decode u.1 pc = .ok (.dup, 1)) (hc : v.category = 1) (k : J G d u z ce sl n (pc + 1) ls (v :: v :: st) f) : J G d u z ce sl n pc ls (v :: st) f :=
  fun X H locs arr h1 h2 h3 h4 => lv_dup X.1 X.2.1 hd ((q_v_cat d v).trans hc) (k X H locs arr h1 h2 h3 h4)
theorem q_dup2_11 {v x : Value} (hd : decode u.1 pc = .ok (.dup2, 1)) (hc : v.category = 1) (hc2 : x.category = 1) (k : J G d u z ce sl n (pc + 1) ls (v :: x :: v :: x :: st) f) : J G d u z ce sl n pc ls (v :: x :: st) f :=
  fun X H locs arr h1 h2 h3 h4 => lv_dup2_11 X.1 X.2.1 hd ((q_v_cat d v).trans hc) ((q_v_cat d x).trans hc2) (k X H locs arr h1 h2 h3 h4)
theorem q_dup2_2 {v : Value} (hd : decode u.1 pc = .ok (.dup2, 1)) (hc : v.category = 2) (k : J G d u z ce sl n (pc + 1) ls (v :: v :: st) f) : J G d u z ce sl n pc ls (v :: st) f :=
  fun X H locs arr h1 h2 h3 h4 => lv_dup2_2 X.1 X.2.1 hd ((q_v_cat d v).trans hc) (k X H locs arr h1 h2 h3 h4)
theorem q_goto {off : Int} {tgt : Nat} (hd : decode u.1 pc = .ok (.goto off, 3)) (ht : (pc : Int) + off = (tgt : Int)) (k : J G d u z ce sl n tgt ls st f) : J G d u z ce sl n pc ls st f :=
  fun X H locs arr h1 h2 h3 h4 => lv_goto X.1 X.2.1 hd ht (k X H locs arr h1 h2 h3 h4)
theorem q_ifnonnull {off : Int} {tgt x : Nat} (hd : decode u.1 pc = .ok (.ifnonnull off, 3)) (ht : (pc : Int) + off = (tgt : Int)) (k : J G d u z ce sl n tgt ls st f) : J G d u z ce sl n pc ls (.ref x :: st) f :=
  fun X H locs arr h1 h2 h3 h4 => lv_ifnonnull X.1 X.2.1 hd ht (k X H locs arr h1 h2 h3 h4)
theorem q_ifnull {off : Int} {x : Nat} (hd : decode u.1 pc = .ok (.ifnull off, 3)) (k : J G d u z ce sl n (pc + 3) ls st f) : J G d u z ce sl n pc ls (.ref x :: st) f :=
  fun X H locs arr h1 h2 h3 h4 => lv_ifnull X.1 X.2.1 hd (k X H locs arr h1 h2 h3 h4)
theorem q_ifnullN {off : Int} {tgt : Nat} (hd : decode u.1 pc = .ok (.ifnull off, 3)) (ht : (pc : Int) + off = (tgt : Int)) (k : J G d u z ce sl n tgt ls st f) : J G d u z ce sl n pc ls (.null :: st) f :=
  fun X H locs arr h1 h2 h3 h4 => lv_ifnullN X.1 X.2.1 hd ht (k X H locs arr h1 h2 h3 h4)
theorem q_ifnonnullN {off : Int} (hd : decode u.1 pc = .ok (.ifnonnull off, 3)) (k : J G d u z ce sl n (pc + 3) ls st f) : J G d u z ce sl n pc ls (.null :: st) f :=
  fun X H locs arr h1 h2 h3 h4 => lv_ifnonnullN X.1 X.2.1 hd (k X H locs arr h1 h2 h3 h4)
theorem q_if_eq {x : Int32} {off : Int} {tgt : Nat} (hd : decode u.1 pc = .ok (.ifCond .eq off, 3)) (ht : (pc : Int) + off = (tgt : Int)) (kt : x = 0 → J G d u z ce sl n tgt ls st f) (kf : ¬ x = 0 → J G d u z ce sl n (pc + 3) ls st f) : J G d u z ce sl n pc ls (.int x :: st) f :=
  fun X H locs arr h1 h2 h3 h4 => lv_if_eq X.1 X.2.1 hd ht (fun h => kt h X H locs arr h1 h2 h3 h4) (fun h => kf h X H locs arr h1 h2 h3 h4)
theorem q_icmp_eq {x y : Int32} {off : Int} {tgt : Nat} (hd : decode u.1 pc = .ok (.if_icmp .eq off, 3)) (ht : (pc : Int) + off = (tgt : Int)) (kt : x = y → J G d u z ce sl n tgt ls st f) (kf : ¬ x = y → J G d u z ce sl n (pc + 3) ls st f) : J G d u z ce sl n pc ls (.int y :: .int x :: st) f :=
  fun X H locs arr h1 h2 h3 h4 => lv_icmp_eq X.1 X.2.1 hd ht (fun h => kt h X H locs arr h1 h2 h3 h4) (fun h => kf h X H locs arr h1 h2 h3 h4)
theorem q_lcmp_eq {x y : Int64} {off : Int} {tgt : Nat} (hd : decode u.1 pc = .ok (.lcmp, 1)) (hd2 : decode u.1 (pc + 1) = .ok (.ifCond .eq off, 3)) (ht : ((pc + 1 : Nat) : Int) + off = (tgt : Int)) (kt : x = y → J G d u z ce sl n tgt ls st f) (kf : ¬ x = y → J G d u z ce sl n (pc + 4) ls st f) : J G d u z ce sl n pc ls (.long y :: .long x :: st) f :=
  fun X H locs arr h1 h2 h3 h4 => W.lcmp X.1 X.2.1 hd (lv_if_eq X.1 X.2.1 hd2 ht (fun h => kt ((lg_cmp_eq x y).mp h) X H locs arr h1 h2 h3 h4) (fun h => kf (fun e => h ((lg_cmp_eq x y).mpr e)) X H locs arr h1 h2 h3 h4))
theorem q_if_ne {x : Int32} {off : Int} {tgt : Nat} (hd : decode u.1 pc = .ok (.ifCond .ne off, 3)) (ht : (pc : Int) + off = (tgt : Int)) (kt : ¬ x = 0 → J G d u z ce sl n tgt ls st f) (kf : x = 0 → J G d u z ce sl n (pc + 3) ls st f) : J G d u z ce sl n pc ls (.int x :: st) f :=
  fun X H locs arr h1 h2 h3 h4 => lv_if_ne X.1 X.2.1 hd ht (fun h => kt h X H locs arr h1 h2 h3 h4) (fun h => kf h X H locs arr h1 h2 h3 h4)
theorem q_icmp_ne {x y : Int32} {off : Int} {tgt : Nat} (hd : decode u.1 pc = .ok (.if_icmp .ne off, 3)) (ht : (pc : Int) + off = (tgt : Int)) (kt : ¬ x = y → J G d u z ce sl n tgt ls st f) (kf : x = y → J G d u z ce sl n (pc + 3) ls st f) : J G d u z ce sl n pc ls (.int y :: .int x :: st) f :=
  fun X H locs arr h1 h2 h3 h4 => lv_icmp_ne X.1 X.2.1 hd ht (fun h => kt h X H locs arr h1 h2 h3 h4) (fun h => kf h X H locs arr h1 h2 h3 h4)
theorem q_lcmp_ne {x y : Int64} {off : Int} {tgt : Nat} (hd : decode u.1 pc = .ok (.lcmp, 1)) (hd2 : decode u.1 (pc + 1) = .ok (.ifCond .ne off, 3)) (ht : ((pc + 1 : Nat) : Int) + off = (tgt : Int)) (kt : ¬ x = y → J G d u z ce sl n tgt ls st f) (kf : x = y → J G d u z ce sl n (pc + 4) ls st f) : J G d u z ce sl n pc ls (.long y :: .long x :: st) f :=
  fun X H locs arr h1 h2 h3 h4 => W.lcmp X.1 X.2.1 hd (lv_if_ne X.1 X.2.1 hd2 ht (fun h => kt (fun e => h ((lg_cmp_eq x y).mpr e)) X H locs arr h1 h2 h3 h4) (fun h => kf ((lg_cmp_eq x y).mp h) X H locs arr h1 h2 h3 h4))
theorem q_if_lt {x : Int32} {off : Int} {tgt : Nat} (hd : decode u.1 pc = .ok (.ifCond .lt off, 3)) (ht : (pc : Int) + off = (tgt : Int)) (kt : x < 0 → J G d u z ce sl n tgt ls st f) (kf : ¬ x < 0 → J G d u z ce sl n (pc + 3) ls st f) : J G d u z ce sl n pc ls (.int x :: st) f :=
  fun X H locs arr h1 h2 h3 h4 => lv_if_lt X.1 X.2.1 hd ht (fun h => kt h X H locs arr h1 h2 h3 h4) (fun h => kf h X H locs arr h1 h2 h3 h4)
theorem q_icmp_lt {x y : Int32} {off : Int} {tgt : Nat} (hd : decode u.1 pc = .ok (.if_icmp .lt off, 3)) (ht : (pc : Int) + off = (tgt : Int)) (kt : x < y → J G d u z ce sl n tgt ls st f) (kf : ¬ x < y → J G d u z ce sl n (pc + 3) ls st f) : J G d u z ce sl n pc ls (.int y :: .int x :: st) f :=
  fun X H locs arr h1 h2 h3 h4 => lv_icmp_lt X.1 X.2.1 hd ht (fun h => kt h X H locs arr h1 h2 h3 h4) (fun h => kf h X H locs arr h1 h2 h3 h4)
theorem q_lcmp_lt {x y : Int64} {off : Int} {tgt : Nat} (hd : decode u.1 pc = .ok (.lcmp, 1)) (hd2 : decode u.1 (pc + 1) = .ok (.ifCond .lt off, 3)) (ht : ((pc + 1 : Nat) : Int) + off = (tgt : Int)) (kt : x < y → J G d u z ce sl n tgt ls st f) (kf : ¬ x < y → J G d u z ce sl n (pc + 4) ls st f) : J G d u z ce sl n pc ls (.long y :: .long x :: st) f :=
  fun X H locs arr h1 h2 h3 h4 => W.lcmp X.1 X.2.1 hd (lv_if_lt X.1 X.2.1 hd2 ht (fun h => kt ((lg_cmp_lt x y).mp h) X H locs arr h1 h2 h3 h4) (fun h => kf (fun e => h ((lg_cmp_lt x y).mpr e)) X H locs arr h1 h2 h3 h4))
theorem q_if_ge {x : Int32} {off : Int} {tgt : Nat} (hd : decode u.1 pc = .ok (.ifCond .ge off, 3)) (ht : (pc : Int) + off = (tgt : Int)) (kt : 0 ≤ x → J G d u z ce sl n tgt ls st f) (kf : ¬ 0 ≤ x → J G d u z ce sl n (pc + 3) ls st f) : J G d u z ce sl n pc ls (.int x :: st) f :=
  fun X H locs arr h1 h2 h3 h4 => lv_if_ge X.1 X.2.1 hd ht (fun h => kt h X H locs arr h1 h2 h3 h4) (fun h => kf h X H locs arr h1 h2 h3 h4)
theorem q_icmp_ge {x y : Int32} {off : Int} {tgt : Nat} (hd : decode u.1 pc = .ok (.if_icmp .ge off, 3)) (ht : (pc : Int) + off = (tgt : Int)) (kt : y ≤ x → J G d u z ce sl n tgt ls st f) (kf : ¬ y ≤ x → J G d u z ce sl n (pc + 3) ls st f) : J G d u z ce sl n pc ls (.int y :: .int x :: st) f :=
  fun X H locs arr h1 h2 h3 h4 => lv_icmp_ge X.1 X.2.1 hd ht (fun h => kt h X H locs arr h1 h2 h3 h4) (fun h => kf h X H locs arr h1 h2 h3 h4)
theorem q_lcmp_ge {x y : Int64} {off : Int} {tgt : Nat} (hd : decode u.1 pc = .ok (.lcmp, 1)) (hd2 : decode u.1 (pc + 1) = .ok (.ifCond .ge off, 3)) (ht : ((pc + 1 : Nat) : Int) + off = (tgt : Int)) (kt : y ≤ x → J G d u z ce sl n tgt ls st f) (kf : ¬ y ≤ x → J G d u z ce sl n (pc + 4) ls st f) : J G d u z ce sl n pc ls (.long y :: .long x :: st) f :=
  fun X H locs arr h1 h2 h3 h4 => W.lcmp X.1 X.2.1 hd (lv_if_ge X.1 X.2.1 hd2 ht (fun h => kt ((lg_cmp_ge x y).mp h) X H locs arr h1 h2 h3 h4) (fun h => kf (fun e => h ((lg_cmp_ge x y).mpr e)) X H locs arr h1 h2 h3 h4))
theorem q_if_gt {x : Int32} {off : Int} {tgt : Nat} (hd : decode u.1 pc = .ok (.ifCond .gt off, 3)) (ht : (pc : Int) + off = (tgt : Int)) (kt : 0 < x → J G d u z ce sl n tgt ls st f) (kf : ¬ 0 < x → J G d u z ce sl n (pc + 3) ls st f) : J G d u z ce sl n pc ls (.int x :: st) f :=
  fun X H locs arr h1 h2 h3 h4 => lv_if_gt X.1 X.2.1 hd ht (fun h => kt h X H locs arr h1 h2 h3 h4) (fun h => kf h X H locs arr h1 h2 h3 h4)
theorem q_icmp_gt {x y : Int32} {off : Int} {tgt : Nat} (hd : decode u.1 pc = .ok (.if_icmp .gt off, 3)) (ht : (pc : Int) + off = (tgt : Int)) (kt : y < x → J G d u z ce sl n tgt ls st f) (kf : ¬ y < x → J G d u z ce sl n (pc + 3) ls st f) : J G d u z ce sl n pc ls (.int y :: .int x :: st) f :=
  fun X H locs arr h1 h2 h3 h4 => lv_icmp_gt X.1 X.2.1 hd ht (fun h => kt h X H locs arr h1 h2 h3 h4) (fun h => kf h X H locs arr h1 h2 h3 h4)
theorem q_lcmp_gt {x y : Int64} {off : Int} {tgt : Nat} (hd : decode u.1 pc = .ok (.lcmp, 1)) (hd2 : decode u.1 (pc + 1) = .ok (.ifCond .gt off, 3)) (ht : ((pc + 1 : Nat) : Int) + off = (tgt : Int)) (kt : y < x → J G d u z ce sl n tgt ls st f) (kf : ¬ y < x → J G d u z ce sl n (pc + 4) ls st f) : J G d u z ce sl n pc ls (.long y :: .long x :: st) f :=
  fun X H locs arr h1 h2 h3 h4 => W.lcmp X.1 X.2.1 hd (lv_if_gt X.1 X.2.1 hd2 ht (fun h => kt ((lg_cmp_gt x y).mp h) X H locs arr h1 h2 h3 h4) (fun h => kf (fun e => h ((lg_cmp_gt x y).mpr e)) X H locs arr h1 h2 h3 h4))
theorem q_if_le {x : Int32} {off : Int} {tgt : Nat} (hd : decode u.1 pc = .ok (.ifCond .le off, 3)) (ht : (pc : Int) + off = (tgt : Int)) (kt : x ≤ 0 → J G d u z ce sl n tgt ls st f) (kf : ¬ x ≤ 0 → J G d u z ce sl n (pc + 3) ls st f) : J G d u z ce sl n pc ls (.int x :: st) f :=
  fun X H locs arr h1 h2 h3 h4 => lv_if_le X.1 X.2.1 hd ht (fun h => kt h X H locs arr h1 h2 h3 h4) (fun h => kf h X H locs arr h1 h2 h3 h4)
theorem q_icmp_le {x y : Int32} {off : Int} {tgt : Nat} (hd : decode u.1 pc = .ok (.if_icmp .le off, 3)) (ht : (pc : Int) + off = (tgt : Int)) (kt : x ≤ y → J G d u z ce sl n tgt ls st f) (kf : ¬ x ≤ y → J G d u z ce sl n (pc + 3) ls st f) : J G d u z ce sl n pc ls (.int y :: .int x :: st) f :=
  fun X H locs arr h1 h2 h3 h4 => lv_icmp_le X.1 X.2.1 hd ht (fun h => kt h X H locs arr h1 h2 h3 h4) (fun h => kf h X H locs arr h1 h2 h3 h4)
theorem q_lcmp_le {x y : Int64} {off : Int} {tgt : Nat} (hd : decode u.1 pc = .ok (.lcmp, 1)) (hd2 : decode u.1 (pc + 1) = .ok (.ifCond .le off, 3)) (ht : ((pc + 1 : Nat) : Int) + off = (tgt : Int)) (kt : x ≤ y → J G d u z ce sl n tgt ls st f) (kf : ¬ x ≤ y → J G d u z ce sl n (pc + 4) ls st f) : J G d u z ce sl n pc ls (.long y :: .long x :: st) f :=
  fun X H locs arr h1 h2 h3 h4 => W.lcmp X.1 X.2.1 hd (lv_if_le X.1 X.2.1 hd2 ht (fun h => kt ((lg_cmp_le x y).mp h) X H locs arr h1 h2 h3 h4) (fun h => kf (fun e => h ((lg_cmp_le x y).mpr e)) X H locs arr h1 h2 h3 h4))
theorem q_tblIn {dflt lo hi : Int} {offs : Array Int} {len : Nat} {x : Int32} {off : Int} {tgt : Nat} (hd : decode u.1 pc = .ok (.tableswitch dflt lo hi offs, len)) (g1 : ¬ x.toInt < lo) (g2 : ¬ hi < x.toInt) (ho : offs[(x.toInt - lo).toNat]? = some off) (ht : (pc : Int) + off = (tgt : Int)) (k : J G d u z ce sl n tgt ls st f) : J G d u z ce sl n pc ls (.int x :: st) f :=
  fun X H locs arr h1 h2 h3 h4 => lv_tableIn X.1 X.2.1 hd g1 g2 ho ht (k X H locs arr h1 h2 h3 h4)
theorem q_tblOut {dflt lo hi : Int} {offs : Array Int} {len : Nat} {x : Int32} {tgt : Nat} (hd : decode u.1 pc = .ok (.tableswitch dflt lo hi offs, len)) (g : x.toInt < lo ∨ hi < x.toInt) (ht : (pc : Int) + dflt = (tgt : Int)) (k : J G d u z ce sl n tgt ls st f) : J G d u z ce sl n pc ls (.int x :: st) f :=
  fun X H locs arr h1 h2 h3 h4 => lv_tableOut X.1 X.2.1 hd g ht (k X H locs arr h1 h2 h3 h4)
/-! truth values -/
def q_b (c : Bool) : Int32 := bif c then 1 else 0
theorem q_ifeq_b {c : Bool} {off : Int} {tgt : Nat} (hd : decode u.1 pc = .ok (.ifCond .eq off, 3)) (ht : (pc : Int) + off = (tgt : Int)) (kt : c = false → J G d u z ce sl n tgt ls st f) (kf : c = true → J G d u z ce sl n (pc + 3) ls st f) : J G d u z ce sl n pc ls (.int (q_b c) :: st) f :=
  q_if_eq hd ht (fun h => kt (by cases c with | false => rfl | true => exact absurd h (by decide))) (fun h => kf (by cases c with | true => rfl | false => exact absurd rfl h))
theorem q_ifne_b {c : Bool} {off : Int} {tgt : Nat} (hd : decode u.1 pc = .ok (.ifCond .ne off, 3)) (ht : (pc : Int) + off = (tgt : Int)) (kt : c = true → J G d u z ce sl n tgt ls st f) (kf : c = false → J G d u z ce sl n (pc + 3) ls st f) : J G d u z ce sl n pc ls (.int (q_b c) :: st) f :=
  q_if_ne hd ht (fun h => kt (by cases c with | true => rfl | false => exact absurd rfl h)) (fun h => kf (by cases c with | false => rfl | true => exact absurd h (by decide)))
/-! fields -/
def q_FL (own : String) (i ci k : Nat) : Prop := ∃ (C : String) (T : u_T) (N : Nat), vwCl[ci]? = some (C, T, N) ∧ k < N ∧ (∀ w ∈ u_ws C T N, w ∈ q_tb) ∧ Cond.fieldLink own i (T k).1 (T k).2.1 (T k).2.2.1 ∈ q_tb
def q_PL (own : String) (i ci k : Nat) (fin : Bool) (ty : FieldType) : Prop := ∃ (C : String) (T : u_T) (N : Nat) (ty0 : Nat → FieldType), vwCl[ci]? = some (C, T, N) ∧ k < N ∧ (∀ w ∈ u_ws C T N, w ∈ q_tb) ∧ Cond.fieldLink own i (T k).1 (T k).2.1 (T k).2.2.1 ∈ q_tb ∧
  (∀ j, j < N → parseFieldDescriptor (T j).2.2.1 = some (ty0 j)) ∧ (∀ a, a < N → ∀ b, b < N → a ≠ b → (T a).2.1 ≠ (T b).2.1) ∧ (T k).2.2.2 = fin ∧ ty0 k = ty ∧ (fin = true → (T k).1 = own)
theorem q_getf {i ci k q : Nat} {fs : List Value} {v : Value} (hd : decode u.1 pc = .ok (.getfield i, 3)) (hF : q_FL u.2.1 i ci k) (hc : f q = some (.inr (ci, fs))) (hv : fs[k]? = some v) (kk : J G d u z ce sl n (pc + 3) ls (v :: st) f) : J G d u z ce sl n pc ls (.ref q :: st) f := by
  intro X H locs arr h1 h2 h3 h4
  obtain ⟨C, T, N, a1, a2, a3, a4⟩ := hF
  exact va_get (D := d.1) (ci := ci) (v := q_v d v) (C := C) (T := T) (N := N) X.1 X.2.1 X.2.2.2.2.1 a3 X.2.2.2.1 X.2.2.2.2.2.2.2.2 (h1.at hc) 0 rfl a1 k a2 (X.2.2.2.2.1 _ a4) (fun _ h => h) (by rw [List.getElem?_map, hv]; rfl) hd (kk X H locs arr h1 h2 h3 h4)
theorem q_locs {locs : List Loc} {B a i : Nat} (h : ∀ q ∈ locs, B < q.base) (ha : B < a) : ∀ q ∈ locs ++ [(⟨a, i⟩ : Loc)], B < q.base := by
  intro q hq
  rcases List.mem_append.mp hq with g | g
  · exact h q g
  · rw [List.mem_singleton.mp g]
    exact ha
theorem q_H.adlt {d : q_D} {n : Nat} {f : q_Hp} {H : Heap} (h : q_H d n f H) {k : Nat} {e : q_E} (he : f k = some e) : d.2.2.1 < q_ad d k := by
  rw [h.ad he]
  have := (h.lt he).1
  omega
theorem q_low {d : q_D} {H H1 s : Heap} {a : Nat} (h2 : ∀ q : Nat, q ≤ d.2.2.1 → H[q]? = s[q]?) (ha : d.2.2.1 < a) (ho : ∀ q : Nat, q ≠ a → H1[q]? = H[q]?) : ∀ q : Nat, q ≤ d.2.2.1 → H1[q]? = s[q]? := fun q hq => (ho q (by omega)).trans (h2 q hq)
theorem q_putf {i ci k q : Nat} {fs : List Value} {v : Value} {ty : FieldType} (hd : decode u.1 pc = .ok (.putfield i, 3)) (hF : q_PL u.2.1 i ci k false ty) (hc : f q = some (.inr (ci, fs))) (hl : k < fs.length) (hn : narrow ty (q_v d v) = q_v d v) (hfit : fits ty (q_v d v) = true) (kk : J G d u z ce sl n (pc + 3) ls st (q_up f q (.inr (ci, fs.set k v)))) : J G d u z ce sl n pc ls (v :: .ref q :: st) f := by
  intro X H locs arr h1 h2 h3 h4
  obtain ⟨C, T, N, ty0, a1, a2, a3, a4, a5, a6, a7, a8, -⟩ := hF
  have hts := X.2.2.2.2.1
  have hK := X.2.2.2.2.2.2.2.2
  have hap := va_apart (own := u.2.1) hts a3 ty0 a5 a6 hK a1
  have hat := (h1.2.2.2 q _ hc).2
  rw [← h1.ad hc] at hat
  obtain ⟨r, g1, cell, q1, q2, q3, q4⟩ := hat
  have hr : r = (C, T, N) := Option.some.inj (g1.symm.trans a1)
  subst hr
  obtain ⟨hS, hfc, kC, hkC, hkind⟩ := hK.1 ci _ a1
  obtain ⟨cf, kf, fi, fd, hi, hsl⟩ := hS k a2
  have hlay := hts _ (a3 _ (u_in_lay a2))
  unfold u_lay at hlay
  rw [if_neg (by rw [a7]; decide)] at hlay
  have hst := (u_facts hfc hkC (u_lays hts a3 a2) hi).1
  have h6 := u_store hfc hkC hkind hlay hi (by rw [a5 k a2, a8]) hn hfit
  refine W.putK X.1 X.2.1 (f := fd) ⟨X.2.2.2.1, hts _ a4, ⟨_, _, _, hi⟩, hst⟩ (by rw [q2]; exact h6) q1 q3 (by rw [hsl]; exact k2_hasslot (q4 k a2)) rfl rfl hd fun H1 e1 e2 e3 => ?_
  rw [hsl] at e1 ⊢
  refine kk X H1 _ arr (h1.set hc e2 e3 ⟨_, a1, t_OB.to (V := updV (vp_V (fs.map (q_v d))) k (q_v d v)) ⟨_, e1, q2, q3, t_set q4 hap a2 (q_v d v)⟩ (fun j _ => ?_)⟩) (q_low h2 (h1.adlt hc) e3) (q_locs h3 (h1.adlt hc)) h4
  show updV (vp_V (fs.map (q_v d))) k (q_v d v) j = vp_V ((fs.set k v).map (q_v d)) j
  rw [List.map_set]
  exact vp_updV_set (by rw [List.length_map]; exact hl) _ j
theorem q_putF {i ci k q : Nat} {fs : List Value} {v : Value} {ty : FieldType} (hd : decode u.1 pc = .ok (.putfield i, 3)) (hF : q_PL u.2.1 i ci k true ty) (hin : u.2.2.2.2.2 = "<init>") (hc : f q = some (.inr (ci, fs))) (hl : k < fs.length) (hn : narrow ty (q_v d v) = q_v d v) (hfit : fits ty (q_v d v) = true) (kk : J G d u z ce sl n (pc + 3) ls st (q_up f q (.inr (ci, fs.set k v)))) : J G d u z ce sl n pc ls (v :: .ref q :: st) f := by
  intro X H locs arr h1 h2 h3 h4
  obtain ⟨C, T, N, ty0, a1, a2, a3, a4, a5, a6, a7, a8, a9⟩ := hF
  have hdecl := a9 rfl
  have hts := X.2.2.2.2.1
  have hK := X.2.2.2.2.2.2.2.2
  have hap := va_apart (own := u.2.1) hts a3 ty0 a5 a6 hK a1
  have hat := (h1.2.2.2 q _ hc).2
  rw [← h1.ad hc] at hat
  obtain ⟨r, g1, cell, q1, q2, q3, q4⟩ := hat
  have hr : r = (C, T, N) := Option.some.inj (g1.symm.trans a1)
  subst hr
  obtain ⟨hS, hfc, kC, hkC, hkind⟩ := hK.1 ci _ a1
  obtain ⟨cf, kf, fi, fd, hi, hsl⟩ := hS k a2
  have hlay := hts _ (a3 _ (u_in_lay a2))
  unfold u_lay at hlay
  rw [if_pos a7] at hlay
  have hst := (u_facts hfc hkC (u_lays hts a3 a2) hi).1
  have hcf : G.2.2.2.2.1.cls = cf := by
    obtain ⟨_, _, c', _, _, _, -, -, hf', -, -, -, hown2, -⟩ := Cond.laysFinal_spec hlay
    have e1 : c' = cf := by have := hi.symm.trans hf'; simp at this; exact this.1.symm
    rw [hdecl] at hown2
    rw [← e1]; exact Option.some.inj (X.2.2.2.1.symm.trans hown2)
  have h6 := u_fits hfc hkC hkind (Or.inr hlay) hi (by rw [a5 k a2, a8]) hn hfit
  refine W.putFinK X.1 X.2.1 X.2.2.2.1 (hts _ a4) hi hst hcf (X.2.2.2.2.2.2.2.1.trans hin) (by rw [q2]; exact h6) q1 q3 (by rw [hsl]; exact k2_hasslot (q4 k a2)) rfl rfl hd fun H1 e1 e2 e3 => ?_
  rw [hsl] at e1 ⊢
  refine kk X H1 _ arr (h1.set hc e2 e3 ⟨_, a1, t_OB.to (V := updV (vp_V (fs.map (q_v d))) k (q_v d v)) ⟨_, e1, q2, q3, t_set q4 hap a2 (q_v d v)⟩ (fun j _ => ?_)⟩) (q_low h2 (h1.adlt hc) e3) (q_locs h3 (h1.adlt hc)) h4
  show updV (vp_V (fs.map (q_v d))) k (q_v d v) j = vp_V ((fs.set k v).map (q_v d)) j
  rw [List.map_set]
  exact vp_updV_set (by rw [List.length_map]; exact hl) _ j
/-! arrays -/
theorem q_iald {q m : Nat} {g : Nat → Int32} {i : Int32} (hd : decode u.1 pc = .ok (.iaload, 1)) (hc : f q = some (.inl (0, m, .inl g))) (hin : vp_in i m) (k : J G d u z ce sl n (pc + 1) ls (.int (g i.toNatClampNeg) :: st) f) : J G d u z ce sl n pc ls (.int i :: .ref q :: st) f :=
  fun X H locs arr h1 h2 h3 h4 => va_iald X.1 X.2.1 X.2.2.2.2.2.2.2.2 (h1.at hc) 0 0 rfl rfl hin hd (k X H locs arr h1 h2 h3 h4)
theorem q_sald {q m : Nat} {g : Nat → Int32} {i : Int32} (hd : decode u.1 pc = .ok (.saload, 1)) (hc : f q = some (.inl (1, m, .inl g))) (hin : vp_in i m) (k : J G d u z ce sl n (pc + 1) ls (.int (g i.toNatClampNeg) :: st) f) : J G d u z ce sl n pc ls (.int i :: .ref q :: st) f :=
  fun X H locs arr h1 h2 h3 h4 => va_sald X.1 X.2.1 X.2.2.2.2.2.2.2.2 (h1.at hc) 0 1 rfl rfl hin hd (k X H locs arr h1 h2 h3 h4)
theorem q_zald {q m : Nat} {g : Nat → Int32} {i : Int32} (hd : decode u.1 pc = .ok (.baload, 1)) (hc : f q = some (.inl (2, m, .inl g))) (hin : vp_in i m) (k : J G d u z ce sl n (pc + 1) ls (.int (g i.toNatClampNeg) :: st) f) : J G d u z ce sl n pc ls (.int i :: .ref q :: st) f :=
  fun X H locs arr h1 h2 h3 h4 => va_zald X.1 X.2.1 X.2.2.2.2.2.2.2.2 (h1.at hc) 0 2 rfl rfl hin hd (k X H locs arr h1 h2 h3 h4)
theorem q_lald {q m : Nat} {g : Nat → Int64} {i : Int32} (hd : decode u.1 pc = .ok (.laload, 1)) (hc : f q = some (.inl (3, m, .inr (.inl g)))) (hin : vp_in i m) (k : J G d u z ce sl n (pc + 1) ls (.long (g i.toNatClampNeg) :: st) f) : J G d u z ce sl n pc ls (.int i :: .ref q :: st) f :=
  fun X H locs arr h1 h2 h3 h4 => va_lald X.1 X.2.1 X.2.2.2.2.2.2.2.2 (h1.at hc) 0 3 rfl rfl hin hd (k X H locs arr h1 h2 h3 h4)
theorem q_aald {q m : Nat} {g : Nat → Option Nat} {i : Int32} (hd : decode u.1 pc = .ok (.aaload, 1)) (hc : f q = some (.inl (4, m, .inr (.inr (.inr (.inr g)))))) (hin : vp_in i m) (k : J G d u z ce sl n (pc + 1) ls (va_rf (g i.toNatClampNeg) :: st) f) : J G d u z ce sl n pc ls (.int i :: .ref q :: st) f := by
  intro X H locs arr h1 h2 h3 h4
  refine va_aldq X.1 X.2.1 X.2.2.2.2.2.2.2.2 (h1.at hc) 0 4 rfl rfl hin hd ?_
  have := k X H locs arr h1 h2 h3 h4
  cases hg : g i.toNatClampNeg with
  | none => rw [hg] at this; exact this
  | some x => rw [hg] at this; exact this
theorem q_alen {q t : Nat} {a : vp_A} {ty : FieldType} (hd : decode u.1 pc = .ok (.arraylength, 1)) (hc : f q = some (.inl (t, a))) (ht : (q_tys d)[t]? = some (d.2.1 t, ty)) {v : Int32} (hv : Int32.ofNat (q_a d a).1 = v) (k : J G d u z ce sl n (pc + 1) ls (.int v :: st) f) : J G d u z ce sl n pc ls (.ref q :: st) f :=
  fun X H locs arr h1 h2 h3 h4 => va_alen X.1 X.2.1 X.2.2.2.2.2.2.2.2 (h1.at hc) 0 t rfl ht hv hd (k X H locs arr h1 h2 h3 h4)
theorem q_iast {q m : Nat} {g : Nat → Int32} {i : Int32} {x : Int32} (hd : decode u.1 pc = .ok (.iastore, 1)) (hc : f q = some (.inl (0, m, .inl g))) (hin : vp_in i m) (k : J G d u z ce sl n (pc + 1) ls st (q_up f q (.inl (0, m, .inl (upd g i.toNatClampNeg x))))) : J G d u z ce sl n pc ls (.int x :: .int i :: .ref q :: st) f := by
  intro X H locs arr h1 h2 h3 h4
  have hP := h1.at hc
  refine W.iast X.1 X.2.1 (hP 0 _ rfl) ((X.2.2.2.2.2.2.2.2.2 0 _ rfl).1 m (fun j => .int (g j))) (fun e => by cases e) (by show ¬ (i < 0 ∨ (arrV _ _ _).slots.size ≤ _); rw [arrV_size]; exact hin) rfl rfl hd fun H1 e zz oq => ?_
  refine k X H1 _ arr (h1.set hc zz oq ?_) (q_low h2 (h1.adlt hc) oq) (q_locs h3 (h1.adlt hc)) h4
  show H1[q_ad d q]? = some (vp_cell _ _)
  rw [e]
  show some ((vp_cell (d.2.1 0) (m, .inl g)).setSlot _ _) = some (vp_cell (d.2.1 0) (m, .inl (upd g i.toNatClampNeg x)))
  rw [vp_cell_i, vp_cell_i, arrV_store]
  congr 2
  funext j
  by_cases hq : j = i.toNatClampNeg
  · subst hq
    simp [updV, upd]
  · simp [updV, upd, hq]
theorem q_sast {q m : Nat} {g : Nat → Int32} {i : Int32} {x : Int32} (hd : decode u.1 pc = .ok (.sastore, 1)) (hc : f q = some (.inl (1, m, .inl g))) (hin : vp_in i m) (k : J G d u z ce sl n (pc + 1) ls st (q_up f q (.inl (1, m, .inl (upd g i.toNatClampNeg (vp_nar .short x)))))) : J G d u z ce sl n pc ls (.int x :: .int i :: .ref q :: st) f := by
  intro X H locs arr h1 h2 h3 h4
  have hP := h1.at hc
  refine W.sast X.1 X.2.1 (hP 0 _ rfl) ((X.2.2.2.2.2.2.2.2.2 1 _ rfl).1 m (fun j => .int (g j))) (fun e => by cases e) (by show ¬ (i < 0 ∨ (arrV _ _ _).slots.size ≤ _); rw [arrV_size]; exact hin) rfl rfl hd fun H1 e zz oq => ?_
  refine k X H1 _ arr (h1.set hc zz oq ?_) (q_low h2 (h1.adlt hc) oq) (q_locs h3 (h1.adlt hc)) h4
  show H1[q_ad d q]? = some (vp_cell _ _)
  rw [e]
  show some ((vp_cell (d.2.1 1) (m, .inl g)).setSlot _ _) = some (vp_cell (d.2.1 1) (m, .inl (upd g i.toNatClampNeg (vp_nar .short x))))
  rw [vp_cell_i, vp_cell_i, arrV_store]
  congr 2
  funext j
  by_cases hq : j = i.toNatClampNeg
  · subst hq
    simp [updV, upd, vp_nar, narrow]
  · simp [updV, upd, hq]
theorem q_zast {q m : Nat} {g : Nat → Int32} {i : Int32} {x : Int32} (hd : decode u.1 pc = .ok (.bastore, 1)) (hc : f q = some (.inl (2, m, .inl g))) (hin : vp_in i m) (k : J G d u z ce sl n (pc + 1) ls st (q_up f q (.inl (2, m, .inl (upd g i.toNatClampNeg (vp_nar .boolean x)))))) : J G d u z ce sl n pc ls (.int x :: .int i :: .ref q :: st) f := by
  intro X H locs arr h1 h2 h3 h4
  have hP := h1.at hc
  refine W.zast X.1 X.2.1 (hP 0 _ rfl) ((X.2.2.2.2.2.2.2.2.2 2 _ rfl).1 m (fun j => .int (g j))) (fun e => by cases e) (by show ¬ (i < 0 ∨ (arrV _ _ _).slots.size ≤ _); rw [arrV_size]; exact hin) rfl rfl hd fun H1 e zz oq => ?_
  refine k X H1 _ arr (h1.set hc zz oq ?_) (q_low h2 (h1.adlt hc) oq) (q_locs h3 (h1.adlt hc)) h4
  show H1[q_ad d q]? = some (vp_cell _ _)
  rw [e]
  show some ((vp_cell (d.2.1 2) (m, .inl g)).setSlot _ _) = some (vp_cell (d.2.1 2) (m, .inl (upd g i.toNatClampNeg (vp_nar .boolean x))))
  rw [vp_cell_i, vp_cell_i, arrV_store]
  congr 2
  funext j
  by_cases hq : j = i.toNatClampNeg
  · subst hq
    simp [updV, upd, vp_nar, narrow]
  · simp [updV, upd, hq]
theorem q_last {q m : Nat} {g : Nat → Int64} {i : Int32} {x : Int64} (hd : decode u.1 pc = .ok (.lastore, 1)) (hc : f q = some (.inl (3, m, .inr (.inl g)))) (hin : vp_in i m) (k : J G d u z ce sl n (pc + 1) ls st (q_up f q (.inl (3, m, .inr (.inl (vp_updL g i.toNatClampNeg x)))))) : J G d u z ce sl n pc ls (.long x :: .int i :: .ref q :: st) f := by
  intro X H locs arr h1 h2 h3 h4
  have hP := h1.at hc
  refine W.last X.1 X.2.1 (hP 0 _ rfl) ((X.2.2.2.2.2.2.2.2.2 3 _ rfl).1 m (fun j => .long (g j))) (fun e => by cases e) (by show ¬ (i < 0 ∨ (arrV _ _ _).slots.size ≤ _); rw [arrV_size]; exact hin) rfl rfl hd fun H1 e zz oq => ?_
  refine k X H1 _ arr (h1.set hc zz oq ?_) (q_low h2 (h1.adlt hc) oq) (q_locs h3 (h1.adlt hc)) h4
  show H1[q_ad d q]? = some (vp_cell _ _)
  rw [e]
  show some ((vp_cell (d.2.1 3) (m, .inr (.inl g))).setSlot _ _) = some (vp_cell (d.2.1 3) (m, .inr (.inl (vp_updL g i.toNatClampNeg x))))
  rw [vp_cell_l, vp_cell_l, arrV_store]
  congr 2
  funext j
  by_cases hq : j = i.toNatClampNeg
  · subst hq
    simp [updV, vp_updL]
  · simp [updV, vp_updL, hq]
theorem q_aast {q m v ci : Nat} {g : Nat → Option Nat} {fs : List Value} {T : u_T} {N : Nat} {i : Int32} (hd : decode u.1 pc = .ok (.aastore, 1)) (hc : f q = some (.inl (4, m, .inr (.inr (.inr (.inr g)))))) (hin : vp_in i m) (hv : f v = some (.inr (ci, fs))) (hci : vwCl[ci]? = some (RX4, T, N)) (k : J G d u z ce sl n (pc + 1) ls st (q_up f q (.inl (4, m, .inr (.inr (.inr (.inr (va_up g i.toNatClampNeg (some v))))))))) : J G d u z ce sl n pc ls (.ref v :: .int i :: .ref q :: st) f := by
  intro X H locs arr h1 h2 h3 h4
  have hlt : i.toNatClampNeg < m := Nat.not_le.mp fun e => hin (Or.inr e)
  have h0 : ¬ i < 0 := fun e => hin (Or.inl e)
  have hK := X.2.2.2.2.2.2.2.2
  obtain ⟨r', hr', cellV, g1, g2, g3, -⟩ := h1.at hv 0 _ rfl
  have hcls := (hK.1 ci _ hci).2
  obtain ⟨kA, comp, k1, k2, k3, -⟩ := (hK.2 4 _ rfl).2
  have hcomp : comp = d.1.1 ci := Option.some.inj (k3.symm.trans hcls.1)
  subst hcomp
  obtain ⟨kC, hkC, -⟩ := hcls.2
  refine W.aast X.1 X.2.1 (h1.at hc 0 _ rfl) (fun e h => by cases h) (fun h => by cases h) k1 k2 rfl hkC ⟨h0, by show _ < (arrV _ _ _).slots.size; rw [arrV_size]; exact hlt⟩ g1 (fun e h => by rw [g3] at h; cases h) (by rw [g2]; exact hkC) (by rw [g2]; exact va_assign hcls) rfl rfl hd fun H1 e zz oq => ?_
  refine k X H1 _ arr (h1.set hc zz oq ?_) (q_low h2 (h1.adlt hc) oq) (q_locs h3 (h1.adlt hc)) h4
  show H1[q_ad d q]? = some (vp_cell _ _)
  rw [e]
  show some ((vp_cell (d.2.1 4) (m, .inr (.inr (.inr (.inr (fun j => (g j).map (q_ad d))))))).setSlot _ _) = some (vp_cell (d.2.1 4) (m, .inr (.inr (.inr (.inr (fun j => (va_up g i.toNatClampNeg (some v) j).map (q_ad d)))))))
  rw [vp_cell_q, vp_cell_q, arrV_store]
  congr 2
  funext j
  by_cases hq : j = i.toNatClampNeg
  · subst hq
    simp [updV, va_up, va_rf]
  · simp [updV, va_up, hq]
/-! what is made -/
theorem q_new {i ci N : Nat} {C : String} {T : u_T} {fs : List Value} {ty : Nat → FieldType} (hd : decode u.1 pc = .ok (.new i, 3)) (hcl : Cond.classLink u.2.1 i C ∈ q_tb) (hin : Cond.instantiable C N ∈ q_tb) (hini : Cond.initialized C ∈ q_tb) (hci : vwCl[ci]? = some (C, T, N)) (hws : ∀ w ∈ u_ws C T N, w ∈ q_tb) (hty : ∀ k, k < N → parseFieldDescriptor (T k).2.2.1 = some (ty k))
    (hfs : ∀ j, j < N → defaultValue (ty j) = vp_V (fs.map (q_v d)) j) (hce : ce + 1 ≤ u.2.2.2.1.cells) (hsl : sl + N ≤ u.2.2.2.1.slots) (k : J G d u z (ce + 1) (sl + N) (n + 1) (pc + 3) ls (.ref n :: st) (q_up f n (.inr (ci, fs)))) : J G d u z ce sl n pc ls st f := by
  intro X H locs arr h1 h2 h3 h4
  have hts := X.2.2.2.2.1
  have hKn := X.2.2.2.2.2.2.2.2.1 ci _ hci
  refine W.newcK X.1 X.2.1 X.2.2.2.1 (hts _ hcl) (hts _ hin) (hts _ hini) rfl hd hce hsl hKn.2.1 rfl fun H1 kC hkC e1 z1 o1 => ?_
  have h5 := h1.1
  have h6 := h1.2.1
  have hk := k X H1 locs arr (h1.push (e := .inr (ci, fs)) z1 o1 ⟨_, hci, (u_born ty hts hws hKn hkC e1 hty).to hfs⟩) (fun q hq => (o1 q (by omega)).trans (h2 q hq)) h3 h4
  rw [show H.size = q_ad d n from h1.adn]
  exact hk
theorem q_newa {atype : ArrayType} {t : Nat} {v : Int32} {m : Nat} {a : vp_A} {ty : FieldType} (hd : decode u.1 pc = .ok (.newarray atype, 2)) (hw : Cond.arrayClass (newarray.typeOf atype) ∈ q_tb) (hty : newarray.typeOf atype = ty) (ht : (q_tys d)[t]? = some (d.2.1 t, ty)) (hra : va_RA G.2.2.2.1 (d.2.1 t) ty → G.2.2.2.1.vm.findClass ("[" ++ ty.toString) = some (d.2.1 t)) (ha : ∀ cA : ClassId, vp_cell cA (q_a d a) = arrV cA m (fun _ => defaultValue ty)) (hn : ¬ v < 0) (hN : v.toNatClampNeg = m) (hby : m * componentBytes ty ≤ 536870912)
    (hce : ce + 1 ≤ u.2.2.2.1.cells) (hsl : sl + m ≤ u.2.2.2.1.slots) (k : J G d u z (ce + 1) (sl + m) (n + 1) (pc + 2) ls (.ref n :: st) (q_up f n (.inl (t, a)))) : J G d u z ce sl n pc ls (.int v :: st) f := by
  intro X H locs arr h1 h2 h3 h4
  subst hty
  refine va_newaK X.1 X.2.1 (X.2.2.2.2.1 _ hw) rfl hd rfl hn hN hby hce hsl rfl fun H1 cA e1 z1 o1 hAr hNm => ?_
  have hcA : cA = d.2.1 t := Option.some.inj (hNm.symm.trans (hra (X.2.2.2.2.2.2.2.2.2 t _ ht).2))
  subst hcA
  have h5 := h1.1
  have h6 := h1.2.1
  have hk := k X H1 locs arr (h1.push (e := .inl (t, a)) z1 o1 (by show H1[H.size]? = some (vp_cell _ _); rw [ha]; exact e1)) (fun q hq => (o1 q (by omega)).trans (h2 q hq)) h3 h4
  rw [show H.size = q_ad d n from h1.adn]
  exact hk
theorem q_anew {i : Nat} {v : Int32} {m : Nat} (hd : decode u.1 pc = .ok (.anewarray i, 3)) (hcl : Cond.classLink u.2.1 i RX4 ∈ q_tb) (hn : ¬ v < 0) (hN : v.toNatClampNeg = m) (hby : m * 4 ≤ 536870912)
    (hce : ce + 1 ≤ u.2.2.2.1.cells) (hsl : sl + m ≤ u.2.2.2.1.slots) (k : J G d u z (ce + 1) (sl + m) (n + 1) (pc + 3) ls (.ref n :: st) (q_up f n (.inl (4, m, .inr (.inr (.inr (.inr (fun _ => none)))))))) : J G d u z ce sl n pc ls (.int v :: st) f := by
  intro X H locs arr h1 h2 h3 h4
  subst hN
  refine W.anew X.1 X.2.1 X.2.2.2.1 (X.2.2.2.2.1 _ hcl) (va_AO.use X.2.2.2.2.2.2.1.2) rfl hd rfl hn hby hce hsl fun cA kA comp f1 f2 f3 f4 => ?_
  have hcA : cA = d.2.1 4 := by
    obtain ⟨kA', comp', g1, g2, g3, g4⟩ := (X.2.2.2.2.2.2.2.2.2 4 _ rfl).2
    exact Option.some.inj (f1.symm.trans g4)
  subst hcA
  have h5 := h1.1
  have h6 := h1.2.1
  generalize hH1 : H.push ({ cls := d.2.1 4, slots := Array.replicate v.toNatClampNeg .null, vm := .none } : Cell) = H1
  have z1 : H1.size = H.size + 1 := by rw [← hH1, Array.size_push]
  have e1 : H1[H.size]? = some (arrV (d.2.1 4) v.toNatClampNeg (fun _ => .null)) := by rw [← hH1, Array.getElem?_push_size, ← arrV_new]
  have o1 : ∀ q : Nat, q < H.size → H1[q]? = H[q]? := fun q hq => by rw [← hH1, Array.getElem?_push, if_neg (Nat.ne_of_lt hq)]
  have hk := k X H1 locs arr (h1.push (e := .inl (4, v.toNatClampNeg, .inr (.inr (.inr (.inr (fun _ => none)))))) z1 o1 e1) (fun q hq => (o1 q (by omega)).trans (h2 q hq)) h3 h4
  rw [show H.size = q_ad d n from h1.adn]
  exact hk
theorem q_objInit {i x : Nat} (hd : decode u.1 pc = .ok (.invokespecial i, 3)) (hw : Cond.methodLink u.2.1 i objectInit ∈ q_tb) (hw2 : Cond.instanceMethod objectInit ∈ q_tb) (hw3 : Cond.code objectInit ⟨#[0xb1]⟩ 1 none ∈ q_tb) (hfr : 1 ≤ u.2.2.2.1.frames) (hlo : (st.map fun v => v.category).sum + 12 ≤ u.2.2.2.1.locals) (k : J G d u z ce sl n (pc + 3) ls st f) : J G d u z ce sl n pc ls (.ref x :: st) f := by
  intro X H locs arr h1 h2 h3 h4
  have hs : ((st.map (q_v d)).map fun v => v.category) = st.map fun v => v.category := by
    rw [List.map_map]
    exact List.map_congr_left (fun v _ => q_v_cat d v)
  exact W.objInit X.1 X.2.1 X.2.2.2.1 (X.2.2.2.2.1 _ hw) (X.2.2.2.2.1 _ hw2) (X.2.2.2.2.1 _ hw3) rfl (h4.1.trans X.2.2.1.symm) rfl hd hfr (by show 2 * 0 + _ + 12 ≤ _; rw [hs]; omega) (k X H locs arr h1 h2 h3 h4)
/-! returns -/
theorem q_iret {v : Int32} (hd : decode u.1 pc = .ok (.ireturn, 1)) (hr : u.2.2.2.2.1 = some .int) (hz : (some (.int v), n, f) = z) (hce : ce ≤ u.2.2.2.1.cells) (hsl : sl ≤ u.2.2.2.1.slots) : J G d u z ce sl n pc ls [.int v] f := by
  subst hz
  exact fun X H locs arr h1 h2 h3 h4 => W.widen hce hsl (W.iret X.1 X.2.1 (X.2.2.2.2.2.1.trans hr) (fun t ht _ => ⟨rfl, by rw [ht]; exact h1, fun q hq => by rw [ht]; exact h2 q hq⟩) h3 hd X.2.2.2.2.2.2.1.1)
theorem q_zret {v : Int32} (hd : decode u.1 pc = .ok (.ireturn, 1)) (hr : u.2.2.2.2.1 = some .boolean) (hv : narrow .boolean (.int v) = .int v) (hz : (some (.int v), n, f) = z) (hce : ce ≤ u.2.2.2.1.cells) (hsl : sl ≤ u.2.2.2.1.slots) : J G d u z ce sl n pc ls [.int v] f := by
  subst hz
  exact fun X H locs arr h1 h2 h3 h4 => W.widen hce hsl (W.zret X.1 X.2.1 (X.2.2.2.2.2.1.trans hr) hv (fun t ht _ => ⟨rfl, by rw [ht]; exact h1, fun q hq => by rw [ht]; exact h2 q hq⟩) h3 hd X.2.2.2.2.2.2.1.1)
theorem q_lret {v : Int64} (hd : decode u.1 pc = .ok (.lreturn, 1)) (hr : u.2.2.2.2.1 = some .long) (hz : (some (.long v), n, f) = z) (hce : ce ≤ u.2.2.2.1.cells) (hsl : sl ≤ u.2.2.2.1.slots) : J G d u z ce sl n pc ls [.long v] f := by
  subst hz
  exact fun X H locs arr h1 h2 h3 h4 => W.widen hce hsl (W.lret X.1 X.2.1 (X.2.2.2.2.2.1.trans hr) (fun t ht _ => ⟨rfl, by rw [ht]; exact h1, fun q hq => by rw [ht]; exact h2 q hq⟩) h3 hd X.2.2.2.2.2.2.1.1)
theorem q_vret (hd : decode u.1 pc = .ok (.return_, 1)) (hr : u.2.2.2.2.1 = none) (hz : (none, n, f) = z) (hce : ce ≤ u.2.2.2.1.cells) (hsl : sl ≤ u.2.2.2.1.slots) : J G d u z ce sl n pc ls [] f := by
  subst hz
  exact fun X H locs arr h1 h2 h3 h4 => W.widen hce hsl (W.vret X.1 X.2.1 (X.2.2.2.2.2.1.trans hr) (fun t ht _ => ⟨rfl, by rw [ht]; exact h1, fun q hq => by rw [ht]; exact h2 q hq⟩) h3 hd X.2.2.2.2.2.2.1.1)
theorem q_aret {v : Value} {C : String} (hd : decode u.1 pc = .ok (.areturn, 1)) (hr : u.2.2.2.2.1 = some (.object C)) (hv : v = .null ∨ ∃ a, v = .ref a) (hz : (some v, n, f) = z) (hce : ce ≤ u.2.2.2.1.cells) (hsl : sl ≤ u.2.2.2.1.slots) : J G d u z ce sl n pc ls [v] f := by
  subst hz
  exact fun X H locs arr h1 h2 h3 h4 => W.widen hce hsl (W.aret X.1 X.2.1 (X.2.2.2.2.2.1.trans hr) (Or.inl ⟨_, rfl⟩) (by rcases hv with rfl | ⟨a, rfl⟩ <;> simp [q_v]) (fun t ht _ => ⟨rfl, by rw [ht]; exact h1, fun q hq => by rw [ht]; exact h2 q hq⟩) h3 hd X.2.2.2.2.2.2.1.1)
end JROWS
