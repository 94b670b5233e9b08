/-! the world of FirChain: its own cells from place o on, the stages' from place b on, seven each -/
def stg (f : q_Hp) (b cnt : Nat) (S : Nat → q_St) : q_Hp := fun q => if b ≤ q ∧ q < b + 7 * cnt then (stE (b + 7 * ((q - b) / 7)) (S ((q - b) / 7)))[(q - b) % 7]? else f q
theorem stE_len (p : Nat) (S : q_St) : (stE p S).length = 7 := rfl
theorem stg_at {f : q_Hp} {b cnt : Nat} {S : Nat → q_St} {i j : Nat} (hi : i < cnt) (hj : j < 7) : stg f b cnt S (b + 7 * i + j) = (stE (b + 7 * i) (S i))[j]? := by
  unfold stg
  rw [if_pos (by omega), show (b + 7 * i + j - b) / 7 = i by omega, show (b + 7 * i + j - b) % 7 = j by omega]
theorem stg_view {f : q_Hp} {b cnt : Nat} {S : Nat → q_St} {i : Nat} (hi : i < cnt) : stg f b cnt S = q_blk (stg f b cnt S) (b + 7 * i) (stE (b + 7 * i) (S i)) := by
  funext q
  by_cases hq : b + 7 * i ≤ q ∧ q < b + 7 * i + 7
  · obtain ⟨j, rfl⟩ : ∃ j, q = b + 7 * i + j := ⟨q - (b + 7 * i), by omega⟩
    have hj : j < 7 := by omega
    rw [stg_at hi hj]
    have hl : j < (stE (b + 7 * i) (S i)).length := by rw [stE_len]; exact hj
    rw [List.getElem?_eq_getElem hl]
    exact (q_blk_get (List.getElem?_eq_getElem hl)).symm
  · rw [q_blk_out (by rw [stE_len]; omega)]
theorem stg_set {f : q_Hp} {b cnt : Nat} {S : Nat → q_St} {i : Nat} {X : q_St} (hi : i < cnt) : q_blk (stg f b cnt S) (b + 7 * i) (stE (b + 7 * i) X) = stg f b cnt (va_up S i X) := by
  funext q
  by_cases hq : b + 7 * i ≤ q ∧ q < b + 7 * i + 7
  · obtain ⟨j, rfl⟩ : ∃ j, q = b + 7 * i + j := ⟨q - (b + 7 * i), by omega⟩
    have hj : j < 7 := by omega
    rw [stg_at hi hj, va_up_self]
    have hl : j < (stE (b + 7 * i) X).length := by rw [stE_len]; exact hj
    rw [List.getElem?_eq_getElem hl]
    exact q_blk_get (List.getElem?_eq_getElem hl)
  · rw [q_blk_out (by rw [stE_len]; omega)]
    unfold stg
    by_cases h2 : b ≤ q ∧ q < b + 7 * cnt
    · rw [if_pos h2, if_pos h2, show va_up S i X ((q - b) / 7) = S ((q - b) / 7) from if_neg (by omega)]
    · rw [if_neg h2, if_neg h2]
theorem stg_push {f : q_Hp} {b cnt : Nat} {S : Nat → q_St} {X : q_St} : q_blk (stg f b cnt S) (b + 7 * cnt) (stE (b + 7 * cnt) X) = stg f b (cnt + 1) (va_up S cnt X) := by
  funext q
  by_cases hq : b + 7 * cnt ≤ q ∧ q < b + 7 * cnt + 7
  · obtain ⟨j, rfl⟩ : ∃ j, q = b + 7 * cnt + j := ⟨q - (b + 7 * cnt), by omega⟩
    have hj : j < 7 := by omega
    rw [stg_at (Nat.lt_succ_self cnt) hj, va_up_self]
    have hl : j < (stE (b + 7 * cnt) X).length := by rw [stE_len]; exact hj
    rw [List.getElem?_eq_getElem hl]
    exact q_blk_get (List.getElem?_eq_getElem hl)
  · rw [q_blk_out (by rw [stE_len]; omega)]
    unfold stg
    by_cases h2 : b ≤ q ∧ q < b + 7 * cnt
    · rw [if_pos h2, if_pos (by omega), show va_up S cnt X ((q - b) / 7) = S ((q - b) / 7) from if_neg (by omega)]
    · rw [if_neg h2, if_neg (by omega)]
theorem q_blk_comm {f : q_Hp} {p p' : Nat} {es es' : List q_E} (h : p + es.length ≤ p') : q_blk (q_blk f p' es') p es = q_blk (q_blk f p es) p' es' := by
  funext q
  unfold q_blk
  by_cases h1 : p ≤ q ∧ q < p + es.length
  · rw [if_pos h1, if_neg (by omega), if_pos h1]
  · rw [if_neg h1]
    by_cases h2 : p' ≤ q ∧ q < p' + es'.length
    · rw [if_pos h2, if_pos h2]
    · rw [if_neg h2, if_neg h2, if_neg h1]
section XW
variable {f : q_Hp} {b cnt o : Nat} {S : Nat → q_St} {i : Nat} {es : List q_E}
theorem xw_view (hi : i < cnt) (ho : o + es.length ≤ b) : q_blk (stg f b cnt S) o es = q_blk (q_blk (stg f b cnt S) o es) (b + 7 * i) (stE (b + 7 * i) (S i)) := by
  rw [← q_blk_comm (by omega), ← stg_view hi]
theorem xw_set {X : q_St} (hi : i < cnt) (ho : o + es.length ≤ b) : q_blk (q_blk (stg f b cnt S) o es) (b + 7 * i) (stE (b + 7 * i) X) = q_blk (stg f b cnt (va_up S i X)) o es := by
  rw [← q_blk_comm (by omega), stg_set hi]
theorem xw_get {j : Nat} {e : q_E} (hi : i < cnt) (ho : o + es.length ≤ b) (h : (stE (b + 7 * i) (S i))[j]? = some e) : q_blk (stg f b cnt S) o es (b + 7 * i + j) = some e := by
  have hj : j < 7 := (List.getElem?_eq_some_iff.mp h).1
  rw [q_blk_out (by omega), stg_at hi hj]
  exact h
theorem xw_up {j : Nat} {e : q_E} {X : q_St} (hi : i < cnt) (ho : o + es.length ≤ b) (hj : j < 7) (h : (stE (b + 7 * i) (S i)).set j e = stE (b + 7 * i) X) : q_up (q_blk (stg f b cnt S) o es) (b + 7 * i + j) e = q_blk (stg f b cnt (va_up S i X)) o es := by
  rw [xw_view hi ho, q_blk_up (by rw [stE_len]; exact hj), h, xw_set hi ho]
theorem xw_sub {j : Nat} {es1 : List q_E} (hi : i < cnt) (ho : o + es.length ≤ b) (hv : ((stE (b + 7 * i) (S i)).drop j).take es1.length = es1) : q_blk (stg f b cnt S) o es = q_blk (q_blk (stg f b cnt S) o es) (b + 7 * i + j) es1 := by
  have h1 := xw_view (f := f) (S := S) hi ho
  have h2 := q_blk_view (f := q_blk (stg f b cnt S) o es) (p := b + 7 * i) hv
  rw [← h1] at h2
  exact h2
end XW
section XROWS
variable {G : q_G} {d : q_D} {u u' : q_M} {z : q_Z} {ce sl n pc : Nat} {ls : q_L} {st stk : List Value} {f : q_Hp} {b cnt o : Nat} {S : Nat → q_St} {i : Nat} {es : List q_E}
/-- a call on stage i -/
theorem q_cSt {y : MethodName} {as : List Value} {ix : Nat} {T : u_T} {N : Nat} {r : Option Value} {X : q_St} (hS : Sp y u' (.ref (b + 7 * i) :: as) n (q_blk (q_blk (stg f b cnt S) o es) (b + 7 * i) (stE (b + 7 * i) (S i))) (r, n, q_blk (q_blk (stg f b cnt S) o es) (b + 7 * i) (stE (b + 7 * i) X))) (hd : decode u.1 pc = .ok (.invokevirtual ix, 3)) (hw : q_LV u.2.1 ix y u' as.length) (he : stk = as.reverse ++ .ref (b + 7 * i) :: st) (hi : i < cnt) (ho : o + es.length ≤ b) (hci : vwCl[4]? = some (y.cls, T, N)) (hR : q_R u' u) (hce : ce + u'.2.2.2.1.cells ≤ u.2.2.2.1.cells) (hsl : sl + u'.2.2.2.1.slots ≤ u.2.2.2.1.slots) (hst : (st.map fun v => v.category).sum ≤ 8)
    (k : J G d u z (ce + u'.2.2.2.1.cells) (sl + u'.2.2.2.1.slots) n (pc + 3) ls (r.toList ++ st) (q_blk (stg f b cnt (va_up S i X)) o es)) : J G d u z ce sl n pc ls stk (q_blk (stg f b cnt S) o es) := by
  obtain ⟨fs, hfs⟩ : ∃ fs, (stE (b + 7 * i) (S i))[0]? = some (.inr (4, fs)) := ⟨_, rfl⟩
  have hb' : q_blk (q_blk (stg f b cnt S) o es) (b + 7 * i) (stE (b + 7 * i) (S i)) (b + 7 * i) = some (.inr (4, fs)) := q_blk_get (p := b + 7 * i) (j := 0) hfs
  exact q_heap (xw_view hi ho) (q_cW hS hd hw he hb' hci hR hce hsl hst (q_heap (xw_set hi ho) k))
/-- a call on stage i that only reads -/
theorem q_cStr {y : MethodName} {as : List Value} {ix : Nat} {T : u_T} {N : Nat} {r : Option Value} (hS : Sp y u' (.ref (b + 7 * i) :: as) n (q_blk (q_blk (stg f b cnt S) o es) (b + 7 * i) (stE (b + 7 * i) (S i))) (r, n, q_blk (q_blk (stg f b cnt S) o es) (b + 7 * i) (stE (b + 7 * i) (S i)))) (hd : decode u.1 pc = .ok (.invokevirtual ix, 3)) (hw : q_LV u.2.1 ix y u' as.length) (he : stk = as.reverse ++ .ref (b + 7 * i) :: st) (hi : i < cnt) (ho : o + es.length ≤ b) (hci : vwCl[4]? = some (y.cls, T, N)) (hR : q_R u' u) (hce : ce + u'.2.2.2.1.cells ≤ u.2.2.2.1.cells) (hsl : sl + u'.2.2.2.1.slots ≤ u.2.2.2.1.slots) (hst : (st.map fun v => v.category).sum ≤ 8)
    (k : J G d u z (ce + u'.2.2.2.1.cells) (sl + u'.2.2.2.1.slots) n (pc + 3) ls (r.toList ++ st) (q_blk (stg f b cnt S) o es)) : J G d u z ce sl n pc ls stk (q_blk (stg f b cnt S) o es) := by
  obtain ⟨fs, hfs⟩ : ∃ fs, (stE (b + 7 * i) (S i))[0]? = some (.inr (4, fs)) := ⟨_, rfl⟩
  have hb' : q_blk (q_blk (stg f b cnt S) o es) (b + 7 * i) (stE (b + 7 * i) (S i)) (b + 7 * i) = some (.inr (4, fs)) := q_blk_get (p := b + 7 * i) (j := 0) hfs
  exact q_heap (xw_view hi ho) (q_cW hS hd hw he hb' hci hR hce hsl hst (q_heap (xw_view hi ho).symm k))
/-- a call on a part of stage i that only reads -/
theorem q_cSs {y : MethodName} {as : List Value} {ix j ci : Nat} {T : u_T} {N : Nat} {r : Option Value} {es1 : List q_E} {fs : List Value} (hS : Sp y u' (.ref (b + 7 * i + j) :: as) n (q_blk (q_blk (stg f b cnt S) o es) (b + 7 * i + j) es1) (r, n, q_blk (q_blk (stg f b cnt S) o es) (b + 7 * i + j) es1)) (hd : decode u.1 pc = .ok (.invokevirtual ix, 3)) (hw : q_LV u.2.1 ix y u' as.length) (he : stk = as.reverse ++ .ref (b + 7 * i + j) :: st) (hi : i < cnt) (ho : o + es.length ≤ b) (hv : ((stE (b + 7 * i) (S i)).drop j).take es1.length = es1) (hb : es1[0]? = some (.inr (ci, fs))) (hci : vwCl[ci]? = some (y.cls, T, N)) (hR : q_R u' u) (hce : ce + u'.2.2.2.1.cells ≤ u.2.2.2.1.cells) (hsl : sl + u'.2.2.2.1.slots ≤ u.2.2.2.1.slots) (hst : (st.map fun v => v.category).sum ≤ 8)
    (k : J G d u z (ce + u'.2.2.2.1.cells) (sl + u'.2.2.2.1.slots) n (pc + 3) ls (r.toList ++ st) (q_blk (stg f b cnt S) o es)) : J G d u z ce sl n pc ls stk (q_blk (stg f b cnt S) o es) := by
  have hb' : q_blk (q_blk (stg f b cnt S) o es) (b + 7 * i + j) es1 (b + 7 * i + j) = some (.inr (ci, fs)) := q_blk_get (p := b + 7 * i + j) (j := 0) hb
  exact q_heap (xw_sub hi ho hv) (q_cW hS hd hw he hb' hci hR hce hsl hst (q_heap (xw_sub hi ho hv).symm k))
end XROWS
def xrf (b cnt : Nat) : Nat → Option Nat := fun i => if i < cnt then some (b + 7 * i) else none
theorem xrf_at {b cnt i : Nat} (hi : i < cnt) (hc : cnt ≤ 8) : xrf b cnt (nI i).toNatClampNeg = some (b + 7 * i) := by
  rw [nI_clamp (by omega)]
  unfold xrf
  rw [if_pos hi]
/-- a row: its samples, how many -/
abbrev q_Rw : Type := (Nat → Int32) × Nat
abbrev xE (o cnt : Nat) (rf : Nat → Option Nat) (ch : Nat → Int32) (cl : Nat) (sam : Nat → Int32) (len lost : Int32) (r1 r2 : q_Rw) : List q_E := [.inr (6, [.ref (o + 1), .int (nI cnt), .ref (o + 2), .int (nI cl), .ref (o + 3), .ref (o + 5), .ref (o + 7)]), .inl (4, 8, .inr (.inr (.inr (.inr rf)))), .inl (0, 8, .inl ch), .inr (5, [.ref (o + 4), .int len, .int lost]), .inl (1, 600, .inl sam), .inr (3, [.ref (o + 6), .int (nI r1.2)]), .inl (0, 16, .inl r1.1), .inr (3, [.ref (o + 8), .int (nI r2.2)]), .inl (0, 16, .inl r2.1)]
theorem x_pred {c : Nat} (h : 0 < c) : nI c - 1 = nI (c - 1) := by
  obtain ⟨k, rfl⟩ : ∃ k, c = k + 1 := ⟨c - 1, by omega⟩
  exact nI_pred k
theorem x_nm1 {a : Nat} (h : a < 2 ^ 31) : ¬ nI a = -1 := by
  intro e
  have h1 := nI_toInt h
  rw [e] at h1
  have h2 : ((-1 : Int32).toInt) = -1 := by decide
  omega
/-- the first place from i on, among k, that holds v -/
def x_fd (ch : Nat → Int32) (v : Int32) : Nat → Nat → Option Nat
  | 0, _ => none
  | k + 1, i => if ch (nI i).toNatClampNeg = v then some i else x_fd ch v k (i + 1)
theorem x_fd_lt {ch : Nat → Int32} {v : Int32} : ∀ {k i a : Nat}, x_fd ch v k i = some a → i ≤ a ∧ a < i + k
  | 0, i, a, h => by cases h
  | k + 1, i, a, h => by
    unfold x_fd at h
    by_cases h1 : ch (nI i).toNatClampNeg = v
    · rw [if_pos h1] at h
      cases h
      omega
    · rw [if_neg h1] at h
      have := x_fd_lt h
      omega
def x_sh : (Nat → Int32) → Nat → Nat → Nat → Int32
  | ch, 0, _ => ch
  | ch, k + 1, i => x_sh (upd ch (nI i).toNatClampNeg (ch (nI i + 1).toNatClampNeg)) k (i + 1)
/-- the chain without v -/
def x_un (ch : Nat → Int32) (cl : Nat) (v : Int32) : (Nat → Int32) × Nat := match x_fd ch v cl 0 with
  | none => (ch, cl)
  | some a => (x_sh ch (cl - 1 - a) a, cl - 1)
def x_pr (S : Nat → q_St) (ch : Nat → Int32) : Nat → Int32
  | 0 => 1
  | i + 1 => x_pr S ch i * s_fill (S_by (S (ch i).toNatClampNeg))
def x_in (v lo hi : Int32) : Bool := !decide (v < lo) && !decide (hi < v)
def x_isBy (v : Int32) : Bool := x_in v 1 4 || x_in v (-4) (-2)
def x_isPlan (bb ww : Int32) : Bool := x_in bb 4 16 && x_in ww 18 50
