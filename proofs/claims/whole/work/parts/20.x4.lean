theorem q_up_same {f : q_Hp} {k : Nat} {e : q_E} (h : f k = some e) : q_up f k e = f := by
  funext q
  by_cases hq : q = k
  · subst hq
    rw [q_up_self, h]
  · rw [q_up_ne _ _ hq]
theorem q_up_blk (f : q_Hp) (p : Nat) (e : q_E) : q_up f p e = q_blk f p [e] := by
  funext q
  by_cases hq : q = p
  · subst hq
    rw [q_up_self]
    exact (q_blk_get (p := q) (j := 0) rfl).symm
  · rw [q_up_ne _ _ hq]
    exact (q_blk_out (by simp; omega)).symm
theorem q_cPass {G : q_G} {d : q_D} {u : q_M} {z : q_Z} {ce sl n pc : Nat} {ls : q_L} {st stk : List Value} {f : q_Hp} {b cnt o : Nat} {S : Nat → q_St} {i ja jb m l e ix : Nat} {es : List q_E} {fr to : Nat → Int32} (hes : es.length = 9) (h1 : (es.drop ja).take 2 = rwE (o + ja) fr m) (h2 : (es.drop jb).take 2 = rwE (o + jb) to l) (hab : ja + 2 ≤ jb ∨ jb + 2 ≤ ja) (ha9 : ja + 2 ≤ 9) (hb9 : jb + 2 ≤ 9) (hS : S_ok (S i)) (hm : m ≤ 16) (he4 : e ≤ 4) (hf : s_fill (S_by (S i)) = nI e) (hd : decode u.1 pc = .ok (.invokevirtual ix, 3)) (hw : q_LV u.2.1 ix yX4_pass uX4_pass 2) (he : stk = [.ref (o + jb), .ref (o + ja), .ref (b + 7 * i)] ++ st) (hi : i < cnt) (ho : o + 9 ≤ b) (hR : q_R uX4_pass u) (hce : ce + uX4_pass.2.2.2.1.cells ≤ u.2.2.2.1.cells) (hsl : sl + uX4_pass.2.2.2.1.slots ≤ u.2.2.2.1.slots) (hst : (st.map fun v => v.category).sum ≤ 8)
    (k : J G d u z (ce + uX4_pass.2.2.2.1.cells) (sl + uX4_pass.2.2.2.1.slots) n (pc + 3) ls st (q_blk (stg f b cnt (va_up S i (P_out fr e (S i, 0, to) m).1)) o (es.take jb ++ (rwE (o + jb) (P_out fr e (S i, 0, to) m).2.2 (P_out fr e (S i, 0, to) m).2.1 ++ es.drop (jb + 2))))) : J G d u z ce sl n pc ls stk (q_blk (stg f b cnt S) o es) := by
  have ho' : o + es.length ≤ b := by omega
  have e1 : q_blk (stg f b cnt S) o es = q_blk (q_blk (q_blk (stg f b cnt S) o es) (o + jb) (rwE (o + jb) to l)) (b + 7 * i) (stE (b + 7 * i) (S i)) :=
    (xw_view hi ho').trans (congrArg (fun x => q_blk x (b + 7 * i) (stE (b + 7 * i) (S i))) (q_blk_view h2))
  have e2 : ∀ (X : q_St) (t2 : Nat → Int32) (l2 : Nat), q_blk (q_blk (q_blk (stg f b cnt S) o es) (o + jb) (rwE (o + jb) t2 l2)) (b + 7 * i) (stE (b + 7 * i) X) = q_blk (stg f b cnt (va_up S i X)) o (es.take jb ++ (rwE (o + jb) t2 l2 ++ es.drop (jb + 2))) := by
    intro X t2 l2
    rw [q_blk_back (show jb + (rwE (o + jb) t2 l2).length ≤ es.length from by rw [hes]; exact hb9)]
    exact xw_set hi (by simp; omega)
  obtain ⟨fs, hfs⟩ : ∃ fs, (stE (b + 7 * i) (S i))[0]? = some (.inr (4, fs)) := ⟨_, rfl⟩
  have hb' : q_blk (q_blk (q_blk (stg f b cnt S) o es) (o + jb) (rwE (o + jb) to l)) (b + 7 * i) (stE (b + 7 * i) (S i)) (b + 7 * i) = some (.inr (4, fs)) := q_blk_get (p := b + 7 * i) (j := 0) hfs
  exact q_heap e1 (q_cW (c_X4_pass (fr := fr) (to := to) (e := e) (m := m) (l := l) (a := o + ja) (b := o + jb) (q_blk_view h1) (by omega) (by omega) (by omega) hS hm he4 hf) hd hw he hb' rfl hR hce hsl hst (q_heap (e2 _ _ _) k))
/-! a sample on its way: stages, how many, the row it stands in, the other row -/
abbrev q_Y : Type := (Nat → q_St) × Nat × (Nat → Int32) × q_Rw
def y_stp (ch : Nat → Int32) (t : Nat) (w : q_Y) : q_Om := P_out w.2.2.1 (s_fill (S_by (w.1 (ch t).toNatClampNeg))).toNatClampNeg (w.1 (ch t).toNatClampNeg, 0, w.2.2.2.1) w.2.1
def y_nx (ch : Nat → Int32) (t : Nat) (w : q_Y) : q_Y := (va_up w.1 (ch t).toNatClampNeg (y_stp ch t w).1, (y_stp ch t w).2.1, (y_stp ch t w).2.2, (w.2.2.1, w.2.1))
def y_go (ch : Nat → Int32) : Nat → Nat → q_Y → q_Y
  | 0, _, w => w
  | k + 1, t, w => y_go ch k (t + 1) (y_nx ch t w)
def y_ori : Nat → Bool
  | 0 => true
  | k + 1 => !y_ori k
def y_ok (cnt : Nat) (w : q_Y) : Prop := (∀ j : Nat, j < cnt → S_ok (w.1 j) ∧ ∃ e : Nat, e ≤ 4 ∧ s_fill (S_by (w.1 j)) = nI e) ∧ w.2.1 ≤ 16
theorem P_in_by {x : Int32} {w0 : q_Om} : ∀ j : Nat, S_by (P_in x w0 j).1 = S_by w0.1
  | 0 => rfl
  | j + 1 => (show S_by (P_in x w0 (j + 1)).1 = S_by (P_in x w0 j).1 from rfl).trans (P_in_by j)
theorem P_out_by {fr : Nat → Int32} {e : Nat} {w0 : q_Om} : ∀ j : Nat, S_by (P_out fr e w0 j).1 = S_by w0.1
  | 0 => rfl
  | j + 1 => (P_in_by e).trans (P_out_by j)
theorem y_ok_nx {cnt : Nat} {ch : Nat → Int32} {t : Nat} {w : q_Y} (h : y_ok cnt w) (hc : (ch t).toNatClampNeg < cnt) : y_ok cnt (y_nx ch t w) := by
  obtain ⟨h1, h2⟩ := h
  have h3 := P_out_ok (fr := w.2.2.1) (e := (s_fill (S_by (w.1 (ch t).toNatClampNeg))).toNatClampNeg) (w0 := (w.1 (ch t).toNatClampNeg, 0, w.2.2.2.1)) ⟨(h1 _ hc).1, Nat.zero_le _⟩ w.2.1
  refine ⟨fun j hj => ?_, h3.2⟩
  show S_ok (va_up w.1 (ch t).toNatClampNeg (y_stp ch t w).1 j) ∧ _
  by_cases hjc : j = (ch t).toNatClampNeg
  · subst hjc
    show S_ok (va_up w.1 (ch t).toNatClampNeg (y_stp ch t w).1 (ch t).toNatClampNeg) ∧ ∃ e : Nat, e ≤ 4 ∧ s_fill (S_by (va_up w.1 (ch t).toNatClampNeg (y_stp ch t w).1 (ch t).toNatClampNeg)) = nI e
    rw [vu_self]
    refine ⟨h3.1, ?_⟩
    obtain ⟨e, e1, e2⟩ := (h1 _ hc).2
    exact ⟨e, e1, (congrArg s_fill (P_out_by _)).trans e2⟩
  · show S_ok (va_up w.1 (ch t).toNatClampNeg (y_stp ch t w).1 j) ∧ ∃ e : Nat, e ≤ 4 ∧ s_fill (S_by (va_up w.1 (ch t).toNatClampNeg (y_stp ch t w).1 j)) = nI e
    rw [show va_up w.1 (ch t).toNatClampNeg (y_stp ch t w).1 j = w.1 j from if_neg hjc]
    exact h1 j hj
/-! the tape -/
abbrev q_T : Type := (Nat → Int32) × Int32 × Int32
def y_add (x : Int32) (w : q_T) : q_T := (bif t_room w.2.1 then upd w.1 w.2.1.toNatClampNeg (vp_nar .short x.toInt16.toInt32) else w.1, bif t_room w.2.1 then w.2.1 + 1 else w.2.1, bif t_room w.2.1 then w.2.2 else w.2.2 + 1)
def y_tp (cur : Nat → Int32) (w : q_T) : Nat → q_T
  | 0 => w
  | i + 1 => y_add (cur (nI i).toNatClampNeg) (y_tp cur w i)
set_option maxHeartbeats 4000000 in
set_option maxRecDepth 100000 in
theorem lp_send_tpA {G : q_G} {d : q_D} {z : q_Z} {f : q_Hp} {n o b cnt : Nat} {S : Nat → q_St} {ch : Nat → Int32} {cl : Nat} {r1 r2 : q_Rw} {w : q_T} (ho : o + 9 ≤ b) (hcnt : cnt ≤ 8) (hcl : cl ≤ 8) (hm : r1.2 ≤ 16) (hx : J G d uX6_send z 0 0 n 111 (q_l [(2, .ref (o + 5))]) [] (q_blk (stg f b cnt S) o (xE o cnt (xrf b cnt) ch cl ((y_tp r1.1 w r1.2).1) ((y_tp r1.1 w r1.2).2.1) ((y_tp r1.1 w r1.2).2.2) r1 r2))) : ∀ (k i : Nat), i + k = r1.2 → J G d uX6_send z 0 0 n 83 (q_l [(0, .ref o), (2, .ref (o + 5)), (4, .int (nI i))]) [] (q_blk (stg f b cnt S) o (xE o cnt (xrf b cnt) ch cl ((y_tp r1.1 w i).1) ((y_tp r1.1 w i).2.1) ((y_tp r1.1 w i).2.2) r1 r2)) := by
  intro k
  induction k with
  | zero =>
    intro i hi
    rw [show i = r1.2 by omega]
    refine q_iload dX6_send_83 rfl ?_
    refine q_aload_n dX6_send_85 rfl ?_
    refine q_getf dX6_send_86 fl_X6_236 (q_blk_get (j := 5) rfl) rfl ?_
    refine q_icmp_ge (tgt := 111) dX6_send_89 (by decide) (fun c_89 => ?_) (fun h_n => absurd ((Int32.le_refl _)) h_n)
    exact q_lo [(2, .ref (o + 5))] ⟨rfl, trivial⟩ hx
  | succ k ih =>
    intro i hi
    refine q_iload dX6_send_83 rfl ?_
    refine q_aload_n dX6_send_85 rfl ?_
    refine q_getf dX6_send_86 fl_X6_236 (q_blk_get (j := 5) rfl) rfl ?_
    refine q_icmp_ge (tgt := 111) dX6_send_89 (by decide) (fun h_n => absurd h_n ((nI_ge (by omega) (by omega)))) (fun c_89 => ?_)
    refine q_aload_n dX6_send_92 rfl ?_
    refine q_getf dX6_send_93 fl_X6_29 (q_blk_get (j := 0) rfl) rfl ?_
    refine q_aload_n dX6_send_96 rfl ?_
    refine q_iload dX6_send_97 rfl ?_
    refine q_cVr (j := 5) (c_X3_at (smp := r1.1) (ln := r1.2) (i := i) (by omega) hm) dX6_send_99 kl_X6_237 rfl rfl rfl rfl ⟨q_le rfl, q_le rfl⟩ (q_le rfl) (q_le rfl) (q_le rfl) ?_
    refine q_cV (j := 3) (c_X5_add) dX6_send_102 kl_X6_238 rfl rfl rfl rfl (q_le rfl) ⟨q_le rfl, q_le rfl⟩ (q_le rfl) (q_le rfl) (q_le rfl) ?_
    refine q_iinc dX6_send_105 rfl (v := nI (i + 1)) (nI_1 i) ?_
    refine q_goto (tgt := 83) dX6_send_108 (by decide) ?_
    exact q_lo [(0, .ref o), (2, .ref (o + 5)), (4, .int (nI (i + 1)))] ⟨rfl, rfl, rfl, trivial⟩ (ih (i + 1) (by omega))

set_option maxHeartbeats 4000000 in
set_option maxRecDepth 100000 in
theorem lp_send_tpB {G : q_G} {d : q_D} {z : q_Z} {f : q_Hp} {n o b cnt : Nat} {S : Nat → q_St} {ch : Nat → Int32} {cl : Nat} {r1 r2 : q_Rw} {w : q_T} (ho : o + 9 ≤ b) (hcnt : cnt ≤ 8) (hcl : cl ≤ 8) (hm : r2.2 ≤ 16) (hx : J G d uX6_send z 0 0 n 111 (q_l [(2, .ref (o + 7))]) [] (q_blk (stg f b cnt S) o (xE o cnt (xrf b cnt) ch cl ((y_tp r2.1 w r2.2).1) ((y_tp r2.1 w r2.2).2.1) ((y_tp r2.1 w r2.2).2.2) r1 r2))) : ∀ (k i : Nat), i + k = r2.2 → J G d uX6_send z 0 0 n 83 (q_l [(0, .ref o), (2, .ref (o + 7)), (4, .int (nI i))]) [] (q_blk (stg f b cnt S) o (xE o cnt (xrf b cnt) ch cl ((y_tp r2.1 w i).1) ((y_tp r2.1 w i).2.1) ((y_tp r2.1 w i).2.2) r1 r2)) := by
  intro k
  induction k with
  | zero =>
    intro i hi
    rw [show i = r2.2 by omega]
    refine q_iload dX6_send_83 rfl ?_
    refine q_aload_n dX6_send_85 rfl ?_
    refine q_getf dX6_send_86 fl_X6_236 (q_blk_get (j := 7) rfl) rfl ?_
    refine q_icmp_ge (tgt := 111) dX6_send_89 (by decide) (fun c_89 => ?_) (fun h_n => absurd ((Int32.le_refl _)) h_n)
    exact q_lo [(2, .ref (o + 7))] ⟨rfl, trivial⟩ hx
  | succ k ih =>
    intro i hi
    refine q_iload dX6_send_83 rfl ?_
    refine q_aload_n dX6_send_85 rfl ?_
    refine q_getf dX6_send_86 fl_X6_236 (q_blk_get (j := 7) rfl) rfl ?_
    refine q_icmp_ge (tgt := 111) dX6_send_89 (by decide) (fun h_n => absurd h_n ((nI_ge (by omega) (by omega)))) (fun c_89 => ?_)
    refine q_aload_n dX6_send_92 rfl ?_
    refine q_getf dX6_send_93 fl_X6_29 (q_blk_get (j := 0) rfl) rfl ?_
    refine q_aload_n dX6_send_96 rfl ?_
    refine q_iload dX6_send_97 rfl ?_
    refine q_cVr (j := 7) (c_X3_at (smp := r2.1) (ln := r2.2) (i := i) (by omega) hm) dX6_send_99 kl_X6_237 rfl rfl rfl rfl ⟨q_le rfl, q_le rfl⟩ (q_le rfl) (q_le rfl) (q_le rfl) ?_
    refine q_cV (j := 3) (c_X5_add) dX6_send_102 kl_X6_238 rfl rfl rfl rfl (q_le rfl) ⟨q_le rfl, q_le rfl⟩ (q_le rfl) (q_le rfl) (q_le rfl) ?_
    refine q_iinc dX6_send_105 rfl (v := nI (i + 1)) (nI_1 i) ?_
    refine q_goto (tgt := 83) dX6_send_108 (by decide) ?_
    exact q_lo [(0, .ref o), (2, .ref (o + 7)), (4, .int (nI (i + 1)))] ⟨rfl, rfl, rfl, trivial⟩ (ih (i + 1) (by omega))

set_option maxHeartbeats 4000000 in
set_option maxRecDepth 100000 in
theorem lp_send {G : q_G} {d : q_D} {f : q_Hp} {n o b cnt : Nat} {ch : Nat → Int32} {cl : Nat} {sam : Nat → Int32} {len lost : Int32} (ho : o + 9 ≤ b) (hcnt : cnt ≤ 8) (hcl : cl ≤ 8) (hch : ∀ t : Nat, t < cl → (ch t).toNatClampNeg < cnt ∧ ch t = nI (ch t).toNatClampNeg) : ∀ (k t : Nat) (w : q_Y), t + k = cl → y_ok cnt w → J G d uX6_send (some (.int (nI (y_go ch k t w).2.1)), n, q_blk (stg f b cnt ((y_go ch k t w).1)) o (xE o cnt (xrf b cnt) ch cl ((y_tp (y_go ch k t w).2.2.1 (sam, len, lost) (y_go ch k t w).2.1).1) ((y_tp (y_go ch k t w).2.2.1 (sam, len, lost) (y_go ch k t w).2.1).2.1) ((y_tp (y_go ch k t w).2.2.1 (sam, len, lost) (y_go ch k t w).2.1).2.2) (bif y_ori k then ((y_go ch k t w).2.2.1, (y_go ch k t w).2.1) else (y_go ch k t w).2.2.2) (bif y_ori k then (y_go ch k t w).2.2.2 else ((y_go ch k t w).2.2.1, (y_go ch k t w).2.1)))) 0 0 n 22 (q_l [(0, .ref o), (2, .ref (o + 5)), (3, .ref (o + 7)), (4, .int (nI t))]) [] (q_blk (stg f b cnt w.1) o (xE o cnt (xrf b cnt) ch cl sam len lost ((w.2.2.1, w.2.1)) w.2.2.2)) ∧ J G d uX6_send (some (.int (nI (y_go ch k t w).2.1)), n, q_blk (stg f b cnt ((y_go ch k t w).1)) o (xE o cnt (xrf b cnt) ch cl ((y_tp (y_go ch k t w).2.2.1 (sam, len, lost) (y_go ch k t w).2.1).1) ((y_tp (y_go ch k t w).2.2.1 (sam, len, lost) (y_go ch k t w).2.1).2.1) ((y_tp (y_go ch k t w).2.2.1 (sam, len, lost) (y_go ch k t w).2.1).2.2) (bif !y_ori k then ((y_go ch k t w).2.2.1, (y_go ch k t w).2.1) else (y_go ch k t w).2.2.2) (bif !y_ori k then (y_go ch k t w).2.2.2 else ((y_go ch k t w).2.2.1, (y_go ch k t w).2.1)))) 0 0 n 22 (q_l [(0, .ref o), (2, .ref (o + 7)), (3, .ref (o + 5)), (4, .int (nI t))]) [] (q_blk (stg f b cnt w.1) o (xE o cnt (xrf b cnt) ch cl sam len lost w.2.2.2 ((w.2.2.1, w.2.1)))) := by
  intro k
  induction k with
  | zero =>
    intro t w hk hw
    rw [show t = cl by omega]
    refine ⟨?_, ?_⟩
    · refine q_iload dX6_send_22 rfl ?_
      refine q_aload_n dX6_send_24 rfl ?_
      refine q_getf dX6_send_25 fl_X6_23 (q_blk_get (j := 0) rfl) rfl ?_
      refine q_icmp_ge (tgt := 80) dX6_send_28 (by decide) (fun c_28 => ?_) (fun h_n => absurd ((Int32.le_refl _)) h_n)
      refine q_iconst dX6_send_80 (v := 0) (by decide) ?_
      refine q_istore dX6_send_81 (q_le rfl) ?_
      refine q_lo [(0, .ref o), (2, .ref (o + 5)), (4, .int (nI 0))] ⟨rfl, rfl, rfl, trivial⟩ (lp_send_tpA (r1 := (w.2.2.1, w.2.1)) (r2 := w.2.2.2) (w := (sam, len, lost)) ho hcnt hcl hw.2 ?_ w.2.1 0 (Nat.zero_add _))
      refine q_aload_n dX6_send_111 rfl ?_
      refine q_getf dX6_send_112 fl_X6_236 (q_blk_get (j := 5) rfl) rfl ?_
      exact q_iret dX6_send_115 rfl (rfl) (q_le rfl) (q_le rfl)
    · refine q_iload dX6_send_22 rfl ?_
      refine q_aload_n dX6_send_24 rfl ?_
      refine q_getf dX6_send_25 fl_X6_23 (q_blk_get (j := 0) rfl) rfl ?_
      refine q_icmp_ge (tgt := 80) dX6_send_28 (by decide) (fun c_28 => ?_) (fun h_n => absurd ((Int32.le_refl _)) h_n)
      refine q_iconst dX6_send_80 (v := 0) (by decide) ?_
      refine q_istore dX6_send_81 (q_le rfl) ?_
      refine q_lo [(0, .ref o), (2, .ref (o + 7)), (4, .int (nI 0))] ⟨rfl, rfl, rfl, trivial⟩ (lp_send_tpB (r1 := w.2.2.2) (r2 := (w.2.2.1, w.2.1)) (w := (sam, len, lost)) ho hcnt hcl hw.2 ?_ w.2.1 0 (Nat.zero_add _))
      refine q_aload_n dX6_send_111 rfl ?_
      refine q_getf dX6_send_112 fl_X6_236 (q_blk_get (j := 7) rfl) rfl ?_
      exact q_iret dX6_send_115 rfl (rfl) (q_le rfl) (q_le rfl)
  | succ k ih =>
    intro t w hk hw
    obtain ⟨hcj, ej⟩ := hch t (by omega)
    have ec : ch (nI t).toNatClampNeg = nI (ch t).toNatClampNeg := by rw [nI_clamp (by omega)]; exact ej
    obtain ⟨e0, he0, hf0⟩ := (hw.1 _ hcj).2
    have he4 : (s_fill (S_by (w.1 (ch t).toNatClampNeg))).toNatClampNeg ≤ 4 := by rw [hf0, nI_clamp (by omega)]; exact he0
    have hfe : s_fill (S_by (w.1 (ch t).toNatClampNeg)) = nI (s_fill (S_by (w.1 (ch t).toNatClampNeg))).toNatClampNeg := by rw [hf0, nI_clamp (by omega)]
    refine ⟨?_, ?_⟩
    · refine q_iload dX6_send_22 rfl ?_
      refine q_aload_n dX6_send_24 rfl ?_
      refine q_getf dX6_send_25 fl_X6_23 (q_blk_get (j := 0) rfl) rfl ?_
      refine q_icmp_ge (tgt := 80) dX6_send_28 (by decide) (fun h_n => absurd h_n ((nI_ge (by omega) (by omega)))) (fun c_28 => ?_)
      refine q_iload dX6_send_31 rfl ?_
      refine q_aload_n dX6_send_33 rfl ?_
      refine q_getf dX6_send_34 fl_X6_19 (q_blk_get (j := 0) rfl) rfl ?_
      refine q_alen dX6_send_37 (q_blk_get (j := 2) rfl) rfl (v := 8) rfl ?_
      refine q_icmp_ge (tgt := 80) dX6_send_38 (by decide) (fun h_n => absurd h_n ((nI_ge (b := 8) (by omega) (by decide)))) (fun c_38 => ?_)
      refine q_aload_n dX6_send_41 rfl ?_
      refine q_aload_n dX6_send_42 rfl ?_
      refine q_getf dX6_send_43 fl_X6_19 (q_blk_get (j := 0) rfl) rfl ?_
      refine q_iload dX6_send_46 rfl ?_
      refine q_iald dX6_send_48 (q_blk_get (j := 2) rfl) (vp_in_nI (by omega) (by decide)) ?_
      rw [ec]
      refine q_cW (c_find_ok ho hcnt hcl hcj) dX6_send_49 kl_X6_55 rfl (q_blk_get (j := 0) rfl) rfl ⟨q_le rfl, q_le rfl⟩ (q_le rfl) (q_le rfl) (q_le rfl) ?_
      refine q_astore dX6_send_52 (q_le rfl) ?_
      refine q_aload dX6_send_54 rfl ?_
      refine q_ifnull dX6_send_56 ?_
      refine q_aload dX6_send_59 rfl ?_
      refine q_aload_n dX6_send_61 rfl ?_
      refine q_aload_n dX6_send_62 rfl ?_
      refine q_cPass (ja := 5) (jb := 7) (fr := w.2.2.1) (to := w.2.2.2.1) (m := w.2.1) (l := w.2.2.2.2) (e := (s_fill (S_by (w.1 (ch t).toNatClampNeg))).toNatClampNeg) (i := (ch t).toNatClampNeg) rfl rfl rfl (by decide) (by decide) (by decide) (hw.1 _ hcj).1 hw.2 he4 hfe dX6_send_63 kl_X6_232 rfl hcj ho ⟨q_le rfl, q_le rfl⟩ (q_le rfl) (q_le rfl) (q_le rfl) ?_
      refine q_aload_n dX6_send_66 rfl ?_
      refine q_astore dX6_send_67 (q_le rfl) ?_
      refine q_aload_n dX6_send_69 rfl ?_
      refine q_astore_n dX6_send_70 (q_le rfl) ?_
      refine q_aload dX6_send_71 rfl ?_
      refine q_astore_n dX6_send_73 (q_le rfl) ?_
      refine q_iinc dX6_send_74 rfl (v := nI (t + 1)) (nI_1 t) ?_
      refine q_goto (tgt := 22) dX6_send_77 (by decide) ?_
      exact q_zz (by simp only [y_go, y_ori, Bool.not_not]) (q_lo [(0, .ref o), (2, .ref (o + 7)), (3, .ref (o + 5)), (4, .int (nI (t + 1)))] ⟨rfl, rfl, rfl, rfl, trivial⟩ (ih (t + 1) (y_nx ch t w) (by omega) (y_ok_nx hw hcj)).2)
    · refine q_iload dX6_send_22 rfl ?_
      refine q_aload_n dX6_send_24 rfl ?_
      refine q_getf dX6_send_25 fl_X6_23 (q_blk_get (j := 0) rfl) rfl ?_
      refine q_icmp_ge (tgt := 80) dX6_send_28 (by decide) (fun h_n => absurd h_n ((nI_ge (by omega) (by omega)))) (fun c_28 => ?_)
      refine q_iload dX6_send_31 rfl ?_
      refine q_aload_n dX6_send_33 rfl ?_
      refine q_getf dX6_send_34 fl_X6_19 (q_blk_get (j := 0) rfl) rfl ?_
      refine q_alen dX6_send_37 (q_blk_get (j := 2) rfl) rfl (v := 8) rfl ?_
      refine q_icmp_ge (tgt := 80) dX6_send_38 (by decide) (fun h_n => absurd h_n ((nI_ge (b := 8) (by omega) (by decide)))) (fun c_38 => ?_)
      refine q_aload_n dX6_send_41 rfl ?_
      refine q_aload_n dX6_send_42 rfl ?_
      refine q_getf dX6_send_43 fl_X6_19 (q_blk_get (j := 0) rfl) rfl ?_
      refine q_iload dX6_send_46 rfl ?_
      refine q_iald dX6_send_48 (q_blk_get (j := 2) rfl) (vp_in_nI (by omega) (by decide)) ?_
      rw [ec]
      refine q_cW (c_find_ok ho hcnt hcl hcj) dX6_send_49 kl_X6_55 rfl (q_blk_get (j := 0) rfl) rfl ⟨q_le rfl, q_le rfl⟩ (q_le rfl) (q_le rfl) (q_le rfl) ?_
      refine q_astore dX6_send_52 (q_le rfl) ?_
      refine q_aload dX6_send_54 rfl ?_
      refine q_ifnull dX6_send_56 ?_
      refine q_aload dX6_send_59 rfl ?_
      refine q_aload_n dX6_send_61 rfl ?_
      refine q_aload_n dX6_send_62 rfl ?_
      refine q_cPass (ja := 7) (jb := 5) (fr := w.2.2.1) (to := w.2.2.2.1) (m := w.2.1) (l := w.2.2.2.2) (e := (s_fill (S_by (w.1 (ch t).toNatClampNeg))).toNatClampNeg) (i := (ch t).toNatClampNeg) rfl rfl rfl (by decide) (by decide) (by decide) (hw.1 _ hcj).1 hw.2 he4 hfe dX6_send_63 kl_X6_232 rfl hcj ho ⟨q_le rfl, q_le rfl⟩ (q_le rfl) (q_le rfl) (q_le rfl) ?_
      refine q_aload_n dX6_send_66 rfl ?_
      refine q_astore dX6_send_67 (q_le rfl) ?_
      refine q_aload_n dX6_send_69 rfl ?_
      refine q_astore_n dX6_send_70 (q_le rfl) ?_
      refine q_aload dX6_send_71 rfl ?_
      refine q_astore_n dX6_send_73 (q_le rfl) ?_
      refine q_iinc dX6_send_74 rfl (v := nI (t + 1)) (nI_1 t) ?_
      refine q_goto (tgt := 22) dX6_send_77 (by decide) ?_
      exact q_zz (by simp only [y_go, y_ori, Bool.not_not]) (q_lo [(0, .ref o), (2, .ref (o + 5)), (3, .ref (o + 7)), (4, .int (nI (t + 1)))] ⟨rfl, rfl, rfl, rfl, trivial⟩ (ih (t + 1) (y_nx ch t w) (by omega) (y_ok_nx hw hcj)).1)

def y_fin (S : Nat → q_St) (ch : Nat → Int32) (cl : Nat) (r1 r2 : q_Rw) (x : Int32) : q_Y := y_go ch cl 0 (S, 1, upd r1.1 (0 : Int32).toNatClampNeg x, r2)
def y_row (cl : Nat) (w : q_Y) : q_Rw × q_Rw := (bif y_ori cl then (w.2.2.1, w.2.1) else w.2.2.2, bif y_ori cl then w.2.2.2 else (w.2.2.1, w.2.1))
def y_tape (w : q_Y) (t : q_T) : q_T := y_tp w.2.2.1 t w.2.1
set_option maxHeartbeats 4000000 in
set_option maxRecDepth 100000 in
theorem c_send {f : q_Hp} {n o b cnt : Nat} {S : Nat → q_St} {ch : Nat → Int32} {cl : Nat} {sam : Nat → Int32} {len lost : Int32} {r1 r2 : q_Rw} {x : Int32} (ho : o + 9 ≤ b) (hcnt : cnt ≤ 8) (hcl : cl ≤ 8) (hch : ∀ t : Nat, t < cl → (ch t).toNatClampNeg < cnt ∧ ch t = nI (ch t).toNatClampNeg) (hok : ∀ j : Nat, j < cnt → S_ok (S j) ∧ ∃ e : Nat, e ≤ 4 ∧ s_fill (S_by (S j)) = nI e) : Sp yX6_send uX6_send [.ref o, .int x] n (q_blk (stg f b cnt S) o (xE o cnt (xrf b cnt) ch cl sam len lost r1 r2)) (some (.int (nI (y_fin S ch cl r1 r2 x).2.1)), n, (q_blk (stg f b cnt ((y_fin S ch cl r1 r2 x).1)) o (xE o cnt (xrf b cnt) ch cl ((y_tape (y_fin S ch cl r1 r2 x) (sam, len, lost)).1) ((y_tape (y_fin S ch cl r1 r2 x) (sam, len, lost)).2.1) ((y_tape (y_fin S ch cl r1 r2 x) (sam, len, lost)).2.2) ((y_row cl (y_fin S ch cl r1 r2 x)).1) ((y_row cl (y_fin S ch cl r1 r2 x)).2)))) := by
  refine Sp.ofF (by decide +kernel) rfl rfl (q_le rfl) ?_
  intro G d
  refine q_aload_n dX6_send_0 rfl ?_
  refine q_getf dX6_send_1 fl_X6_36 (q_blk_get (j := 0) rfl) rfl ?_
  refine q_astore_n dX6_send_4 (q_le rfl) ?_
  refine q_aload_n dX6_send_5 rfl ?_
  refine q_getf dX6_send_6 fl_X6_40 (q_blk_get (j := 0) rfl) rfl ?_
  refine q_astore_n dX6_send_9 (q_le rfl) ?_
  refine q_aload_n dX6_send_10 rfl ?_
  refine q_cV (j := 5) (c_X3_clear) dX6_send_11 kl_X6_225 rfl rfl rfl rfl (q_le rfl) ⟨q_le rfl, q_le rfl⟩ (q_le rfl) (q_le rfl) (q_le rfl) ?_
  refine q_aload_n dX6_send_14 rfl ?_
  refine q_iload_n dX6_send_15 rfl ?_
  refine q_cV (j := 5) (c_X3_add (ln := 0) (Nat.zero_le _)) dX6_send_16 kl_X6_228 rfl rfl rfl rfl (q_le rfl) ⟨q_le rfl, q_le rfl⟩ (q_le rfl) (q_le rfl) (q_le rfl) ?_
  rw [show w_rm 0 = true from by decide]
  refine q_iconst dX6_send_19 (v := 0) (by decide) ?_
  refine q_istore dX6_send_20 (q_le rfl) ?_
  exact q_lo [(0, .ref o), (2, .ref (o + 5)), (3, .ref (o + 7)), (4, .int (nI 0))] ⟨rfl, rfl, rfl, rfl, trivial⟩ (lp_send ho hcnt hcl hch cl 0 (S, 1, upd r1.1 (0 : Int32).toNatClampNeg x, r2) (by omega) ⟨hok, q_le rfl⟩).1

set_option maxHeartbeats 4000000 in
set_option maxRecDepth 100000 in
theorem c_put_rng {f : q_Hp} {n o b cnt : Nat} {S : Nat → q_St} {ch : Nat → Int32} {cl : Nat} {sam : Nat → Int32} {len lost : Int32} {r1 r2 : q_Rw} {x : Int32} (ho : o + 9 ≤ b) (hcnt : cnt ≤ 8) (hcl : cl ≤ 8) (hx : x_in x (-32768) 32767 = false) : Sp yX6_put uX6_put [.ref o, .int x] n (q_blk (stg f b cnt S) o (xE o cnt (xrf b cnt) ch cl sam len lost r1 r2)) (some (.int (-2)), n, (q_blk (stg f b cnt S) o (xE o cnt (xrf b cnt) ch cl sam len lost r1 r2))) := by
  refine Sp.ofF (by decide +kernel) rfl rfl (q_le rfl) ?_
  intro G d
  refine q_iload_n dX6_put_0 rfl ?_
  refine q_cS (c_X6_isSample) dX6_put_1 kl_X6_145 rfl ⟨q_le rfl, q_le rfl⟩ (q_le rfl) (q_le rfl) (q_le rfl) ?_
  refine q_ifne_b (tgt := 10) dX6_put_4 (by decide) (fun h_n => absurd (h_n.symm.trans (hx)) (by decide)) (fun c_4 => ?_)
  refine q_bipush dX6_put_7 (v := (-2)) (by decide) ?_
  exact q_iret dX6_put_9 rfl (rfl) (q_le rfl) (q_le rfl)

set_option maxHeartbeats 4000000 in
set_option maxRecDepth 100000 in
theorem c_put_ok {f : q_Hp} {n o b cnt : Nat} {S : Nat → q_St} {ch : Nat → Int32} {cl : Nat} {sam : Nat → Int32} {len lost : Int32} {r1 r2 : q_Rw} {x : Int32} (ho : o + 9 ≤ b) (hcnt : cnt ≤ 8) (hcl : cl ≤ 8) (hx : x_in x (-32768) 32767 = true) (hch : ∀ t : Nat, t < cl → (ch t).toNatClampNeg < cnt ∧ ch t = nI (ch t).toNatClampNeg) (hok : ∀ j : Nat, j < cnt → S_ok (S j) ∧ ∃ e : Nat, e ≤ 4 ∧ s_fill (S_by (S j)) = nI e) : Sp yX6_put uX6_put [.ref o, .int x] n (q_blk (stg f b cnt S) o (xE o cnt (xrf b cnt) ch cl sam len lost r1 r2)) (some (.int (nI (y_fin S ch cl r1 r2 x).2.1)), n, (q_blk (stg f b cnt ((y_fin S ch cl r1 r2 x).1)) o (xE o cnt (xrf b cnt) ch cl ((y_tape (y_fin S ch cl r1 r2 x) (sam, len, lost)).1) ((y_tape (y_fin S ch cl r1 r2 x) (sam, len, lost)).2.1) ((y_tape (y_fin S ch cl r1 r2 x) (sam, len, lost)).2.2) ((y_row cl (y_fin S ch cl r1 r2 x)).1) ((y_row cl (y_fin S ch cl r1 r2 x)).2)))) := by
  refine Sp.ofF (by decide +kernel) rfl rfl (q_le rfl) ?_
  intro G d
  refine q_iload_n dX6_put_0 rfl ?_
  refine q_cS (c_X6_isSample) dX6_put_1 kl_X6_145 rfl ⟨q_le rfl, q_le rfl⟩ (q_le rfl) (q_le rfl) (q_le rfl) ?_
  refine q_ifne_b (tgt := 10) dX6_put_4 (by decide) (fun c_4 => ?_) (fun h_n => absurd (h_n.symm.trans (hx)) (by decide))
  refine q_aload_n dX6_put_10 rfl ?_
  refine q_iload_n dX6_put_11 rfl ?_
  refine q_cW (c_send ho hcnt hcl hch hok) dX6_put_12 kl_X6_148 rfl (q_blk_get (j := 0) rfl) rfl ⟨q_le rfl, q_le rfl⟩ (q_le rfl) (q_le rfl) (q_le rfl) ?_
  exact q_iret dX6_put_15 rfl (rfl) (q_le rfl) (q_le rfl)

