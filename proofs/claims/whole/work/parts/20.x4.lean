theorem q_up_same {f : q_Hp} {k : Nat} {e : q_E} (h : f k = some e) : q_up f k e = f := by
  funext q
  by_cases hq : q = k
  · subst hq
    rw [q_up_self, h]
  · rw [q_up_ne _ _ hq]
theorem q_up_blk (f : q_Hp) (p : Nat) (e : q_E) : q_up f p e = q_blk f p [e] := by
  funext q
  by_cases hq : q = p
  · subst hq
    rw [q_up_self]
    exact (q_blk_get (p := q) (j := 0) rfl).symm
  · rw [q_up_ne _ _ hq]
    exact (q_blk_out (by simp; omega)).symm
theorem q_cPass {G : q_G} {d : q_D} {u : q_M} {z : q_Z} {ce sl n pc : Nat} {ls : q_L} {st stk : List Value} {f : q_Hp} {b cnt o : Nat} {S : Nat → q_St} {i ja jb m e ix : Nat} {es : List q_E} {fr to : Nat → Int32} (hes : es.length = 7) (h1 : es[ja]? = some (.inl (0, 16, .inl fr))) (h2 : es[jb]? = some (.inl (0, 16, .inl to))) (hab : ja ≠ jb) (hS : S_ok (S i)) (hm : m ≤ 16) (he4 : e ≤ 4) (hf : s_fill (S_by (S i)) = nI e) (hd : decode u.1 pc = .ok (.invokevirtual ix, 3)) (hw : q_LV u.2.1 ix yX3_pass uX3_pass 3) (he : stk = [.ref (o + jb), .int (nI m), .ref (o + ja), .ref (b + 7 * i)] ++ st) (hi : i < cnt) (ho : o + 7 ≤ b) (hR : q_R uX3_pass u) (hce : ce + uX3_pass.2.2.2.1.cells ≤ u.2.2.2.1.cells) (hsl : sl + uX3_pass.2.2.2.1.slots ≤ u.2.2.2.1.slots) (hst : (st.map fun v => v.category).sum ≤ 8)
    (k : J G d u z (ce + uX3_pass.2.2.2.1.cells) (sl + uX3_pass.2.2.2.1.slots) n (pc + 3) ls (.int (nI (P_out fr e (S i, 0, to) m).2.1) :: st) (q_blk (stg f b cnt (va_up S i (P_out fr e (S i, 0, to) m).1)) o (es.set jb (.inl (0, 16, .inl (P_out fr e (S i, 0, to) m).2.2))))) : J G d u z ce sl n pc ls stk (q_blk (stg f b cnt S) o es) := by
  have ho' : o + es.length ≤ b := by omega
  have la : ja < 7 := by have := (List.getElem?_eq_some_iff.mp h1).1; omega
  have lb : jb < 7 := by have := (List.getElem?_eq_some_iff.mp h2).1; omega
  have hA : q_blk (stg f b cnt S) o es (o + ja) = some (.inl (0, 16, .inl fr)) := q_blk_get h1
  have hB : q_blk (stg f b cnt S) o es (o + jb) = some (.inl (0, 16, .inl to)) := q_blk_get h2
  have e1 : q_blk (stg f b cnt S) o es = q_blk (q_up (q_blk (stg f b cnt S) o es) (o + jb) (.inl (0, 16, .inl to))) (b + 7 * i) (stE (b + 7 * i) (S i)) := by
    rw [q_up_same hB]
    exact xw_view hi ho'
  have e2 : ∀ (X : q_St) (t2 : Nat → Int32), q_blk (q_up (q_blk (stg f b cnt S) o es) (o + jb) (.inl (0, 16, .inl t2))) (b + 7 * i) (stE (b + 7 * i) X) = q_blk (stg f b cnt (va_up S i X)) o (es.set jb (.inl (0, 16, .inl t2))) := by
    intro X t2
    rw [q_blk_up (by omega)]
    exact xw_set hi (by rw [List.length_set]; exact ho')
  obtain ⟨fs, hfs⟩ : ∃ fs, (stE (b + 7 * i) (S i))[0]? = some (.inr (3, fs)) := ⟨_, rfl⟩
  have hb' : q_blk (q_up (q_blk (stg f b cnt S) o es) (o + jb) (.inl (0, 16, .inl to))) (b + 7 * i) (stE (b + 7 * i) (S i)) (b + 7 * i) = some (.inr (3, fs)) := q_blk_get (p := b + 7 * i) (j := 0) hfs
  exact q_heap e1 (q_cW (c_X3_pass (fr := fr) (to := to) (e := e) hA (by omega) (by omega) (by omega) hS hm he4 hf) hd hw he hb' rfl hR hce hsl hst (q_heap (e2 _ _) k))
/-! a sample on its way: stages, how many, the row it stands in, the other row -/
abbrev q_Y : Type := (Nat → q_St) × Nat × (Nat → Int32) × (Nat → Int32)
def y_stp (ch : Nat → Int32) (t : Nat) (w : q_Y) : q_Om := P_out w.2.2.1 (s_fill (S_by (w.1 (ch t).toNatClampNeg))).toNatClampNeg (w.1 (ch t).toNatClampNeg, 0, w.2.2.2) w.2.1
def y_nx (ch : Nat → Int32) (t : Nat) (w : q_Y) : q_Y := (va_up w.1 (ch t).toNatClampNeg (y_stp ch t w).1, (y_stp ch t w).2.1, (y_stp ch t w).2.2, w.2.2.1)
def y_go (ch : Nat → Int32) : Nat → Nat → q_Y → q_Y
  | 0, _, w => w
  | k + 1, t, w => y_go ch k (t + 1) (y_nx ch t w)
def y_ori : Nat → Bool
  | 0 => true
  | k + 1 => !y_ori k
def y_ok (cnt : Nat) (w : q_Y) : Prop := (∀ j : Nat, j < cnt → S_ok (w.1 j) ∧ ∃ e : Nat, e ≤ 4 ∧ s_fill (S_by (w.1 j)) = nI e) ∧ w.2.1 ≤ 16
theorem P_in_by {x : Int32} {w0 : q_Om} : ∀ j : Nat, S_by (P_in x w0 j).1 = S_by w0.1
  | 0 => rfl
  | j + 1 => (show S_by (P_in x w0 (j + 1)).1 = S_by (P_in x w0 j).1 from rfl).trans (P_in_by j)
theorem P_out_by {fr : Nat → Int32} {e : Nat} {w0 : q_Om} : ∀ j : Nat, S_by (P_out fr e w0 j).1 = S_by w0.1
  | 0 => rfl
  | j + 1 => (P_in_by e).trans (P_out_by j)
theorem y_ok_nx {cnt : Nat} {ch : Nat → Int32} {t : Nat} {w : q_Y} (h : y_ok cnt w) (hc : (ch t).toNatClampNeg < cnt) : y_ok cnt (y_nx ch t w) := by
  obtain ⟨h1, h2⟩ := h
  have h3 := P_out_ok (fr := w.2.2.1) (e := (s_fill (S_by (w.1 (ch t).toNatClampNeg))).toNatClampNeg) (w0 := (w.1 (ch t).toNatClampNeg, 0, w.2.2.2)) ⟨(h1 _ hc).1, Nat.zero_le _⟩ w.2.1
  refine ⟨fun j hj => ?_, h3.2⟩
  show S_ok (va_up w.1 (ch t).toNatClampNeg (y_stp ch t w).1 j) ∧ _
  by_cases hjc : j = (ch t).toNatClampNeg
  · subst hjc
    show S_ok (va_up w.1 (ch t).toNatClampNeg (y_stp ch t w).1 (ch t).toNatClampNeg) ∧ ∃ e : Nat, e ≤ 4 ∧ s_fill (S_by (va_up w.1 (ch t).toNatClampNeg (y_stp ch t w).1 (ch t).toNatClampNeg)) = nI e
    rw [vu_self]
    refine ⟨h3.1, ?_⟩
    obtain ⟨e, e1, e2⟩ := (h1 _ hc).2
    exact ⟨e, e1, (congrArg s_fill (P_out_by _)).trans e2⟩
  · show S_ok (va_up w.1 (ch t).toNatClampNeg (y_stp ch t w).1 j) ∧ ∃ e : Nat, e ≤ 4 ∧ s_fill (S_by (va_up w.1 (ch t).toNatClampNeg (y_stp ch t w).1 j)) = nI e
    rw [show va_up w.1 (ch t).toNatClampNeg (y_stp ch t w).1 j = w.1 j from if_neg hjc]
    exact h1 j hj
/-! the tape -/
abbrev q_T : Type := (Nat → Int32) × Int32 × Int32
def y_add (x : Int32) (w : q_T) : q_T := (bif t_room w.2.1 then upd w.1 w.2.1.toNatClampNeg (vp_nar .short x.toInt16.toInt32) else w.1, bif t_room w.2.1 then w.2.1 + 1 else w.2.1, bif t_room w.2.1 then w.2.2 else w.2.2 + 1)
def y_tp (cur : Nat → Int32) (w : q_T) : Nat → q_T
  | 0 => w
  | i + 1 => y_add (cur (nI i).toNatClampNeg) (y_tp cur w i)
set_option maxHeartbeats 4000000 in
set_option maxRecDepth 100000 in
theorem lp_send_tpA {G : q_G} {d : q_D} {z : q_Z} {f : q_Hp} {n o b cnt : Nat} {S : Nat → q_St} {ch : Nat → Int32} {cl : Nat} {r1 r2 : Nat → Int32} {w : q_T} {m : Nat} (ho : o + 7 ≤ b) (hcnt : cnt ≤ 8) (hcl : cl ≤ 8) (hm : m ≤ 16) (hx : J G d uX5_send z 0 0 n 116 (q_l [(4, .int (nI m))]) [] (q_blk (stg f b cnt S) o (xE o cnt (xrf b cnt) ch cl ((y_tp r1 w m).1) ((y_tp r1 w m).2.1) ((y_tp r1 w m).2.2) r1 r2))) : ∀ (k i : Nat), i + k = m → J G d uX5_send z 0 0 n 85 (q_l [(0, .ref o), (2, .ref (o + 5)), (4, .int (nI m)), (5, .int (nI i))]) [] (q_blk (stg f b cnt S) o (xE o cnt (xrf b cnt) ch cl ((y_tp r1 w i).1) ((y_tp r1 w i).2.1) ((y_tp r1 w i).2.2) r1 r2)) := by
  intro k
  induction k with
  | zero =>
    intro i hi
    rw [show i = m by omega]
    refine q_iload dX5_send_85 rfl ?_
    refine q_iload dX5_send_87 rfl ?_
    refine q_icmp_ge (tgt := 116) dX5_send_89 (by decide) (fun c_89 => ?_) (fun h_n => absurd ((Int32.le_refl _)) h_n)
    exact q_lo [(4, .int (nI m))] ⟨rfl, trivial⟩ hx
  | succ k ih =>
    intro i hi
    refine q_iload dX5_send_85 rfl ?_
    refine q_iload dX5_send_87 rfl ?_
    refine q_icmp_ge (tgt := 116) dX5_send_89 (by decide) (fun h_n => absurd h_n ((nI_ge (by omega) (by omega)))) (fun c_89 => ?_)
    refine q_iload dX5_send_92 rfl ?_
    refine q_aload_n dX5_send_94 rfl ?_
    refine q_alen dX5_send_95 (q_blk_get (j := 5) rfl) rfl (v := 16) rfl ?_
    refine q_icmp_ge (tgt := 116) dX5_send_96 (by decide) (fun h_n => absurd h_n ((nI_ge (b := 16) (by omega) (by decide)))) (fun c_96 => ?_)
    refine q_aload_n dX5_send_99 rfl ?_
    refine q_getf dX5_send_100 fl_X5_29 (q_blk_get (j := 0) rfl) rfl ?_
    refine q_aload_n dX5_send_103 rfl ?_
    refine q_iload dX5_send_104 rfl ?_
    refine q_iald dX5_send_106 (q_blk_get (j := 5) rfl) (vp_in_nI (by omega) (by decide)) ?_
    refine q_cV (j := 3) (c_X4_add) dX5_send_107 kl_X5_225 rfl rfl rfl rfl (q_le rfl) ⟨q_le rfl, q_le rfl⟩ (q_le rfl) (q_le rfl) (q_le rfl) ?_
    refine q_iinc dX5_send_110 rfl (v := nI (i + 1)) (nI_1 i) ?_
    refine q_goto (tgt := 85) dX5_send_113 (by decide) ?_
    exact q_lo [(0, .ref o), (2, .ref (o + 5)), (4, .int (nI m)), (5, .int (nI (i + 1)))] ⟨rfl, rfl, rfl, rfl, trivial⟩ (ih (i + 1) (by omega))

set_option maxHeartbeats 4000000 in
set_option maxRecDepth 100000 in
theorem lp_send_tpB {G : q_G} {d : q_D} {z : q_Z} {f : q_Hp} {n o b cnt : Nat} {S : Nat → q_St} {ch : Nat → Int32} {cl : Nat} {r1 r2 : Nat → Int32} {w : q_T} {m : Nat} (ho : o + 7 ≤ b) (hcnt : cnt ≤ 8) (hcl : cl ≤ 8) (hm : m ≤ 16) (hx : J G d uX5_send z 0 0 n 116 (q_l [(4, .int (nI m))]) [] (q_blk (stg f b cnt S) o (xE o cnt (xrf b cnt) ch cl ((y_tp r2 w m).1) ((y_tp r2 w m).2.1) ((y_tp r2 w m).2.2) r1 r2))) : ∀ (k i : Nat), i + k = m → J G d uX5_send z 0 0 n 85 (q_l [(0, .ref o), (2, .ref (o + 6)), (4, .int (nI m)), (5, .int (nI i))]) [] (q_blk (stg f b cnt S) o (xE o cnt (xrf b cnt) ch cl ((y_tp r2 w i).1) ((y_tp r2 w i).2.1) ((y_tp r2 w i).2.2) r1 r2)) := by
  intro k
  induction k with
  | zero =>
    intro i hi
    rw [show i = m by omega]
    refine q_iload dX5_send_85 rfl ?_
    refine q_iload dX5_send_87 rfl ?_
    refine q_icmp_ge (tgt := 116) dX5_send_89 (by decide) (fun c_89 => ?_) (fun h_n => absurd ((Int32.le_refl _)) h_n)
    exact q_lo [(4, .int (nI m))] ⟨rfl, trivial⟩ hx
  | succ k ih =>
    intro i hi
    refine q_iload dX5_send_85 rfl ?_
    refine q_iload dX5_send_87 rfl ?_
    refine q_icmp_ge (tgt := 116) dX5_send_89 (by decide) (fun h_n => absurd h_n ((nI_ge (by omega) (by omega)))) (fun c_89 => ?_)
    refine q_iload dX5_send_92 rfl ?_
    refine q_aload_n dX5_send_94 rfl ?_
    refine q_alen dX5_send_95 (q_blk_get (j := 6) rfl) rfl (v := 16) rfl ?_
    refine q_icmp_ge (tgt := 116) dX5_send_96 (by decide) (fun h_n => absurd h_n ((nI_ge (b := 16) (by omega) (by decide)))) (fun c_96 => ?_)
    refine q_aload_n dX5_send_99 rfl ?_
    refine q_getf dX5_send_100 fl_X5_29 (q_blk_get (j := 0) rfl) rfl ?_
    refine q_aload_n dX5_send_103 rfl ?_
    refine q_iload dX5_send_104 rfl ?_
    refine q_iald dX5_send_106 (q_blk_get (j := 6) rfl) (vp_in_nI (by omega) (by decide)) ?_
    refine q_cV (j := 3) (c_X4_add) dX5_send_107 kl_X5_225 rfl rfl rfl rfl (q_le rfl) ⟨q_le rfl, q_le rfl⟩ (q_le rfl) (q_le rfl) (q_le rfl) ?_
    refine q_iinc dX5_send_110 rfl (v := nI (i + 1)) (nI_1 i) ?_
    refine q_goto (tgt := 85) dX5_send_113 (by decide) ?_
    exact q_lo [(0, .ref o), (2, .ref (o + 6)), (4, .int (nI m)), (5, .int (nI (i + 1)))] ⟨rfl, rfl, rfl, rfl, trivial⟩ (ih (i + 1) (by omega))

set_option maxHeartbeats 4000000 in
set_option maxRecDepth 100000 in
theorem lp_send {G : q_G} {d : q_D} {f : q_Hp} {n o b cnt : Nat} {ch : Nat → Int32} {cl : Nat} {sam : Nat → Int32} {len lost : Int32} (ho : o + 7 ≤ b) (hcnt : cnt ≤ 8) (hcl : cl ≤ 8) (hch : ∀ t : Nat, t < cl → (ch t).toNatClampNeg < cnt ∧ ch t = nI (ch t).toNatClampNeg) : ∀ (k t : Nat) (w : q_Y), t + k = cl → y_ok cnt w → J G d uX5_send (some (.int (nI (y_go ch k t w).2.1)), n, q_blk (stg f b cnt ((y_go ch k t w).1)) o (xE o cnt (xrf b cnt) ch cl ((y_tp (y_go ch k t w).2.2.1 (sam, len, lost) (y_go ch k t w).2.1).1) ((y_tp (y_go ch k t w).2.2.1 (sam, len, lost) (y_go ch k t w).2.1).2.1) ((y_tp (y_go ch k t w).2.2.1 (sam, len, lost) (y_go ch k t w).2.1).2.2) (bif y_ori k then (y_go ch k t w).2.2.1 else (y_go ch k t w).2.2.2) (bif y_ori k then (y_go ch k t w).2.2.2 else (y_go ch k t w).2.2.1))) 0 0 n 20 (q_l [(0, .ref o), (2, .ref (o + 5)), (3, .ref (o + 6)), (4, .int (nI w.2.1)), (5, .int (nI t))]) [] (q_blk (stg f b cnt w.1) o (xE o cnt (xrf b cnt) ch cl sam len lost w.2.2.1 w.2.2.2)) ∧ J G d uX5_send (some (.int (nI (y_go ch k t w).2.1)), n, q_blk (stg f b cnt ((y_go ch k t w).1)) o (xE o cnt (xrf b cnt) ch cl ((y_tp (y_go ch k t w).2.2.1 (sam, len, lost) (y_go ch k t w).2.1).1) ((y_tp (y_go ch k t w).2.2.1 (sam, len, lost) (y_go ch k t w).2.1).2.1) ((y_tp (y_go ch k t w).2.2.1 (sam, len, lost) (y_go ch k t w).2.1).2.2) (bif !y_ori k then (y_go ch k t w).2.2.1 else (y_go ch k t w).2.2.2) (bif !y_ori k then (y_go ch k t w).2.2.2 else (y_go ch k t w).2.2.1))) 0 0 n 20 (q_l [(0, .ref o), (2, .ref (o + 6)), (3, .ref (o + 5)), (4, .int (nI w.2.1)), (5, .int (nI t))]) [] (q_blk (stg f b cnt w.1) o (xE o cnt (xrf b cnt) ch cl sam len lost w.2.2.2 w.2.2.1)) := by
  intro k
  induction k with
  | zero =>
    intro t w hk hw
    rw [show t = cl by omega]
    refine ⟨?_, ?_⟩
    · refine q_iload dX5_send_20 rfl ?_
      refine q_aload_n dX5_send_22 rfl ?_
      refine q_getf dX5_send_23 fl_X5_23 (q_blk_get (j := 0) rfl) rfl ?_
      refine q_icmp_ge (tgt := 82) dX5_send_26 (by decide) (fun c_26 => ?_) (fun h_n => absurd ((Int32.le_refl _)) h_n)
      refine q_iconst dX5_send_82 (v := 0) (by decide) ?_
      refine q_istore dX5_send_83 (q_le rfl) ?_
      refine q_lo [(0, .ref o), (2, .ref (o + 5)), (4, .int (nI w.2.1)), (5, .int (nI 0))] ⟨rfl, rfl, rfl, rfl, trivial⟩ (lp_send_tpA (w := (sam, len, lost)) ho hcnt hcl hw.2 ?_ w.2.1 0 (by omega))
      refine q_iload dX5_send_116 rfl ?_
      exact q_iret dX5_send_118 rfl (rfl) (q_le rfl) (q_le rfl)
    · refine q_iload dX5_send_20 rfl ?_
      refine q_aload_n dX5_send_22 rfl ?_
      refine q_getf dX5_send_23 fl_X5_23 (q_blk_get (j := 0) rfl) rfl ?_
      refine q_icmp_ge (tgt := 82) dX5_send_26 (by decide) (fun c_26 => ?_) (fun h_n => absurd ((Int32.le_refl _)) h_n)
      refine q_iconst dX5_send_82 (v := 0) (by decide) ?_
      refine q_istore dX5_send_83 (q_le rfl) ?_
      refine q_lo [(0, .ref o), (2, .ref (o + 6)), (4, .int (nI w.2.1)), (5, .int (nI 0))] ⟨rfl, rfl, rfl, rfl, trivial⟩ (lp_send_tpB (w := (sam, len, lost)) ho hcnt hcl hw.2 ?_ w.2.1 0 (by omega))
      refine q_iload dX5_send_116 rfl ?_
      exact q_iret dX5_send_118 rfl (rfl) (q_le rfl) (q_le rfl)
  | succ k ih =>
    intro t w hk hw
    obtain ⟨hcj, ej⟩ := hch t (by omega)
    have ec : ch (nI t).toNatClampNeg = nI (ch t).toNatClampNeg := by rw [nI_clamp (by omega)]; exact ej
    obtain ⟨e0, he0, hf0⟩ := (hw.1 _ hcj).2
    have he4 : (s_fill (S_by (w.1 (ch t).toNatClampNeg))).toNatClampNeg ≤ 4 := by rw [hf0, nI_clamp (by omega)]; exact he0
    have hfe : s_fill (S_by (w.1 (ch t).toNatClampNeg)) = nI (s_fill (S_by (w.1 (ch t).toNatClampNeg))).toNatClampNeg := by rw [hf0, nI_clamp (by omega)]
    refine ⟨?_, ?_⟩
    · refine q_iload dX5_send_20 rfl ?_
      refine q_aload_n dX5_send_22 rfl ?_
      refine q_getf dX5_send_23 fl_X5_23 (q_blk_get (j := 0) rfl) rfl ?_
      refine q_icmp_ge (tgt := 82) dX5_send_26 (by decide) (fun h_n => absurd h_n ((nI_ge (by omega) (by omega)))) (fun c_26 => ?_)
      refine q_iload dX5_send_29 rfl ?_
      refine q_aload_n dX5_send_31 rfl ?_
      refine q_getf dX5_send_32 fl_X5_19 (q_blk_get (j := 0) rfl) rfl ?_
      refine q_alen dX5_send_35 (q_blk_get (j := 2) rfl) rfl (v := 8) rfl ?_
      refine q_icmp_ge (tgt := 82) dX5_send_36 (by decide) (fun h_n => absurd h_n ((nI_ge (b := 8) (by omega) (by decide)))) (fun c_36 => ?_)
      refine q_aload_n dX5_send_39 rfl ?_
      refine q_aload_n dX5_send_40 rfl ?_
      refine q_getf dX5_send_41 fl_X5_19 (q_blk_get (j := 0) rfl) rfl ?_
      refine q_iload dX5_send_44 rfl ?_
      refine q_iald dX5_send_46 (q_blk_get (j := 2) rfl) (vp_in_nI (by omega) (by decide)) ?_
      rw [ec]
      refine q_cW (c_find_ok ho hcnt hcl hcj) dX5_send_47 kl_X5_51 rfl (q_blk_get (j := 0) rfl) rfl ⟨q_le rfl, q_le rfl⟩ (q_le rfl) (q_le rfl) (q_le rfl) ?_
      refine q_astore dX5_send_50 (q_le rfl) ?_
      refine q_aload dX5_send_52 rfl ?_
      refine q_ifnull dX5_send_54 ?_
      refine q_aload dX5_send_57 rfl ?_
      refine q_aload_n dX5_send_59 rfl ?_
      refine q_iload dX5_send_60 rfl ?_
      refine q_aload_n dX5_send_62 rfl ?_
      refine q_cPass (ja := 5) (jb := 6) (fr := w.2.2.1) (to := w.2.2.2) (m := w.2.1) (e := (s_fill (S_by (w.1 (ch t).toNatClampNeg))).toNatClampNeg) (i := (ch t).toNatClampNeg) rfl rfl rfl (by decide) (hw.1 _ hcj).1 hw.2 he4 hfe dX5_send_63 kl_X5_221 rfl hcj ho ⟨q_le rfl, q_le rfl⟩ (q_le rfl) (q_le rfl) (q_le rfl) ?_
      refine q_istore dX5_send_66 (q_le rfl) ?_
      refine q_aload_n dX5_send_68 rfl ?_
      refine q_astore dX5_send_69 (q_le rfl) ?_
      refine q_aload_n dX5_send_71 rfl ?_
      refine q_astore_n dX5_send_72 (q_le rfl) ?_
      refine q_aload dX5_send_73 rfl ?_
      refine q_astore_n dX5_send_75 (q_le rfl) ?_
      refine q_iinc dX5_send_76 rfl (v := nI (t + 1)) (nI_1 t) ?_
      refine q_goto (tgt := 20) dX5_send_79 (by decide) ?_
      exact q_zz (by simp only [y_go, y_ori, Bool.not_not]) (q_lo [(0, .ref o), (2, .ref (o + 6)), (3, .ref (o + 5)), (4, .int (nI (y_nx ch t w).2.1)), (5, .int (nI (t + 1)))] ⟨rfl, rfl, rfl, rfl, rfl, trivial⟩ (ih (t + 1) (y_nx ch t w) (by omega) (y_ok_nx hw hcj)).2)
    · refine q_iload dX5_send_20 rfl ?_
      refine q_aload_n dX5_send_22 rfl ?_
      refine q_getf dX5_send_23 fl_X5_23 (q_blk_get (j := 0) rfl) rfl ?_
      refine q_icmp_ge (tgt := 82) dX5_send_26 (by decide) (fun h_n => absurd h_n ((nI_ge (by omega) (by omega)))) (fun c_26 => ?_)
      refine q_iload dX5_send_29 rfl ?_
      refine q_aload_n dX5_send_31 rfl ?_
      refine q_getf dX5_send_32 fl_X5_19 (q_blk_get (j := 0) rfl) rfl ?_
      refine q_alen dX5_send_35 (q_blk_get (j := 2) rfl) rfl (v := 8) rfl ?_
      refine q_icmp_ge (tgt := 82) dX5_send_36 (by decide) (fun h_n => absurd h_n ((nI_ge (b := 8) (by omega) (by decide)))) (fun c_36 => ?_)
      refine q_aload_n dX5_send_39 rfl ?_
      refine q_aload_n dX5_send_40 rfl ?_
      refine q_getf dX5_send_41 fl_X5_19 (q_blk_get (j := 0) rfl) rfl ?_
      refine q_iload dX5_send_44 rfl ?_
      refine q_iald dX5_send_46 (q_blk_get (j := 2) rfl) (vp_in_nI (by omega) (by decide)) ?_
      rw [ec]
      refine q_cW (c_find_ok ho hcnt hcl hcj) dX5_send_47 kl_X5_51 rfl (q_blk_get (j := 0) rfl) rfl ⟨q_le rfl, q_le rfl⟩ (q_le rfl) (q_le rfl) (q_le rfl) ?_
      refine q_astore dX5_send_50 (q_le rfl) ?_
      refine q_aload dX5_send_52 rfl ?_
      refine q_ifnull dX5_send_54 ?_
      refine q_aload dX5_send_57 rfl ?_
      refine q_aload_n dX5_send_59 rfl ?_
      refine q_iload dX5_send_60 rfl ?_
      refine q_aload_n dX5_send_62 rfl ?_
      refine q_cPass (ja := 6) (jb := 5) (fr := w.2.2.1) (to := w.2.2.2) (m := w.2.1) (e := (s_fill (S_by (w.1 (ch t).toNatClampNeg))).toNatClampNeg) (i := (ch t).toNatClampNeg) rfl rfl rfl (by decide) (hw.1 _ hcj).1 hw.2 he4 hfe dX5_send_63 kl_X5_221 rfl hcj ho ⟨q_le rfl, q_le rfl⟩ (q_le rfl) (q_le rfl) (q_le rfl) ?_
      refine q_istore dX5_send_66 (q_le rfl) ?_
      refine q_aload_n dX5_send_68 rfl ?_
      refine q_astore dX5_send_69 (q_le rfl) ?_
      refine q_aload_n dX5_send_71 rfl ?_
      refine q_astore_n dX5_send_72 (q_le rfl) ?_
      refine q_aload dX5_send_73 rfl ?_
      refine q_astore_n dX5_send_75 (q_le rfl) ?_
      refine q_iinc dX5_send_76 rfl (v := nI (t + 1)) (nI_1 t) ?_
      refine q_goto (tgt := 20) dX5_send_79 (by decide) ?_
      exact q_zz (by simp only [y_go, y_ori, Bool.not_not]) (q_lo [(0, .ref o), (2, .ref (o + 5)), (3, .ref (o + 6)), (4, .int (nI (y_nx ch t w).2.1)), (5, .int (nI (t + 1)))] ⟨rfl, rfl, rfl, rfl, rfl, trivial⟩ (ih (t + 1) (y_nx ch t w) (by omega) (y_ok_nx hw hcj)).1)

def y_fin (S : Nat → q_St) (ch : Nat → Int32) (cl : Nat) (r1 r2 : Nat → Int32) (x : Int32) : q_Y := y_go ch cl 0 (S, 1, upd r1 (0 : Int32).toNatClampNeg x, r2)
def y_row (cl : Nat) (w : q_Y) : (Nat → Int32) × (Nat → Int32) := (bif y_ori cl then w.2.2.1 else w.2.2.2, bif y_ori cl then w.2.2.2 else w.2.2.1)
def y_tape (w : q_Y) (t : q_T) : q_T := y_tp w.2.2.1 t w.2.1
set_option maxHeartbeats 4000000 in
set_option maxRecDepth 100000 in
theorem c_send {f : q_Hp} {n o b cnt : Nat} {S : Nat → q_St} {ch : Nat → Int32} {cl : Nat} {sam : Nat → Int32} {len lost : Int32} {r1 r2 : Nat → Int32} {x : Int32} (ho : o + 7 ≤ b) (hcnt : cnt ≤ 8) (hcl : cl ≤ 8) (hch : ∀ t : Nat, t < cl → (ch t).toNatClampNeg < cnt ∧ ch t = nI (ch t).toNatClampNeg) (hok : ∀ j : Nat, j < cnt → S_ok (S j) ∧ ∃ e : Nat, e ≤ 4 ∧ s_fill (S_by (S j)) = nI e) : Sp yX5_send uX5_send [.ref o, .int x] n (q_blk (stg f b cnt S) o (xE o cnt (xrf b cnt) ch cl sam len lost r1 r2)) (some (.int (nI (y_fin S ch cl r1 r2 x).2.1)), n, (q_blk (stg f b cnt ((y_fin S ch cl r1 r2 x).1)) o (xE o cnt (xrf b cnt) ch cl ((y_tape (y_fin S ch cl r1 r2 x) (sam, len, lost)).1) ((y_tape (y_fin S ch cl r1 r2 x) (sam, len, lost)).2.1) ((y_tape (y_fin S ch cl r1 r2 x) (sam, len, lost)).2.2) ((y_row cl (y_fin S ch cl r1 r2 x)).1) ((y_row cl (y_fin S ch cl r1 r2 x)).2)))) := by
  refine Sp.ofF (by decide +kernel) rfl rfl (q_le rfl) ?_
  intro G d
  refine q_aload_n dX5_send_0 rfl ?_
  refine q_getf dX5_send_1 fl_X5_33 (q_blk_get (j := 0) rfl) rfl ?_
  refine q_astore_n dX5_send_4 (q_le rfl) ?_
  refine q_aload_n dX5_send_5 rfl ?_
  refine q_getf dX5_send_6 fl_X5_36 (q_blk_get (j := 0) rfl) rfl ?_
  refine q_astore_n dX5_send_9 (q_le rfl) ?_
  refine q_aload_n dX5_send_10 rfl ?_
  refine q_iconst dX5_send_11 (v := 0) (by decide) ?_
  refine q_iload_n dX5_send_12 rfl ?_
  refine q_iast dX5_send_13 (q_blk_get (j := 5) rfl) (vp_in_nI (n := 0) (by decide) (by decide)) ?_
  refine q_heap (q_blk_up (j := 5) (q_le rfl)) ?_
  refine q_iconst dX5_send_14 (v := 1) (by decide) ?_
  refine q_istore dX5_send_15 (q_le rfl) ?_
  refine q_iconst dX5_send_17 (v := 0) (by decide) ?_
  refine q_istore dX5_send_18 (q_le rfl) ?_
  exact q_lo [(0, .ref o), (2, .ref (o + 5)), (3, .ref (o + 6)), (4, .int (nI (S, 1, upd r1 (0 : Int32).toNatClampNeg x, r2).2.1)), (5, .int (nI 0))] ⟨rfl, rfl, rfl, rfl, rfl, trivial⟩ (lp_send ho hcnt hcl hch cl 0 (S, 1, upd r1 (0 : Int32).toNatClampNeg x, r2) (by omega) ⟨hok, q_le rfl⟩).1

set_option maxHeartbeats 4000000 in
set_option maxRecDepth 100000 in
theorem c_put_rng {f : q_Hp} {n o b cnt : Nat} {S : Nat → q_St} {ch : Nat → Int32} {cl : Nat} {sam : Nat → Int32} {len lost : Int32} {r1 r2 : Nat → Int32} {x : Int32} (ho : o + 7 ≤ b) (hcnt : cnt ≤ 8) (hcl : cl ≤ 8) (hx : x_in x (-32768) 32767 = false) : Sp yX5_put uX5_put [.ref o, .int x] n (q_blk (stg f b cnt S) o (xE o cnt (xrf b cnt) ch cl sam len lost r1 r2)) (some (.int (-2)), n, (q_blk (stg f b cnt S) o (xE o cnt (xrf b cnt) ch cl sam len lost r1 r2))) := by
  refine Sp.ofF (by decide +kernel) rfl rfl (q_le rfl) ?_
  intro G d
  refine q_iload_n dX5_put_0 rfl ?_
  refine q_cS (c_X5_isSample) dX5_put_1 kl_X5_141 rfl ⟨q_le rfl, q_le rfl⟩ (q_le rfl) (q_le rfl) (q_le rfl) ?_
  refine q_ifne_b (tgt := 10) dX5_put_4 (by decide) (fun h_n => absurd (h_n.symm.trans (hx)) (by decide)) (fun c_4 => ?_)
  refine q_bipush dX5_put_7 (v := (-2)) (by decide) ?_
  exact q_iret dX5_put_9 rfl (rfl) (q_le rfl) (q_le rfl)

set_option maxHeartbeats 4000000 in
set_option maxRecDepth 100000 in
theorem c_put_ok {f : q_Hp} {n o b cnt : Nat} {S : Nat → q_St} {ch : Nat → Int32} {cl : Nat} {sam : Nat → Int32} {len lost : Int32} {r1 r2 : Nat → Int32} {x : Int32} (ho : o + 7 ≤ b) (hcnt : cnt ≤ 8) (hcl : cl ≤ 8) (hx : x_in x (-32768) 32767 = true) (hch : ∀ t : Nat, t < cl → (ch t).toNatClampNeg < cnt ∧ ch t = nI (ch t).toNatClampNeg) (hok : ∀ j : Nat, j < cnt → S_ok (S j) ∧ ∃ e : Nat, e ≤ 4 ∧ s_fill (S_by (S j)) = nI e) : Sp yX5_put uX5_put [.ref o, .int x] n (q_blk (stg f b cnt S) o (xE o cnt (xrf b cnt) ch cl sam len lost r1 r2)) (some (.int (nI (y_fin S ch cl r1 r2 x).2.1)), n, (q_blk (stg f b cnt ((y_fin S ch cl r1 r2 x).1)) o (xE o cnt (xrf b cnt) ch cl ((y_tape (y_fin S ch cl r1 r2 x) (sam, len, lost)).1) ((y_tape (y_fin S ch cl r1 r2 x) (sam, len, lost)).2.1) ((y_tape (y_fin S ch cl r1 r2 x) (sam, len, lost)).2.2) ((y_row cl (y_fin S ch cl r1 r2 x)).1) ((y_row cl (y_fin S ch cl r1 r2 x)).2)))) := by
  refine Sp.ofF (by decide +kernel) rfl rfl (q_le rfl) ?_
  intro G d
  refine q_iload_n dX5_put_0 rfl ?_
  refine q_cS (c_X5_isSample) dX5_put_1 kl_X5_141 rfl ⟨q_le rfl, q_le rfl⟩ (q_le rfl) (q_le rfl) (q_le rfl) ?_
  refine q_ifne_b (tgt := 10) dX5_put_4 (by decide) (fun c_4 => ?_) (fun h_n => absurd (h_n.symm.trans (hx)) (by decide))
  refine q_aload_n dX5_put_10 rfl ?_
  refine q_iload_n dX5_put_11 rfl ?_
  refine q_cW (c_send ho hcnt hcl hch hok) dX5_put_12 kl_X5_144 rfl (q_blk_get (j := 0) rfl) rfl ⟨q_le rfl, q_le rfl⟩ (q_le rfl) (q_le rfl) (q_le rfl) ?_
  exact q_iret dX5_put_15 rfl (rfl) (q_le rfl) (q_le rfl)

