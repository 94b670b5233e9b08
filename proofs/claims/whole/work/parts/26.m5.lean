/-! a sample on its way in the reference: what samples change, how many, inRow, outRow -/
abbrev q_Yg : Type := q_Dy × Nat × (Nat → Int32) × (Nat → Int32)
def m_cp (ir ow : Nat → Int32) : Nat → Nat → Int32
  | 0 => ir
  | i + 1 => upd (m_cp ir ow i) i (ow i)
def g_stp (tc ta wa wr sh fa : Nat → Int32) (by_ ch : Nat → Int32) (t : Nat) (w : q_Yg) : q_Og := G_out tc ta wa wr sh fa (ch t).toNatClampNeg (m_thin (by_ (ch t).toNatClampNeg)) (s_fill (by_ (ch t).toNatClampNeg)).toNatClampNeg w.2.2.1 (w.1, 0, w.2.2.2) w.2.1
def g_nx (tc ta wa wr sh fa : Nat → Int32) (by_ ch : Nat → Int32) (t : Nat) (w : q_Yg) : q_Yg := ((g_stp tc ta wa wr sh fa by_ ch t w).1, (g_stp tc ta wa wr sh fa by_ ch t w).2.1, m_cp w.2.2.1 (g_stp tc ta wa wr sh fa by_ ch t w).2.2 (g_stp tc ta wa wr sh fa by_ ch t w).2.1, (g_stp tc ta wa wr sh fa by_ ch t w).2.2)
def g_go (tc ta wa wr sh fa : Nat → Int32) (by_ ch : Nat → Int32) : Nat → Nat → q_Yg → q_Yg
  | 0, _, w => w
  | k + 1, t, w => g_go tc ta wa wr sh fa by_ ch k (t + 1) (g_nx tc ta wa wr sh fa by_ ch t w)
abbrev q_Tg : Type := (Nat → Int32) × Nat × Int32
def g_add (x : Int32) (w : q_Tg) : q_Tg := if (600 : Int32) ≤ nI w.2.1 then (w.1, w.2.1, w.2.2 + 1) else (upd w.1 w.2.1 x, w.2.1 + 1, w.2.2)
def g_tp (cur : Nat → Int32) (w : q_Tg) : Nat → q_Tg
  | 0 => w
  | i + 1 => g_add (cur i) (g_tp cur w i)
theorem g_add_le {x : Int32} {w : q_Tg} (h : w.2.1 ≤ 600) : (g_add x w).2.1 ≤ 600 := by
  unfold g_add
  split
  · exact h
  · rename_i h1
    show w.2.1 + 1 ≤ 600
    rcases Nat.lt_or_ge w.2.1 600 with h2 | h2
    · omega
    · exact absurd (nI_le (a := 600) h2 (by omega)) h1
theorem g_tp_le {cur : Nat → Int32} {w : q_Tg} (h : w.2.1 ≤ 600) : ∀ i : Nat, (g_tp cur w i).2.1 ≤ 600
  | 0 => h
  | i + 1 => g_add_le (g_tp_le h i)
set_option maxHeartbeats 4000000 in
set_option maxRecDepth 100000 in
theorem lp_m_tape {G : q_G} {d : q_D} {z : q_Z} {f : q_Hp} {n o cnt cl : Nat} {be by_ tc ta wa wr pl bi wo sh fa ch ir ow : Nat → Int32} {w : q_Dy} {w1 : q_Tg} {m : Nat} (hm : m ≤ 16) (hw : w1.2.1 ≤ 600) (hx : J G d uX7_puts z 0 0 n 127 (q_l [(2, .int (nI m))]) [] (q_blk f o (mD o cnt cl ((g_tp ir w1 m).2.1) ((g_tp ir w1 m).2.2) be by_ tc ta wa wr pl bi wo sh fa ch ((g_tp ir w1 m).1) ir ow w))) : ∀ (k i : Nat), i + k = m → J G d uX7_puts z 0 0 n 68 (q_l [(0, .ref o), (2, .int (nI m)), (3, .int (nI i))]) [] (q_blk f o (mD o cnt cl ((g_tp ir w1 i).2.1) ((g_tp ir w1 i).2.2) be by_ tc ta wa wr pl bi wo sh fa ch ((g_tp ir w1 i).1) ir ow w)) := by
  intro k
  induction k with
  | zero =>
    intro i hi
    rw [show i = m by omega]
    refine q_iload_n dX7_puts_68 rfl ?_
    refine q_iload_n dX7_puts_69 rfl ?_
    refine q_icmp_ge (tgt := 127) dX7_puts_70 (by decide) (fun c_70 => ?_) (fun h_n => absurd ((Int32.le_refl _)) h_n)
    exact q_lo [(2, .int (nI m))] ⟨rfl, trivial⟩ hx
  | succ k ih =>
    intro i hi
    refine q_iload_n dX7_puts_68 rfl ?_
    refine q_iload_n dX7_puts_69 rfl ?_
    refine q_icmp_ge (tgt := 127) dX7_puts_70 (by decide) (fun h_n => absurd h_n ((nI_ge (by omega) (by omega)))) (fun c_70 => ?_)
    refine q_aload_n dX7_puts_73 rfl ?_
    refine q_getf dX7_puts_74 fl_X7_201 (q_blk_get (j := 0) rfl) rfl ?_
    refine q_sipush dX7_puts_77 (v := 600) (by decide) ?_
    refine q_icmp_ge (tgt := 111) dX7_puts_80 (by decide) (fun c_80 => ?_) (fun c_80 => ?_)
    · refine q_aload_n dX7_puts_111 rfl ?_
      refine q_dup dX7_puts_112 rfl ?_
      refine q_getf dX7_puts_113 fl_X7_204 (q_blk_get (j := 0) rfl) rfl ?_
      refine q_iconst dX7_puts_116 (v := 1) (by decide) ?_
      refine q_iadd dX7_puts_117 ?_
      refine q_putf dX7_puts_118 pl_X7_204 (q_blk_get (j := 0) rfl) (q_le rfl) rfl rfl ?_
      refine q_heap (q_blk_up (j := 0) (q_le rfl)) ?_
      refine q_iinc dX7_puts_121 rfl (v := nI (i + 1)) (nI_1 i) ?_
      refine q_goto (tgt := 68) dX7_puts_124 (by decide) ?_
      have hP : (g_tp ir w1 (i + 1)) = ((g_tp ir w1 i).1, (g_tp ir w1 i).2.1, (g_tp ir w1 i).2.2 + 1) := by
        show g_add (ir i) (g_tp ir w1 i) = _
        unfold g_add
        rw [if_pos c_80]
      have hI := ih (i + 1) (by omega)
      rw [hP] at hI
      refine q_heap (show _ = q_blk f o (mD o cnt cl (((g_tp ir w1 i).1, (g_tp ir w1 i).2.1, (g_tp ir w1 i).2.2 + 1).2.1) (((g_tp ir w1 i).1, (g_tp ir w1 i).2.1, (g_tp ir w1 i).2.2 + 1).2.2) be by_ tc ta wa wr pl bi wo sh fa ch (((g_tp ir w1 i).1, (g_tp ir w1 i).2.1, (g_tp ir w1 i).2.2 + 1).1) ir ow w) from rfl) ?_
      exact q_lo [(0, .ref o), (2, .int (nI m)), (3, .int (nI (i + 1)))] ⟨rfl, rfl, rfl, trivial⟩ hI
    · refine q_aload_n dX7_puts_83 rfl ?_
      refine q_getf dX7_puts_84 fl_X7_84 (q_blk_get (j := 0) rfl) rfl ?_
      refine q_aload_n dX7_puts_87 rfl ?_
      refine q_getf dX7_puts_88 fl_X7_201 (q_blk_get (j := 0) rfl) rfl ?_
      refine q_aload_n dX7_puts_91 rfl ?_
      refine q_getf dX7_puts_92 fl_X7_87 (q_blk_get (j := 0) rfl) rfl ?_
      refine q_iload_n dX7_puts_95 rfl ?_
      refine q_ialdN dX7_puts_96 (q_blk_get (j := 26) rfl) (k := i) rfl (by omega) (by decide) ?_
      refine q_iastN dX7_puts_97 (q_blk_get (j := 25) rfl) (k := (g_tp ir w1 i).2.1) rfl (by rcases Nat.lt_or_ge (g_tp ir w1 i).2.1 600 with h | h; exact h; exact absurd (nI_le (a := 600) h (by have := g_tp_le (cur := ir) hw i; omega)) c_80) (by decide) ?_
      refine q_heap (q_blk_up (j := 25) (q_le rfl)) ?_
      refine q_aload_n dX7_puts_98 rfl ?_
      refine q_dup dX7_puts_99 rfl ?_
      refine q_getf dX7_puts_100 fl_X7_201 (q_blk_get (j := 0) rfl) rfl ?_
      refine q_iconst dX7_puts_103 (v := 1) (by decide) ?_
      refine q_iadd dX7_puts_104 ?_
      refine q_stk (show _ = [Value.int (nI ((g_tp ir w1 i).2.1 + 1)), Value.ref o] from by rw [nI_1]) ?_
      refine q_putf dX7_puts_105 pl_X7_201 (q_blk_get (j := 0) rfl) (q_le rfl) rfl rfl ?_
      refine q_heap (q_blk_up (j := 0) (q_le rfl)) ?_
      refine q_goto (tgt := 121) dX7_puts_108 (by decide) ?_
      refine q_iinc dX7_puts_121 rfl (v := nI (i + 1)) (nI_1 i) ?_
      refine q_goto (tgt := 68) dX7_puts_124 (by decide) ?_
      have hP : (g_tp ir w1 (i + 1)) = (upd (g_tp ir w1 i).1 (g_tp ir w1 i).2.1 (ir i), (g_tp ir w1 i).2.1 + 1, (g_tp ir w1 i).2.2) := by
        show g_add (ir i) (g_tp ir w1 i) = _
        unfold g_add
        rw [if_neg c_80]
      have hI := ih (i + 1) (by omega)
      rw [hP] at hI
      refine q_heap (show _ = q_blk f o (mD o cnt cl ((upd (g_tp ir w1 i).1 (g_tp ir w1 i).2.1 (ir i), (g_tp ir w1 i).2.1 + 1, (g_tp ir w1 i).2.2).2.1) ((upd (g_tp ir w1 i).1 (g_tp ir w1 i).2.1 (ir i), (g_tp ir w1 i).2.1 + 1, (g_tp ir w1 i).2.2).2.2) be by_ tc ta wa wr pl bi wo sh fa ch ((upd (g_tp ir w1 i).1 (g_tp ir w1 i).2.1 (ir i), (g_tp ir w1 i).2.1 + 1, (g_tp ir w1 i).2.2).1) ir ow w) from rfl) ?_
      exact q_lo [(0, .ref o), (2, .int (nI m)), (3, .int (nI (i + 1)))] ⟨rfl, rfl, rfl, trivial⟩ hI

set_option maxHeartbeats 4000000 in
set_option maxRecDepth 100000 in
theorem lp_m_cp {G : q_G} {d : q_D} {z : q_Z} {f : q_Hp} {n o cnt cl tn : Nat} {lost : Int32} {be by_ tc ta wa wr pl bi wo sh fa ch tp ir ow : Nat → Int32} {w : q_Dy} {m t : Nat} (hm : m ≤ 16) (hx : J G d uX7_puts z 0 0 n 60 (q_l [(0, .ref o), (2, .int (nI m)), (3, .int (nI t))]) [] (q_blk f o (mD o cnt cl tn lost be by_ tc ta wa wr pl bi wo sh fa ch tp (m_cp ir ow m) ow w))) : ∀ (k i : Nat), i + k = m → J G d uX7_puts z 0 0 n 34 (q_l [(0, .ref o), (2, .int (nI m)), (3, .int (nI t)), (4, .int (nI i))]) [] (q_blk f o (mD o cnt cl tn lost be by_ tc ta wa wr pl bi wo sh fa ch tp (m_cp ir ow i) ow w)) := by
  intro k
  induction k with
  | zero =>
    intro i hi
    rw [show i = m by omega]
    refine q_iload dX7_puts_34 rfl ?_
    refine q_iload_n dX7_puts_36 rfl ?_
    refine q_icmp_ge (tgt := 60) dX7_puts_37 (by decide) (fun c_37 => ?_) (fun h_n => absurd ((Int32.le_refl _)) h_n)
    exact q_lo [(0, .ref o), (2, .int (nI m)), (3, .int (nI t))] ⟨rfl, rfl, rfl, trivial⟩ hx
  | succ k ih =>
    intro i hi
    refine q_iload dX7_puts_34 rfl ?_
    refine q_iload_n dX7_puts_36 rfl ?_
    refine q_icmp_ge (tgt := 60) dX7_puts_37 (by decide) (fun h_n => absurd h_n ((nI_ge (by omega) (by omega)))) (fun c_37 => ?_)
    refine q_aload_n dX7_puts_40 rfl ?_
    refine q_getf dX7_puts_41 fl_X7_87 (q_blk_get (j := 0) rfl) rfl ?_
    refine q_iload dX7_puts_44 rfl ?_
    refine q_aload_n dX7_puts_46 rfl ?_
    refine q_getf dX7_puts_47 fl_X7_90 (q_blk_get (j := 0) rfl) rfl ?_
    refine q_iload dX7_puts_50 rfl ?_
    refine q_ialdN dX7_puts_52 (q_blk_get (j := 27) rfl) (k := i) rfl (by omega) (by decide) ?_
    refine q_iastN dX7_puts_53 (q_blk_get (j := 26) rfl) (k := i) rfl (by omega) (by decide) ?_
    refine q_heap (q_blk_up (j := 26) (q_le rfl)) ?_
    refine q_iinc dX7_puts_54 rfl (v := nI (i + 1)) (nI_1 i) ?_
    refine q_goto (tgt := 34) dX7_puts_57 (by decide) ?_
    exact q_lo [(0, .ref o), (2, .int (nI m)), (3, .int (nI t)), (4, .int (nI (i + 1)))] ⟨rfl, rfl, rfl, rfl, trivial⟩ (ih (i + 1) (by omega))

set_option maxHeartbeats 4000000 in
set_option maxRecDepth 100000 in
theorem lp_m_puts {G : q_G} {d : q_D} {f : q_Hp} {n o cnt cl tn : Nat} {lost : Int32} {be by_ tc ta wa wr pl bi wo sh fa ch tp : Nat → Int32} (hcnt : cnt ≤ 8) (hcl : cl ≤ 8) (htn : tn ≤ 600) (hch : ∀ t : Nat, t < cl → (ch t).toNatClampNeg < cnt ∧ ch t = nI (ch t).toNatClampNeg) (hst : ∀ j : Nat, j < cnt → D_ok tc sh j ∧ ∃ e : Nat, e ≤ 4 ∧ s_fill (by_ j) = nI e) : ∀ (k t : Nat) (w : q_Yg), t + k = cl → (∀ k2 : Nat, k2 ≤ k → (g_go tc ta wa wr sh fa by_ ch k2 t w).2.1 ≤ 16) → J G d uX7_puts (some (.int (nI (g_go tc ta wa wr sh fa by_ ch k t w).2.1)), n, q_blk f o (mD o cnt cl ((g_tp (g_go tc ta wa wr sh fa by_ ch k t w).2.2.1 (tp, tn, lost) (g_go tc ta wa wr sh fa by_ ch k t w).2.1).2.1) ((g_tp (g_go tc ta wa wr sh fa by_ ch k t w).2.2.1 (tp, tn, lost) (g_go tc ta wa wr sh fa by_ ch k t w).2.1).2.2) be by_ tc ta wa wr pl bi wo sh fa ch ((g_tp (g_go tc ta wa wr sh fa by_ ch k t w).2.2.1 (tp, tn, lost) (g_go tc ta wa wr sh fa by_ ch k t w).2.1).1) ((g_go tc ta wa wr sh fa by_ ch k t w).2.2.1) ((g_go tc ta wa wr sh fa by_ ch k t w).2.2.2) (g_go tc ta wa wr sh fa by_ ch k t w).1)) 0 0 n 11 (q_l [(0, .ref o), (2, .int (nI w.2.1)), (3, .int (nI t))]) [] (q_blk f o (mD o cnt cl tn lost be by_ tc ta wa wr pl bi wo sh fa ch tp w.2.2.1 w.2.2.2 w.1)) := by
  intro k
  induction k with
  | zero =>
    intro t w hk h16
    rw [show t = cl by omega]
    refine q_iload_n dX7_puts_11 rfl ?_
    refine q_aload_n dX7_puts_12 rfl ?_
    refine q_getf dX7_puts_13 fl_X7_109 (q_blk_get (j := 0) rfl) rfl ?_
    refine q_icmp_ge (tgt := 66) dX7_puts_16 (by decide) (fun c_16 => ?_) (fun h_n => absurd ((Int32.le_refl _)) h_n)
    refine q_iconst dX7_puts_66 (v := 0) (by decide) ?_
    refine q_istore_n dX7_puts_67 (q_le rfl) ?_
    refine q_lo [(0, .ref o), (2, .int (nI w.2.1)), (3, .int (nI 0))] ⟨rfl, rfl, rfl, trivial⟩ (lp_m_tape (m := w.2.1) (w1 := (tp, tn, lost)) (h16 0 (by omega)) htn ?_ w.2.1 0 (by omega))
    refine q_iload_n dX7_puts_127 rfl ?_
    exact q_iret dX7_puts_128 rfl (rfl) (q_le rfl) (q_le rfl)
  | succ k ih =>
    intro t w hk h16
    obtain ⟨hcj, ej⟩ := hch t (by omega)
    obtain ⟨hD, e0, he0, hf0⟩ := hst _ hcj
    have he4 : (s_fill (by_ (ch t).toNatClampNeg)).toNatClampNeg ≤ 4 := by rw [hf0, nI_clamp (by omega)]; exact he0
    have hfe : s_fill (by_ (ch t).toNatClampNeg) = nI (s_fill (by_ (ch t).toNatClampNeg)).toNatClampNeg := by rw [hf0, nI_clamp (by omega)]
    refine q_iload_n dX7_puts_11 rfl ?_
    refine q_aload_n dX7_puts_12 rfl ?_
    refine q_getf dX7_puts_13 fl_X7_109 (q_blk_get (j := 0) rfl) rfl ?_
    refine q_icmp_ge (tgt := 66) dX7_puts_16 (by decide) (fun h_n => absurd h_n ((nI_ge (by omega) (by omega)))) (fun c_16 => ?_)
    refine q_aload_n dX7_puts_19 rfl ?_
    refine q_aload_n dX7_puts_20 rfl ?_
    refine q_getf dX7_puts_21 fl_X7_81 (q_blk_get (j := 0) rfl) rfl ?_
    refine q_iload_n dX7_puts_24 rfl ?_
    refine q_ialdN dX7_puts_25 (q_blk_get (j := 24) rfl) (k := t) rfl (by omega) (by decide) ?_
    rw [ej]
    refine q_iload_n dX7_puts_26 rfl ?_
    refine q_cW (m_goes (e := (s_fill (by_ (ch t).toNatClampNeg)).toNatClampNeg) hcnt hcj hD (h16 0 (by omega)) he4 hfe) dX7_puts_27 kl_X7_198 rfl (q_blk_get (j := 0) rfl) rfl ⟨q_le rfl, q_le rfl⟩ (q_le rfl) (q_le rfl) (q_le rfl) ?_
    refine q_istore_n dX7_puts_30 (q_le rfl) ?_
    refine q_iconst dX7_puts_31 (v := 0) (by decide) ?_
    refine q_istore dX7_puts_32 (q_le rfl) ?_
    refine q_lo [(0, .ref o), (2, .int (nI (g_nx tc ta wa wr sh fa by_ ch t w).2.1)), (3, .int (nI t)), (4, .int (nI 0))] ⟨rfl, rfl, rfl, rfl, trivial⟩ (lp_m_cp (m := (g_nx tc ta wa wr sh fa by_ ch t w).2.1) (h16 1 (by omega)) ?_ (g_nx tc ta wa wr sh fa by_ ch t w).2.1 0 (by omega))
    refine q_iinc dX7_puts_60 rfl (v := nI (t + 1)) (nI_1 t) ?_
    refine q_goto (tgt := 11) dX7_puts_63 (by decide) ?_
    exact q_zz (by rfl) (q_lo [(0, .ref o), (2, .int (nI (g_nx tc ta wa wr sh fa by_ ch t w).2.1)), (3, .int (nI (t + 1)))] ⟨rfl, rfl, rfl, trivial⟩ (ih (t + 1) (g_nx tc ta wa wr sh fa by_ ch t w) (by omega) (fun k2 hk2 => h16 (k2 + 1) (by omega))))

def g_fin (tc ta wa wr sh fa : Nat → Int32) (by_ ch : Nat → Int32) (cl : Nat) (D : q_Dy) (ir ow : Nat → Int32) (x : Int32) : q_Yg := g_go tc ta wa wr sh fa by_ ch cl 0 (D, 1, upd ir 0 x, ow)
def g_tape (w : q_Yg) (t : q_Tg) : q_Tg := g_tp w.2.2.1 t w.2.1
def g_16 (tc ta wa wr sh fa : Nat → Int32) (by_ ch : Nat → Int32) (cl : Nat) (D : q_Dy) (ir ow : Nat → Int32) (x : Int32) : Prop := ∀ k2 : Nat, k2 ≤ cl → (g_go tc ta wa wr sh fa by_ ch k2 0 (D, 1, upd ir 0 x, ow)).2.1 ≤ 16
set_option maxHeartbeats 4000000 in
set_option maxRecDepth 100000 in
theorem m_puts {f : q_Hp} {n o cnt cl tn : Nat} {lost : Int32} {be by_ tc ta wa wr pl bi wo sh fa ch tp ir ow : Nat → Int32} {w : q_Dy} {x : Int32} (hcnt : cnt ≤ 8) (hcl : cl ≤ 8) (htn : tn ≤ 600) (hch : ∀ t : Nat, t < cl → (ch t).toNatClampNeg < cnt ∧ ch t = nI (ch t).toNatClampNeg) (hst : ∀ j : Nat, j < cnt → D_ok tc sh j ∧ ∃ e : Nat, e ≤ 4 ∧ s_fill (by_ j) = nI e) (h16 : g_16 tc ta wa wr sh fa by_ ch cl w ir ow x) : Sp yX7_puts uX7_puts [.ref o, .int x] n (q_blk f o (mD o cnt cl tn lost be by_ tc ta wa wr pl bi wo sh fa ch tp ir ow w)) (some (.int (nI (g_fin tc ta wa wr sh fa by_ ch cl w ir ow x).2.1)), n, (q_blk f o (mD o cnt cl ((g_tape (g_fin tc ta wa wr sh fa by_ ch cl w ir ow x) (tp, tn, lost)).2.1) ((g_tape (g_fin tc ta wa wr sh fa by_ ch cl w ir ow x) (tp, tn, lost)).2.2) be by_ tc ta wa wr pl bi wo sh fa ch ((g_tape (g_fin tc ta wa wr sh fa by_ ch cl w ir ow x) (tp, tn, lost)).1) ((g_fin tc ta wa wr sh fa by_ ch cl w ir ow x).2.2.1) ((g_fin tc ta wa wr sh fa by_ ch cl w ir ow x).2.2.2) (g_fin tc ta wa wr sh fa by_ ch cl w ir ow x).1))) := by
  refine Sp.ofF (by decide +kernel) rfl rfl (q_le rfl) ?_
  intro G d
  refine q_iconst dX7_puts_0 (v := 1) (by decide) ?_
  refine q_istore_n dX7_puts_1 (q_le rfl) ?_
  refine q_aload_n dX7_puts_2 rfl ?_
  refine q_getf dX7_puts_3 fl_X7_87 (q_blk_get (j := 0) rfl) rfl ?_
  refine q_iconst dX7_puts_6 (v := 0) (by decide) ?_
  refine q_iload_n dX7_puts_7 rfl ?_
  refine q_iastN dX7_puts_8 (q_blk_get (j := 26) rfl) (k := 0) rfl (by decide) (by decide) ?_
  refine q_heap (q_blk_up (j := 26) (q_le rfl)) ?_
  refine q_iconst dX7_puts_9 (v := 0) (by decide) ?_
  refine q_istore_n dX7_puts_10 (q_le rfl) ?_
  exact q_lo [(0, .ref o), (2, .int (nI (w, 1, upd ir 0 x, ow).2.1)), (3, .int (nI 0))] ⟨rfl, rfl, rfl, trivial⟩ (lp_m_puts hcnt hcl htn hch hst cl 0 (w, 1, upd ir 0 x, ow) (by omega) h16)

set_option maxHeartbeats 4000000 in
set_option maxRecDepth 100000 in
theorem m_put_rng {f : q_Hp} {n o cnt cl tn : Nat} {lost : Int32} {be by_ tc ta wa wr pl bi wo sh fa ch tp ir ow : Nat → Int32} {w : q_Dy} {x : Int32} (hcnt : cnt ≤ 8) (hx : x_in x (-32768) 32767 = false) : Sp yX7_put uX7_put [.ref o, .int x] n (q_blk f o (mD o cnt cl tn lost be by_ tc ta wa wr pl bi wo sh fa ch tp ir ow w)) (some (.int (-2)), n, (q_blk f o (mD o cnt cl tn lost be by_ tc ta wa wr pl bi wo sh fa ch tp ir ow w))) := by
  refine Sp.ofF (by decide +kernel) rfl rfl (q_le rfl) ?_
  intro G d
  refine q_iload_n dX7_put_0 rfl ?_
  refine q_cS (c_X7_isSample) dX7_put_1 kl_X7_210 rfl ⟨q_le rfl, q_le rfl⟩ (q_le rfl) (q_le rfl) (q_le rfl) ?_
  refine q_ifeq_b (tgt := 15) dX7_put_4 (by decide) (fun c_4 => ?_) (fun h_n => absurd (h_n.symm.trans (hx)) (by decide))
  refine q_bipush dX7_put_15 (v := (-2)) (by decide) ?_
  exact q_iret dX7_put_17 rfl (rfl) (q_le rfl) (q_le rfl)

set_option maxHeartbeats 4000000 in
set_option maxRecDepth 100000 in
theorem m_put_ok {f : q_Hp} {n o cnt cl tn : Nat} {lost : Int32} {be by_ tc ta wa wr pl bi wo sh fa ch tp ir ow : Nat → Int32} {w : q_Dy} {x : Int32} (hcnt : cnt ≤ 8) (hcl : cl ≤ 8) (htn : tn ≤ 600) (hch : ∀ t : Nat, t < cl → (ch t).toNatClampNeg < cnt ∧ ch t = nI (ch t).toNatClampNeg) (hst : ∀ j : Nat, j < cnt → D_ok tc sh j ∧ ∃ e : Nat, e ≤ 4 ∧ s_fill (by_ j) = nI e) (h16 : g_16 tc ta wa wr sh fa by_ ch cl w ir ow x) (hx : x_in x (-32768) 32767 = true) : Sp yX7_put uX7_put [.ref o, .int x] n (q_blk f o (mD o cnt cl tn lost be by_ tc ta wa wr pl bi wo sh fa ch tp ir ow w)) (some (.int (nI (g_fin tc ta wa wr sh fa by_ ch cl w ir ow x).2.1)), n, (q_blk f o (mD o cnt cl ((g_tape (g_fin tc ta wa wr sh fa by_ ch cl w ir ow x) (tp, tn, lost)).2.1) ((g_tape (g_fin tc ta wa wr sh fa by_ ch cl w ir ow x) (tp, tn, lost)).2.2) be by_ tc ta wa wr pl bi wo sh fa ch ((g_tape (g_fin tc ta wa wr sh fa by_ ch cl w ir ow x) (tp, tn, lost)).1) ((g_fin tc ta wa wr sh fa by_ ch cl w ir ow x).2.2.1) ((g_fin tc ta wa wr sh fa by_ ch cl w ir ow x).2.2.2) (g_fin tc ta wa wr sh fa by_ ch cl w ir ow x).1))) := by
  refine Sp.ofF (by decide +kernel) rfl rfl (q_le rfl) ?_
  intro G d
  refine q_iload_n dX7_put_0 rfl ?_
  refine q_cS (c_X7_isSample) dX7_put_1 kl_X7_210 rfl ⟨q_le rfl, q_le rfl⟩ (q_le rfl) (q_le rfl) (q_le rfl) ?_
  refine q_ifeq_b (tgt := 15) dX7_put_4 (by decide) (fun h_n => absurd (h_n.symm.trans (hx)) (by decide)) (fun c_4 => ?_)
  refine q_aload_n dX7_put_7 rfl ?_
  refine q_iload_n dX7_put_8 rfl ?_
  refine q_cW (m_puts hcnt hcl htn hch hst h16) dX7_put_9 kl_X7_213 rfl (q_blk_get (j := 0) rfl) rfl ⟨q_le rfl, q_le rfl⟩ (q_le rfl) (q_le rfl) (q_le rfl) ?_
  refine q_goto (tgt := 17) dX7_put_12 (by decide) ?_
  exact q_iret dX7_put_17 rfl (rfl) (q_le rfl) (q_le rfl)

abbrev q_Ug : Type := q_Dy × q_Tg × (Nat → Int32) × (Nat → Int32)
def v_y (tc ta wa wr sh fa : Nat → Int32) (by_ ch : Nat → Int32) (cl : Nat) (x : Int32) (u : q_Ug) : q_Yg := g_fin tc ta wa wr sh fa by_ ch cl u.1 u.2.2.1 u.2.2.2 x
def v_send (tc ta wa wr sh fa : Nat → Int32) (by_ ch : Nat → Int32) (cl : Nat) (x : Int32) (u : q_Ug) : q_Ug := ((v_y tc ta wa wr sh fa by_ ch cl x u).1, g_tape (v_y tc ta wa wr sh fa by_ ch cl x u) u.2.1, (v_y tc ta wa wr sh fa by_ ch cl x u).2.2.1, (v_y tc ta wa wr sh fa by_ ch cl x u).2.2.2)
def v_rm (tc ta wa wr sh fa : Nat → Int32) (by_ ch : Nat → Int32) (cl : Nat) (v s : Int32) (u : q_Ug) : Nat → q_Ug × Int32 × Int32
  | 0 => (u, 0, v)
  | i + 1 => (v_send tc ta wa wr sh fa by_ ch cl (v_rm tc ta wa wr sh fa by_ ch cl v s u i).2.2 (v_rm tc ta wa wr sh fa by_ ch cl v s u i).1, (v_rm tc ta wa wr sh fa by_ ch cl v s u i).2.1 + nI (v_y tc ta wa wr sh fa by_ ch cl (v_rm tc ta wa wr sh fa by_ ch cl v s u i).2.2 (v_rm tc ta wa wr sh fa by_ ch cl v s u i).1).2.1, ((v_rm tc ta wa wr sh fa by_ ch cl v s u i).2.2 + s).toInt16.toInt32)
def v_16 (tc ta wa wr sh fa : Nat → Int32) (by_ ch : Nat → Int32) (cl : Nat) (x : Int32) (u : q_Ug) : Prop := g_16 tc ta wa wr sh fa by_ ch cl u.1 u.2.2.1 u.2.2.2 x
set_option maxHeartbeats 4000000 in
set_option maxRecDepth 100000 in
theorem lp_m_ramp {G : q_G} {d : q_D} {z : q_Z} {f : q_Hp} {n o cnt cl tn : Nat} {lost : Int32} {be by_ tc ta wa wr pl bi wo sh fa ch tp ir ow : Nat → Int32} {w : q_Dy} {v s : Int32} {k0 : Nat} (hcnt : cnt ≤ 8) (hcl : cl ≤ 8) (hch : ∀ t : Nat, t < cl → (ch t).toNatClampNeg < cnt ∧ ch t = nI (ch t).toNatClampNeg) (hst : ∀ j : Nat, j < cnt → D_ok tc sh j ∧ ∃ e : Nat, e ≤ 4 ∧ s_fill (by_ j) = nI e) (hk0 : k0 ≤ 64) (hT : ∀ i : Nat, (v_rm tc ta wa wr sh fa by_ ch cl v s (w, (tp, tn, lost), ir, ow) i).1.2.1.2.1 ≤ 600) (hV : ∀ i : Nat, i < k0 → v_16 tc ta wa wr sh fa by_ ch cl (v_rm tc ta wa wr sh fa by_ ch cl v s (w, (tp, tn, lost), ir, ow) i).2.2 (v_rm tc ta wa wr sh fa by_ ch cl v s (w, (tp, tn, lost), ir, ow) i).1) (hx : J G d uX7_ramp z 0 0 n 61 (q_l [(4, .int (v_rm tc ta wa wr sh fa by_ ch cl v s (w, (tp, tn, lost), ir, ow) k0).2.1)]) [] (q_blk f o (mD o cnt cl ((v_rm tc ta wa wr sh fa by_ ch cl v s (w, (tp, tn, lost), ir, ow) k0).1.2.1.2.1) ((v_rm tc ta wa wr sh fa by_ ch cl v s (w, (tp, tn, lost), ir, ow) k0).1.2.1.2.2) be by_ tc ta wa wr pl bi wo sh fa ch ((v_rm tc ta wa wr sh fa by_ ch cl v s (w, (tp, tn, lost), ir, ow) k0).1.2.1.1) ((v_rm tc ta wa wr sh fa by_ ch cl v s (w, (tp, tn, lost), ir, ow) k0).1.2.2.1) ((v_rm tc ta wa wr sh fa by_ ch cl v s (w, (tp, tn, lost), ir, ow) k0).1.2.2.2) (v_rm tc ta wa wr sh fa by_ ch cl v s (w, (tp, tn, lost), ir, ow) k0).1.1))) : ∀ (k i : Nat), i + k = k0 → J G d uX7_ramp z 0 0 n 31 (q_l [(0, .ref o), (2, .int s), (3, .int (nI k0)), (4, .int (v_rm tc ta wa wr sh fa by_ ch cl v s (w, (tp, tn, lost), ir, ow) i).2.1), (5, .int (v_rm tc ta wa wr sh fa by_ ch cl v s (w, (tp, tn, lost), ir, ow) i).2.2), (6, .int (nI i))]) [] (q_blk f o (mD o cnt cl ((v_rm tc ta wa wr sh fa by_ ch cl v s (w, (tp, tn, lost), ir, ow) i).1.2.1.2.1) ((v_rm tc ta wa wr sh fa by_ ch cl v s (w, (tp, tn, lost), ir, ow) i).1.2.1.2.2) be by_ tc ta wa wr pl bi wo sh fa ch ((v_rm tc ta wa wr sh fa by_ ch cl v s (w, (tp, tn, lost), ir, ow) i).1.2.1.1) ((v_rm tc ta wa wr sh fa by_ ch cl v s (w, (tp, tn, lost), ir, ow) i).1.2.2.1) ((v_rm tc ta wa wr sh fa by_ ch cl v s (w, (tp, tn, lost), ir, ow) i).1.2.2.2) (v_rm tc ta wa wr sh fa by_ ch cl v s (w, (tp, tn, lost), ir, ow) i).1.1)) := by
  intro k
  induction k with
  | zero =>
    intro i hi
    rw [show i = k0 by omega]
    refine q_iload dX7_ramp_31 rfl ?_
    refine q_iload_n dX7_ramp_33 rfl ?_
    refine q_icmp_ge (tgt := 61) dX7_ramp_34 (by decide) (fun c_34 => ?_) (fun h_n => absurd ((Int32.le_refl _)) h_n)
    exact q_lo [(4, .int (v_rm tc ta wa wr sh fa by_ ch cl v s (w, (tp, tn, lost), ir, ow) k0).2.1)] ⟨rfl, trivial⟩ hx
  | succ k ih =>
    intro i hi
    refine q_iload dX7_ramp_31 rfl ?_
    refine q_iload_n dX7_ramp_33 rfl ?_
    refine q_icmp_ge (tgt := 61) dX7_ramp_34 (by decide) (fun h_n => absurd h_n ((nI_ge (by omega) (by omega)))) (fun c_34 => ?_)
    refine q_iload dX7_ramp_37 rfl ?_
    refine q_aload_n dX7_ramp_39 rfl ?_
    refine q_iload dX7_ramp_40 rfl ?_
    refine q_cW (m_puts hcnt hcl (hT i) hch hst (hV i (by omega))) dX7_ramp_42 kl_X7_213 rfl (q_blk_get (j := 0) rfl) rfl ⟨q_le rfl, q_le rfl⟩ (q_le rfl) (q_le rfl) (q_le rfl) ?_
    refine q_iadd dX7_ramp_45 ?_
    refine q_istore dX7_ramp_46 (q_le rfl) ?_
    refine q_iload dX7_ramp_48 rfl ?_
    refine q_iload_n dX7_ramp_50 rfl ?_
    refine q_iadd dX7_ramp_51 ?_
    refine q_i2s dX7_ramp_52 ?_
    refine q_istore dX7_ramp_53 (q_le rfl) ?_
    refine q_iinc dX7_ramp_55 rfl (v := nI (i + 1)) (nI_1 i) ?_
    refine q_goto (tgt := 31) dX7_ramp_58 (by decide) ?_
    exact q_lo [(0, .ref o), (2, .int s), (3, .int (nI k0)), (4, .int (v_rm tc ta wa wr sh fa by_ ch cl v s (w, (tp, tn, lost), ir, ow) (i + 1)).2.1), (5, .int (v_rm tc ta wa wr sh fa by_ ch cl v s (w, (tp, tn, lost), ir, ow) (i + 1)).2.2), (6, .int (nI (i + 1)))] ⟨rfl, rfl, rfl, rfl, rfl, rfl, trivial⟩ (ih (i + 1) (by omega))

set_option maxHeartbeats 4000000 in
set_option maxRecDepth 100000 in
theorem m_ramp_rng {f : q_Hp} {n o cnt cl tn : Nat} {lost : Int32} {be by_ tc ta wa wr pl bi wo sh fa ch tp ir ow : Nat → Int32} {w : q_Dy} {v s nn : Int32} (hcnt : cnt ≤ 8) (hx : x_in v (-32768) 32767 = false) : Sp yX7_ramp uX7_ramp [.ref o, .int v, .int s, .int nn] n (q_blk f o (mD o cnt cl tn lost be by_ tc ta wa wr pl bi wo sh fa ch tp ir ow w)) (some (.int (-2)), n, (q_blk f o (mD o cnt cl tn lost be by_ tc ta wa wr pl bi wo sh fa ch tp ir ow w))) := by
  refine Sp.ofF (by decide +kernel) rfl rfl (q_le rfl) ?_
  intro G d
  refine q_iload_n dX7_ramp_0 rfl ?_
  refine q_cS (c_X7_isSample) dX7_ramp_1 kl_X7_210 rfl ⟨q_le rfl, q_le rfl⟩ (q_le rfl) (q_le rfl) (q_le rfl) ?_
  refine q_ifeq_b (tgt := 19) dX7_ramp_4 (by decide) (fun c_4 => ?_) (fun h_n => absurd (h_n.symm.trans (hx)) (by decide))
  refine q_bipush dX7_ramp_19 (v := (-2)) (by decide) ?_
  exact q_iret dX7_ramp_21 rfl (rfl) (q_le rfl) (q_le rfl)

set_option maxHeartbeats 4000000 in
set_option maxRecDepth 100000 in
theorem m_ramp_rng2 {f : q_Hp} {n o cnt cl tn : Nat} {lost : Int32} {be by_ tc ta wa wr pl bi wo sh fa ch tp ir ow : Nat → Int32} {w : q_Dy} {v s nn : Int32} (hcnt : cnt ≤ 8) (hx : x_in v (-32768) 32767 = true) (hr : x_in nn 1 64 = false) : Sp yX7_ramp uX7_ramp [.ref o, .int v, .int s, .int nn] n (q_blk f o (mD o cnt cl tn lost be by_ tc ta wa wr pl bi wo sh fa ch tp ir ow w)) (some (.int (-2)), n, (q_blk f o (mD o cnt cl tn lost be by_ tc ta wa wr pl bi wo sh fa ch tp ir ow w))) := by
  refine Sp.ofF (by decide +kernel) rfl rfl (q_le rfl) ?_
  intro G d
  refine q_iload_n dX7_ramp_0 rfl ?_
  refine q_cS (c_X7_isSample) dX7_ramp_1 kl_X7_210 rfl ⟨q_le rfl, q_le rfl⟩ (q_le rfl) (q_le rfl) (q_le rfl) ?_
  refine q_ifeq_b (tgt := 19) dX7_ramp_4 (by decide) (fun h_n => absurd (h_n.symm.trans (hx)) (by decide)) (fun c_4 => ?_)
  refine q_iload_n dX7_ramp_7 rfl ?_
  refine q_i2l dX7_ramp_8 ?_
  refine q_lconst dX7_ramp_9 (v := 1) (by decide) ?_
  refine q_ldc2 dX7_ramp_10 cn_X7_216 ?_
  refine q_cS (c_in_x 1 64 rfl rfl) dX7_ramp_13 kl_X7_97 rfl ⟨q_le rfl, q_le rfl⟩ (q_le rfl) (q_le rfl) (q_le rfl) ?_
  refine q_ifne_b (tgt := 22) dX7_ramp_16 (by decide) (fun h_n => absurd (h_n.symm.trans (hr)) (by decide)) (fun c_16 => ?_)
  refine q_bipush dX7_ramp_19 (v := (-2)) (by decide) ?_
  exact q_iret dX7_ramp_21 rfl (rfl) (q_le rfl) (q_le rfl)

set_option maxHeartbeats 4000000 in
set_option maxRecDepth 100000 in
theorem m_ramp_ok {f : q_Hp} {n o cnt cl tn : Nat} {lost : Int32} {be by_ tc ta wa wr pl bi wo sh fa ch tp ir ow : Nat → Int32} {w : q_Dy} {v s : Int32} {k0 : Nat} (hcnt : cnt ≤ 8) (hx : x_in v (-32768) 32767 = true) (hr : x_in (nI k0) 1 64 = true) (hcl : cl ≤ 8) (hch : ∀ t : Nat, t < cl → (ch t).toNatClampNeg < cnt ∧ ch t = nI (ch t).toNatClampNeg) (hst : ∀ j : Nat, j < cnt → D_ok tc sh j ∧ ∃ e : Nat, e ≤ 4 ∧ s_fill (by_ j) = nI e) (hk0 : k0 ≤ 64) (hT : ∀ i : Nat, (v_rm tc ta wa wr sh fa by_ ch cl v s (w, (tp, tn, lost), ir, ow) i).1.2.1.2.1 ≤ 600) (hV : ∀ i : Nat, i < k0 → v_16 tc ta wa wr sh fa by_ ch cl (v_rm tc ta wa wr sh fa by_ ch cl v s (w, (tp, tn, lost), ir, ow) i).2.2 (v_rm tc ta wa wr sh fa by_ ch cl v s (w, (tp, tn, lost), ir, ow) i).1) : Sp yX7_ramp uX7_ramp [.ref o, .int v, .int s, .int (nI k0)] n (q_blk f o (mD o cnt cl tn lost be by_ tc ta wa wr pl bi wo sh fa ch tp ir ow w)) (some (.int (v_rm tc ta wa wr sh fa by_ ch cl v s (w, (tp, tn, lost), ir, ow) k0).2.1), n, (q_blk f o (mD o cnt cl ((v_rm tc ta wa wr sh fa by_ ch cl v s (w, (tp, tn, lost), ir, ow) k0).1.2.1.2.1) ((v_rm tc ta wa wr sh fa by_ ch cl v s (w, (tp, tn, lost), ir, ow) k0).1.2.1.2.2) be by_ tc ta wa wr pl bi wo sh fa ch ((v_rm tc ta wa wr sh fa by_ ch cl v s (w, (tp, tn, lost), ir, ow) k0).1.2.1.1) ((v_rm tc ta wa wr sh fa by_ ch cl v s (w, (tp, tn, lost), ir, ow) k0).1.2.2.1) ((v_rm tc ta wa wr sh fa by_ ch cl v s (w, (tp, tn, lost), ir, ow) k0).1.2.2.2) (v_rm tc ta wa wr sh fa by_ ch cl v s (w, (tp, tn, lost), ir, ow) k0).1.1))) := by
  refine Sp.ofF (by decide +kernel) rfl rfl (q_le rfl) ?_
  intro G d
  refine q_iload_n dX7_ramp_0 rfl ?_
  refine q_cS (c_X7_isSample) dX7_ramp_1 kl_X7_210 rfl ⟨q_le rfl, q_le rfl⟩ (q_le rfl) (q_le rfl) (q_le rfl) ?_
  refine q_ifeq_b (tgt := 19) dX7_ramp_4 (by decide) (fun h_n => absurd (h_n.symm.trans (hx)) (by decide)) (fun c_4 => ?_)
  refine q_iload_n dX7_ramp_7 rfl ?_
  refine q_i2l dX7_ramp_8 ?_
  refine q_lconst dX7_ramp_9 (v := 1) (by decide) ?_
  refine q_ldc2 dX7_ramp_10 cn_X7_216 ?_
  refine q_cS (c_in_x 1 64 rfl rfl) dX7_ramp_13 kl_X7_97 rfl ⟨q_le rfl, q_le rfl⟩ (q_le rfl) (q_le rfl) (q_le rfl) ?_
  refine q_ifne_b (tgt := 22) dX7_ramp_16 (by decide) (fun c_16 => ?_) (fun h_n => absurd (h_n.symm.trans (hr)) (by decide))
  refine q_iconst dX7_ramp_22 (v := 0) (by decide) ?_
  refine q_istore dX7_ramp_23 (q_le rfl) ?_
  refine q_iload_n dX7_ramp_25 rfl ?_
  refine q_istore dX7_ramp_26 (q_le rfl) ?_
  refine q_iconst dX7_ramp_28 (v := 0) (by decide) ?_
  refine q_istore dX7_ramp_29 (q_le rfl) ?_
  refine q_lo [(0, .ref o), (2, .int s), (3, .int (nI k0)), (4, .int (v_rm tc ta wa wr sh fa by_ ch cl v s (w, (tp, tn, lost), ir, ow) 0).2.1), (5, .int (v_rm tc ta wa wr sh fa by_ ch cl v s (w, (tp, tn, lost), ir, ow) 0).2.2), (6, .int (nI 0))] ⟨rfl, rfl, rfl, rfl, rfl, rfl, trivial⟩ (lp_m_ramp hcnt hcl hch hst hk0 hT hV ?_ k0 0 (by omega))
  refine q_iload dX7_ramp_61 rfl ?_
  exact q_iret dX7_ramp_63 rfl (rfl) (q_le rfl) (q_le rfl)

