/-! what samples change in the reference -/
abbrev q_Dy : Type := (Nat → Int32) × (Nat → Int32) × (Nat → Int64) × (Nat → Int64) × (Nat → Int64) × (Nat → Int32) × (Nat → Int64) × (Nat → Int64) × (Nat → Int32) × (Nat → Int64) × (Nat → Int64) × (Nat → Int32)
def mD (o cnt cl tn : Nat) (lost : Int32) (be by_ tc ta wa wr pl bi wo sh fa ch tp ir ow : Nat → Int32) : q_Dy → List q_E := fun (ca, ph, cm, km, gr, kp, su, ro, ou, ex, sz, ww) => mE o cnt cl tn lost be by_ tc ta wa wr pl bi wo sh fa ca ph cm km gr kp su ro ou ex sz ww ch tp ir ow
def D_out (tc ta wa wr sh fa : Nat → Int32) (j : Nat) (x : Int32) : q_Dy → Int32 := fun (ca, ph, cm, km, gr, kp, su, ro, ou, ex, sz, ww) => (m_held (m_round (m_sum (upd (m_dn ca j 31) (32 * j) x) fa j (tc j).toNatClampNeg) (sh j) (wa j)) (wr j))
def D_comes (tc ta wa wr sh fa : Nat → Int32) (j : Nat) (x : Int32) : q_Dy → q_Dy := fun (ca, ph, cm, km, gr, kp, su, ro, ou, ex, sz, ww) =>
  (upd (m_dn ca j 31) (32 * j) x, ph, vp_updL cm j (cm j + 1), vp_updL km j (km j + (if (m_held (m_round (m_sum (upd (m_dn ca j 31) (32 * j) x) fa j (tc j).toNatClampNeg) (sh j) (wa j)) (wr j)).toInt64 = (m_round (m_sum (upd (m_dn ca j 31) (32 * j) x) fa j (tc j).toNatClampNeg) (sh j) (wa j)) then 0 else 1)), vp_updL gr j (if m_abs (m_sum (upd (m_dn ca j 31) (32 * j) x) fa j (tc j).toNatClampNeg) ≤ gr j then gr j else m_abs (m_sum (upd (m_dn ca j 31) (32 * j) x) fa j (tc j).toNatClampNeg)), upd kp j 1, vp_updL su j (m_sum (upd (m_dn ca j 31) (32 * j) x) fa j (tc j).toNatClampNeg), vp_updL ro j (m_round (m_sum (upd (m_dn ca j 31) (32 * j) x) fa j (tc j).toNatClampNeg) (sh j) (wa j)), upd ou j (m_held (m_round (m_sum (upd (m_dn ca j 31) (32 * j) x) fa j (tc j).toNatClampNeg) (sh j) (wa j)) (wr j)), vp_updL ex j (m_sum (upd (m_dn ca j 31) (32 * j) x) ta j (tc j).toNatClampNeg), vp_updL sz j (m_szs (upd (m_dn ca j 31) (32 * j) x) j (tc j).toNatClampNeg), upd ww j (wa j))
def D_ph (j : Nat) (v : Int32) : q_Dy → q_Dy := fun (ca, ph, cm, km, gr, kp, su, ro, ou, ex, sz, ww) => (ca, upd ph j v, cm, km, gr, kp, su, ro, ou, ex, sz, ww)
def D_phv : q_Dy → Nat → Int32 := fun (ca, ph, cm, km, gr, kp, su, ro, ou, ex, sz, ww) => ph
def D_forget (j : Nat) : q_Dy → q_Dy := fun (ca, ph, cm, km, gr, kp, su, ro, ou, ex, sz, ww) => (m_clr ca j 32, upd ph j 0, vp_updL cm j 0, vp_updL km j 0, vp_updL gr j 0, kp, su, ro, ou, ex, sz, ww)
def D_ok (tc sh : Nat → Int32) (j : Nat) : Prop := (∃ c : Nat, c ≤ 32 ∧ tc j = nI c) ∧ ¬ m_one (sh j) = 0 ∧ ¬ 2 * m_one (sh j) = 0
theorem w_comes {f : q_Hp} {n o cnt cl tn : Nat} {lost : Int32} {be by_ tc ta wa wr pl bi wo sh fa ch tp ir ow : Nat → Int32} {w : q_Dy} {j : Nat} {x : Int32} (hcnt : cnt ≤ 8) (hj : j < cnt) (h : D_ok tc sh j) : Sp yX7_comes uX7_comes [.ref o, .int (nI j), .int x] n (q_blk f o (mD o cnt cl tn lost be by_ tc ta wa wr pl bi wo sh fa ch tp ir ow w)) (some (.int (D_out tc ta wa wr sh fa j x w)), n, q_blk f o (mD o cnt cl tn lost be by_ tc ta wa wr pl bi wo sh fa ch tp ir ow (D_comes tc ta wa wr sh fa j x w))) := by
  obtain ⟨ca, ph, cm, km, gr, kp, su, ro, ou, ex, sz, ww⟩ := w
  obtain ⟨⟨c, hc, h⟩, h1, h2⟩ := h
  have e : (tc j).toNatClampNeg = c := by rw [h]; exact nI_clamp (by omega)
  simp only [D_out, D_comes, e]
  exact m_comes hcnt hj hc h h1 h2
theorem w_forgets {f : q_Hp} {n o cnt cl tn : Nat} {lost : Int32} {be by_ tc ta wa wr pl bi wo sh fa ch tp ir ow : Nat → Int32} {w : q_Dy} {j : Nat} (hcnt : cnt ≤ 8) (hj : j < cnt) : Sp yX7_forgets uX7_forgets [.ref o, .int (nI j)] n (q_blk f o (mD o cnt cl tn lost be by_ tc ta wa wr pl bi wo sh fa ch tp ir ow w)) (none, n, q_blk f o (mD o cnt cl tn lost be by_ tc ta wa wr pl bi wo sh fa ch tp ir ow (D_forget j w))) := by
  obtain ⟨ca, ph, cm, km, gr, kp, su, ro, ou, ex, sz, ww⟩ := w
  exact m_forgets hcnt hj
abbrev q_Og : Type := q_Dy × Nat × (Nat → Int32)
def m_thin (b : Int32) : Int32 := if b ≤ 1 then 1 else b
def G_step (tc ta wa wr sh fa : Nat → Int32) (j : Nat) (th : Int32) (x : Int32) (w : q_Og) : q_Og := (D_ph j (if D_phv (D_comes tc ta wa wr sh fa j x w.1) j + 1 = th then 0 else D_phv (D_comes tc ta wa wr sh fa j x w.1) j + 1) (D_comes tc ta wa wr sh fa j x w.1), (if D_phv (D_comes tc ta wa wr sh fa j x w.1) j = 0 then w.2.1 + 1 else w.2.1), (if D_phv (D_comes tc ta wa wr sh fa j x w.1) j = 0 then upd w.2.2 w.2.1 (D_out tc ta wa wr sh fa j x w.1) else w.2.2))
def G_in (tc ta wa wr sh fa : Nat → Int32) (j : Nat) (th : Int32) (x : Int32) (w0 : q_Og) : Nat → q_Og
  | 0 => w0
  | k + 1 => G_step tc ta wa wr sh fa j th (if nI k = 0 then x else 0) (G_in tc ta wa wr sh fa j th x w0 k)
def G_out (tc ta wa wr sh fa : Nat → Int32) (j : Nat) (th : Int32) (e : Nat) (ir : Nat → Int32) (w0 : q_Og) : Nat → q_Og
  | 0 => w0
  | i + 1 => G_in tc ta wa wr sh fa j th (ir i) (G_out tc ta wa wr sh fa j th e ir w0 i) e
theorem G_in_s (tc ta wa wr sh fa : Nat → Int32) (j : Nat) (th : Int32) (x : Int32) (w0 : q_Og) (k : Nat) : G_in tc ta wa wr sh fa j th x w0 (k + 1) = G_step tc ta wa wr sh fa j th (if nI k = 0 then x else 0) (G_in tc ta wa wr sh fa j th x w0 k) := rfl
theorem G_step_le {tc ta wa wr sh fa : Nat → Int32} {j : Nat} {th x : Int32} {w : q_Og} : (G_step tc ta wa wr sh fa j th x w).2.1 ≤ w.2.1 + 1 := by
  show (if D_phv (D_comes tc ta wa wr sh fa j x w.1) j = 0 then w.2.1 + 1 else w.2.1) ≤ w.2.1 + 1
  split <;> omega
theorem G_in_le {tc ta wa wr sh fa : Nat → Int32} {j : Nat} {th x : Int32} {w0 : q_Og} : ∀ k : Nat, (G_in tc ta wa wr sh fa j th x w0 k).2.1 ≤ w0.2.1 + k
  | 0 => Nat.le_refl _
  | k + 1 => by
    have h1 := G_in_le (j := j) (th := th) (x := x) (w0 := w0) (tc := tc) (ta := ta) (wa := wa) (wr := wr) (sh := sh) (fa := fa) k
    have h2 : (G_in tc ta wa wr sh fa j th x w0 (k + 1)).2.1 ≤ (G_in tc ta wa wr sh fa j th x w0 k).2.1 + 1 := G_step_le
    omega
theorem G_out_le {tc ta wa wr sh fa : Nat → Int32} {j : Nat} {th : Int32} {e : Nat} {ir : Nat → Int32} {w0 : q_Og} : ∀ i : Nat, (G_out tc ta wa wr sh fa j th e ir w0 i).2.1 ≤ w0.2.1 + i * e
  | 0 => by rw [Nat.zero_mul]; exact Nat.le_refl _
  | i + 1 => by
    have h1 := G_out_le (j := j) (th := th) (e := e) (ir := ir) (w0 := w0) (tc := tc) (ta := ta) (wa := wa) (wr := wr) (sh := sh) (fa := fa) i
    have h2 : (G_out tc ta wa wr sh fa j th e ir w0 (i + 1)).2.1 ≤ (G_out tc ta wa wr sh fa j th e ir w0 i).2.1 + e := G_in_le e
    have h3 : (i + 1) * e = i * e + e := by rw [Nat.add_mul, Nat.one_mul]
    omega
set_option maxHeartbeats 4000000 in
set_option maxRecDepth 100000 in
theorem lp_m_goin {G : q_G} {d : q_D} {z : q_Z} {f : q_Hp} {n o cnt cl tn : Nat} {lost : Int32} {be by_ tc ta wa wr pl bi wo sh fa ch tp ir : Nat → Int32} {j m e t : Nat} {th : Int32} {w0 : q_Og} (hcnt : cnt ≤ 8) (hj : j < cnt) (hD : D_ok tc sh j) (hm : m ≤ 16) (he : e ≤ 4) (ht : t < 16) (hw : w0.2.1 ≤ 60) (hx : J G d uX7_goes z 0 0 n 145 (q_l [(0, .ref o), (1, .int (nI j)), (2, .int (nI m)), (3, .int (nI (G_in tc ta wa wr sh fa j th (ir t) w0 e).2.1)), (4, .int (nI e)), (5, .int th), (6, .int (nI t)), (7, .int (nI e))]) [] (q_blk f o (mD o cnt cl tn lost be by_ tc ta wa wr pl bi wo sh fa ch tp ir ((G_in tc ta wa wr sh fa j th (ir t) w0 e).2.2) (G_in tc ta wa wr sh fa j th (ir t) w0 e).1))) : ∀ (k i : Nat), i + k = e → J G d uX7_goes z 0 0 n 58 (q_l [(0, .ref o), (1, .int (nI j)), (2, .int (nI m)), (3, .int (nI (G_in tc ta wa wr sh fa j th (ir t) w0 i).2.1)), (4, .int (nI e)), (5, .int th), (6, .int (nI t)), (7, .int (nI i))]) [] (q_blk f o (mD o cnt cl tn lost be by_ tc ta wa wr pl bi wo sh fa ch tp ir ((G_in tc ta wa wr sh fa j th (ir t) w0 i).2.2) (G_in tc ta wa wr sh fa j th (ir t) w0 i).1)) := by
  intro k
  induction k with
  | zero =>
    intro i hi
    rw [show i = e by omega]
    refine q_iload dX7_goes_58 rfl ?_
    refine q_iload dX7_goes_60 rfl ?_
    refine q_icmp_ge (tgt := 145) dX7_goes_62 (by decide) (fun c_62 => ?_) (fun h_n => absurd ((Int32.le_refl _)) h_n)
    exact q_lo [(0, .ref o), (1, .int (nI j)), (2, .int (nI m)), (3, .int (nI (G_in tc ta wa wr sh fa j th (ir t) w0 e).2.1)), (4, .int (nI e)), (5, .int th), (6, .int (nI t)), (7, .int (nI e))] ⟨rfl, rfl, rfl, rfl, rfl, rfl, rfl, rfl, trivial⟩ hx
  | succ k ih =>
    intro i hi
    refine q_iload dX7_goes_58 rfl ?_
    refine q_iload dX7_goes_60 rfl ?_
    refine q_icmp_ge (tgt := 145) dX7_goes_62 (by decide) (fun h_n => absurd h_n ((nI_ge (by omega) (by omega)))) (fun c_62 => ?_)
    refine q_aload_n dX7_goes_65 rfl ?_
    refine q_iload_n dX7_goes_66 rfl ?_
    refine q_iload dX7_goes_67 rfl ?_
    refine q_if_ne (tgt := 82) dX7_goes_69 (by decide) (fun c_69 => ?_) (fun c_69 => ?_)
    · refine q_iconst dX7_goes_82 (v := 0) (by decide) ?_
      refine q_cW (w_comes hcnt hj hD) dX7_goes_83 kl_X7_195 rfl (q_blk_get (j := 0) rfl) rfl ⟨q_le rfl, q_le rfl⟩ (q_le rfl) (q_le rfl) (q_le rfl) ?_
      refine q_istore dX7_goes_86 (q_le rfl) ?_
      refine q_aload_n dX7_goes_88 rfl ?_
      refine q_getf dX7_goes_89 fl_X7_47 (q_blk_get (j := 0) rfl) rfl ?_
      refine q_iload_n dX7_goes_92 rfl ?_
      refine q_ialdN dX7_goes_93 (q_blk_get (j := 13) rfl) (k := j) rfl (by omega) (by decide) ?_
      refine q_if_ne (tgt := 108) dX7_goes_94 (by decide) (fun c_94 => ?_) (fun c_94 => ?_)
      · refine q_aload_n dX7_goes_108 rfl ?_
        refine q_getf dX7_goes_109 fl_X7_47 (q_blk_get (j := 0) rfl) rfl ?_
        refine q_iload_n dX7_goes_112 rfl ?_
        refine q_aload_n dX7_goes_113 rfl ?_
        refine q_getf dX7_goes_114 fl_X7_47 (q_blk_get (j := 0) rfl) rfl ?_
        refine q_iload_n dX7_goes_117 rfl ?_
        refine q_ialdN dX7_goes_118 (q_blk_get (j := 13) rfl) (k := j) rfl (by omega) (by decide) ?_
        refine q_iconst dX7_goes_119 (v := 1) (by decide) ?_
        refine q_iadd dX7_goes_120 ?_
        refine q_iload dX7_goes_121 rfl ?_
        refine q_icmp_ne (tgt := 130) dX7_goes_123 (by decide) (fun c_123 => ?_) (fun c_123 => ?_)
        · refine q_aload_n dX7_goes_130 rfl ?_
          refine q_getf dX7_goes_131 fl_X7_47 (q_blk_get (j := 0) rfl) rfl ?_
          refine q_iload_n dX7_goes_134 rfl ?_
          refine q_ialdN dX7_goes_135 (q_blk_get (j := 13) rfl) (k := j) rfl (by omega) (by decide) ?_
          refine q_iconst dX7_goes_136 (v := 1) (by decide) ?_
          refine q_iadd dX7_goes_137 ?_
          refine q_iastN dX7_goes_138 (q_blk_get (j := 13) rfl) (k := j) rfl (by omega) (by decide) ?_
          refine q_heap (q_blk_up (j := 13) (q_le rfl)) ?_
          refine q_iinc dX7_goes_139 rfl (v := nI (i + 1)) (nI_1 i) ?_
          refine q_goto (tgt := 58) dX7_goes_142 (by decide) ?_
          have hz : ¬ D_phv (D_comes tc ta wa wr sh fa j 0 (G_in tc ta wa wr sh fa j th (ir t) w0 i).1) j = 0 := c_94
          have hq : ¬ D_phv (D_comes tc ta wa wr sh fa j 0 (G_in tc ta wa wr sh fa j th (ir t) w0 i).1) j + 1 = th := c_123
          have hP : (G_in tc ta wa wr sh fa j th (ir t) w0 (i + 1)) = (D_ph j (D_phv (D_comes tc ta wa wr sh fa j 0 (G_in tc ta wa wr sh fa j th (ir t) w0 i).1) j + 1) (D_comes tc ta wa wr sh fa j 0 (G_in tc ta wa wr sh fa j th (ir t) w0 i).1), (G_in tc ta wa wr sh fa j th (ir t) w0 i).2.1, (G_in tc ta wa wr sh fa j th (ir t) w0 i).2.2) := by
            rw [G_in_s, if_neg c_69]
            unfold G_step
            simp only [if_neg hz, if_neg hq]
          have hI := ih (i + 1) (by omega)
          rw [hP] at hI
          refine q_heap (show _ = q_blk f o (mD o cnt cl tn lost be by_ tc ta wa wr pl bi wo sh fa ch tp ir ((G_in tc ta wa wr sh fa j th (ir t) w0 i).2.2) (D_ph j (D_phv (D_comes tc ta wa wr sh fa j 0 (G_in tc ta wa wr sh fa j th (ir t) w0 i).1) j + 1) (D_comes tc ta wa wr sh fa j 0 (G_in tc ta wa wr sh fa j th (ir t) w0 i).1))) from rfl) ?_
          exact q_lo [(0, .ref o), (1, .int (nI j)), (2, .int (nI m)), (3, .int (nI (G_in tc ta wa wr sh fa j th (ir t) w0 i).2.1)), (4, .int (nI e)), (5, .int th), (6, .int (nI t)), (7, .int (nI (i + 1)))] ⟨rfl, rfl, rfl, rfl, rfl, rfl, rfl, rfl, trivial⟩ hI
        · refine q_iconst dX7_goes_126 (v := 0) (by decide) ?_
          refine q_goto (tgt := 138) dX7_goes_127 (by decide) ?_
          refine q_iastN dX7_goes_138 (q_blk_get (j := 13) rfl) (k := j) rfl (by omega) (by decide) ?_
          refine q_heap (q_blk_up (j := 13) (q_le rfl)) ?_
          refine q_iinc dX7_goes_139 rfl (v := nI (i + 1)) (nI_1 i) ?_
          refine q_goto (tgt := 58) dX7_goes_142 (by decide) ?_
          have hz : ¬ D_phv (D_comes tc ta wa wr sh fa j 0 (G_in tc ta wa wr sh fa j th (ir t) w0 i).1) j = 0 := c_94
          have hq : D_phv (D_comes tc ta wa wr sh fa j 0 (G_in tc ta wa wr sh fa j th (ir t) w0 i).1) j + 1 = th := c_123
          have hP : (G_in tc ta wa wr sh fa j th (ir t) w0 (i + 1)) = (D_ph j 0 (D_comes tc ta wa wr sh fa j 0 (G_in tc ta wa wr sh fa j th (ir t) w0 i).1), (G_in tc ta wa wr sh fa j th (ir t) w0 i).2.1, (G_in tc ta wa wr sh fa j th (ir t) w0 i).2.2) := by
            rw [G_in_s, if_neg c_69]
            unfold G_step
            simp only [if_neg hz, if_pos hq]
          have hI := ih (i + 1) (by omega)
          rw [hP] at hI
          refine q_heap (show _ = q_blk f o (mD o cnt cl tn lost be by_ tc ta wa wr pl bi wo sh fa ch tp ir ((G_in tc ta wa wr sh fa j th (ir t) w0 i).2.2) (D_ph j 0 (D_comes tc ta wa wr sh fa j 0 (G_in tc ta wa wr sh fa j th (ir t) w0 i).1))) from rfl) ?_
          exact q_lo [(0, .ref o), (1, .int (nI j)), (2, .int (nI m)), (3, .int (nI (G_in tc ta wa wr sh fa j th (ir t) w0 i).2.1)), (4, .int (nI e)), (5, .int th), (6, .int (nI t)), (7, .int (nI (i + 1)))] ⟨rfl, rfl, rfl, rfl, rfl, rfl, rfl, rfl, trivial⟩ hI
      · refine q_aload_n dX7_goes_97 rfl ?_
        refine q_getf dX7_goes_98 fl_X7_90 (q_blk_get (j := 0) rfl) rfl ?_
        refine q_iload_n dX7_goes_101 rfl ?_
        refine q_iload dX7_goes_102 rfl ?_
        refine q_iastN dX7_goes_104 (q_blk_get (j := 27) rfl) (k := (G_in tc ta wa wr sh fa j th (ir t) w0 i).2.1) rfl (by have := G_in_le (j := j) (th := th) (x := (ir t)) (w0 := w0) (tc := tc) (ta := ta) (wa := wa) (wr := wr) (sh := sh) (fa := fa) i; omega) (by decide) ?_
        refine q_heap (q_blk_up (j := 27) (q_le rfl)) ?_
        refine q_iinc dX7_goes_105 rfl (v := nI ((G_in tc ta wa wr sh fa j th (ir t) w0 i).2.1 + 1)) (nI_1 _) ?_
        refine q_aload_n dX7_goes_108 rfl ?_
        refine q_getf dX7_goes_109 fl_X7_47 (q_blk_get (j := 0) rfl) rfl ?_
        refine q_iload_n dX7_goes_112 rfl ?_
        refine q_aload_n dX7_goes_113 rfl ?_
        refine q_getf dX7_goes_114 fl_X7_47 (q_blk_get (j := 0) rfl) rfl ?_
        refine q_iload_n dX7_goes_117 rfl ?_
        refine q_ialdN dX7_goes_118 (q_blk_get (j := 13) rfl) (k := j) rfl (by omega) (by decide) ?_
        refine q_iconst dX7_goes_119 (v := 1) (by decide) ?_
        refine q_iadd dX7_goes_120 ?_
        refine q_iload dX7_goes_121 rfl ?_
        refine q_icmp_ne (tgt := 130) dX7_goes_123 (by decide) (fun c_123 => ?_) (fun c_123 => ?_)
        · refine q_aload_n dX7_goes_130 rfl ?_
          refine q_getf dX7_goes_131 fl_X7_47 (q_blk_get (j := 0) rfl) rfl ?_
          refine q_iload_n dX7_goes_134 rfl ?_
          refine q_ialdN dX7_goes_135 (q_blk_get (j := 13) rfl) (k := j) rfl (by omega) (by decide) ?_
          refine q_iconst dX7_goes_136 (v := 1) (by decide) ?_
          refine q_iadd dX7_goes_137 ?_
          refine q_iastN dX7_goes_138 (q_blk_get (j := 13) rfl) (k := j) rfl (by omega) (by decide) ?_
          refine q_heap (q_blk_up (j := 13) (q_le rfl)) ?_
          refine q_iinc dX7_goes_139 rfl (v := nI (i + 1)) (nI_1 i) ?_
          refine q_goto (tgt := 58) dX7_goes_142 (by decide) ?_
          have hz : D_phv (D_comes tc ta wa wr sh fa j 0 (G_in tc ta wa wr sh fa j th (ir t) w0 i).1) j = 0 := c_94
          have hq : ¬ D_phv (D_comes tc ta wa wr sh fa j 0 (G_in tc ta wa wr sh fa j th (ir t) w0 i).1) j + 1 = th := c_123
          have hP : (G_in tc ta wa wr sh fa j th (ir t) w0 (i + 1)) = (D_ph j (D_phv (D_comes tc ta wa wr sh fa j 0 (G_in tc ta wa wr sh fa j th (ir t) w0 i).1) j + 1) (D_comes tc ta wa wr sh fa j 0 (G_in tc ta wa wr sh fa j th (ir t) w0 i).1), ((G_in tc ta wa wr sh fa j th (ir t) w0 i).2.1 + 1), (upd (G_in tc ta wa wr sh fa j th (ir t) w0 i).2.2 (G_in tc ta wa wr sh fa j th (ir t) w0 i).2.1 (D_out tc ta wa wr sh fa j 0 (G_in tc ta wa wr sh fa j th (ir t) w0 i).1))) := by
            rw [G_in_s, if_neg c_69]
            unfold G_step
            simp only [if_pos hz, if_neg hq]
          have hI := ih (i + 1) (by omega)
          rw [hP] at hI
          refine q_heap (show _ = q_blk f o (mD o cnt cl tn lost be by_ tc ta wa wr pl bi wo sh fa ch tp ir ((upd (G_in tc ta wa wr sh fa j th (ir t) w0 i).2.2 (G_in tc ta wa wr sh fa j th (ir t) w0 i).2.1 (D_out tc ta wa wr sh fa j 0 (G_in tc ta wa wr sh fa j th (ir t) w0 i).1))) (D_ph j (D_phv (D_comes tc ta wa wr sh fa j 0 (G_in tc ta wa wr sh fa j th (ir t) w0 i).1) j + 1) (D_comes tc ta wa wr sh fa j 0 (G_in tc ta wa wr sh fa j th (ir t) w0 i).1))) from rfl) ?_
          exact q_lo [(0, .ref o), (1, .int (nI j)), (2, .int (nI m)), (3, .int (nI ((G_in tc ta wa wr sh fa j th (ir t) w0 i).2.1 + 1))), (4, .int (nI e)), (5, .int th), (6, .int (nI t)), (7, .int (nI (i + 1)))] ⟨rfl, rfl, rfl, rfl, rfl, rfl, rfl, rfl, trivial⟩ hI
        · refine q_iconst dX7_goes_126 (v := 0) (by decide) ?_
          refine q_goto (tgt := 138) dX7_goes_127 (by decide) ?_
          refine q_iastN dX7_goes_138 (q_blk_get (j := 13) rfl) (k := j) rfl (by omega) (by decide) ?_
          refine q_heap (q_blk_up (j := 13) (q_le rfl)) ?_
          refine q_iinc dX7_goes_139 rfl (v := nI (i + 1)) (nI_1 i) ?_
          refine q_goto (tgt := 58) dX7_goes_142 (by decide) ?_
          have hz : D_phv (D_comes tc ta wa wr sh fa j 0 (G_in tc ta wa wr sh fa j th (ir t) w0 i).1) j = 0 := c_94
          have hq : D_phv (D_comes tc ta wa wr sh fa j 0 (G_in tc ta wa wr sh fa j th (ir t) w0 i).1) j + 1 = th := c_123
          have hP : (G_in tc ta wa wr sh fa j th (ir t) w0 (i + 1)) = (D_ph j 0 (D_comes tc ta wa wr sh fa j 0 (G_in tc ta wa wr sh fa j th (ir t) w0 i).1), ((G_in tc ta wa wr sh fa j th (ir t) w0 i).2.1 + 1), (upd (G_in tc ta wa wr sh fa j th (ir t) w0 i).2.2 (G_in tc ta wa wr sh fa j th (ir t) w0 i).2.1 (D_out tc ta wa wr sh fa j 0 (G_in tc ta wa wr sh fa j th (ir t) w0 i).1))) := by
            rw [G_in_s, if_neg c_69]
            unfold G_step
            simp only [if_pos hz, if_pos hq]
          have hI := ih (i + 1) (by omega)
          rw [hP] at hI
          refine q_heap (show _ = q_blk f o (mD o cnt cl tn lost be by_ tc ta wa wr pl bi wo sh fa ch tp ir ((upd (G_in tc ta wa wr sh fa j th (ir t) w0 i).2.2 (G_in tc ta wa wr sh fa j th (ir t) w0 i).2.1 (D_out tc ta wa wr sh fa j 0 (G_in tc ta wa wr sh fa j th (ir t) w0 i).1))) (D_ph j 0 (D_comes tc ta wa wr sh fa j 0 (G_in tc ta wa wr sh fa j th (ir t) w0 i).1))) from rfl) ?_
          exact q_lo [(0, .ref o), (1, .int (nI j)), (2, .int (nI m)), (3, .int (nI ((G_in tc ta wa wr sh fa j th (ir t) w0 i).2.1 + 1))), (4, .int (nI e)), (5, .int th), (6, .int (nI t)), (7, .int (nI (i + 1)))] ⟨rfl, rfl, rfl, rfl, rfl, rfl, rfl, rfl, trivial⟩ hI
    · refine q_aload_n dX7_goes_72 rfl ?_
      refine q_getf dX7_goes_73 fl_X7_87 (q_blk_get (j := 0) rfl) rfl ?_
      refine q_iload dX7_goes_76 rfl ?_
      refine q_ialdN dX7_goes_78 (q_blk_get (j := 26) rfl) (k := t) rfl (by omega) (by decide) ?_
      refine q_goto (tgt := 83) dX7_goes_79 (by decide) ?_
      refine q_cW (w_comes hcnt hj hD) dX7_goes_83 kl_X7_195 rfl (q_blk_get (j := 0) rfl) rfl ⟨q_le rfl, q_le rfl⟩ (q_le rfl) (q_le rfl) (q_le rfl) ?_
      refine q_istore dX7_goes_86 (q_le rfl) ?_
      refine q_aload_n dX7_goes_88 rfl ?_
      refine q_getf dX7_goes_89 fl_X7_47 (q_blk_get (j := 0) rfl) rfl ?_
      refine q_iload_n dX7_goes_92 rfl ?_
      refine q_ialdN dX7_goes_93 (q_blk_get (j := 13) rfl) (k := j) rfl (by omega) (by decide) ?_
      refine q_if_ne (tgt := 108) dX7_goes_94 (by decide) (fun c_94 => ?_) (fun c_94 => ?_)
      · refine q_aload_n dX7_goes_108 rfl ?_
        refine q_getf dX7_goes_109 fl_X7_47 (q_blk_get (j := 0) rfl) rfl ?_
        refine q_iload_n dX7_goes_112 rfl ?_
        refine q_aload_n dX7_goes_113 rfl ?_
        refine q_getf dX7_goes_114 fl_X7_47 (q_blk_get (j := 0) rfl) rfl ?_
        refine q_iload_n dX7_goes_117 rfl ?_
        refine q_ialdN dX7_goes_118 (q_blk_get (j := 13) rfl) (k := j) rfl (by omega) (by decide) ?_
        refine q_iconst dX7_goes_119 (v := 1) (by decide) ?_
        refine q_iadd dX7_goes_120 ?_
        refine q_iload dX7_goes_121 rfl ?_
        refine q_icmp_ne (tgt := 130) dX7_goes_123 (by decide) (fun c_123 => ?_) (fun c_123 => ?_)
        · refine q_aload_n dX7_goes_130 rfl ?_
          refine q_getf dX7_goes_131 fl_X7_47 (q_blk_get (j := 0) rfl) rfl ?_
          refine q_iload_n dX7_goes_134 rfl ?_
          refine q_ialdN dX7_goes_135 (q_blk_get (j := 13) rfl) (k := j) rfl (by omega) (by decide) ?_
          refine q_iconst dX7_goes_136 (v := 1) (by decide) ?_
          refine q_iadd dX7_goes_137 ?_
          refine q_iastN dX7_goes_138 (q_blk_get (j := 13) rfl) (k := j) rfl (by omega) (by decide) ?_
          refine q_heap (q_blk_up (j := 13) (q_le rfl)) ?_
          refine q_iinc dX7_goes_139 rfl (v := nI (i + 1)) (nI_1 i) ?_
          refine q_goto (tgt := 58) dX7_goes_142 (by decide) ?_
          have hz : ¬ D_phv (D_comes tc ta wa wr sh fa j (ir t) (G_in tc ta wa wr sh fa j th (ir t) w0 i).1) j = 0 := c_94
          have hq : ¬ D_phv (D_comes tc ta wa wr sh fa j (ir t) (G_in tc ta wa wr sh fa j th (ir t) w0 i).1) j + 1 = th := c_123
          have hP : (G_in tc ta wa wr sh fa j th (ir t) w0 (i + 1)) = (D_ph j (D_phv (D_comes tc ta wa wr sh fa j (ir t) (G_in tc ta wa wr sh fa j th (ir t) w0 i).1) j + 1) (D_comes tc ta wa wr sh fa j (ir t) (G_in tc ta wa wr sh fa j th (ir t) w0 i).1), (G_in tc ta wa wr sh fa j th (ir t) w0 i).2.1, (G_in tc ta wa wr sh fa j th (ir t) w0 i).2.2) := by
            rw [G_in_s, if_pos c_69]
            unfold G_step
            simp only [if_neg hz, if_neg hq]
          have hI := ih (i + 1) (by omega)
          rw [hP] at hI
          refine q_heap (show _ = q_blk f o (mD o cnt cl tn lost be by_ tc ta wa wr pl bi wo sh fa ch tp ir ((G_in tc ta wa wr sh fa j th (ir t) w0 i).2.2) (D_ph j (D_phv (D_comes tc ta wa wr sh fa j (ir t) (G_in tc ta wa wr sh fa j th (ir t) w0 i).1) j + 1) (D_comes tc ta wa wr sh fa j (ir t) (G_in tc ta wa wr sh fa j th (ir t) w0 i).1))) from rfl) ?_
          exact q_lo [(0, .ref o), (1, .int (nI j)), (2, .int (nI m)), (3, .int (nI (G_in tc ta wa wr sh fa j th (ir t) w0 i).2.1)), (4, .int (nI e)), (5, .int th), (6, .int (nI t)), (7, .int (nI (i + 1)))] ⟨rfl, rfl, rfl, rfl, rfl, rfl, rfl, rfl, trivial⟩ hI
        · refine q_iconst dX7_goes_126 (v := 0) (by decide) ?_
          refine q_goto (tgt := 138) dX7_goes_127 (by decide) ?_
          refine q_iastN dX7_goes_138 (q_blk_get (j := 13) rfl) (k := j) rfl (by omega) (by decide) ?_
          refine q_heap (q_blk_up (j := 13) (q_le rfl)) ?_
          refine q_iinc dX7_goes_139 rfl (v := nI (i + 1)) (nI_1 i) ?_
          refine q_goto (tgt := 58) dX7_goes_142 (by decide) ?_
          have hz : ¬ D_phv (D_comes tc ta wa wr sh fa j (ir t) (G_in tc ta wa wr sh fa j th (ir t) w0 i).1) j = 0 := c_94
          have hq : D_phv (D_comes tc ta wa wr sh fa j (ir t) (G_in tc ta wa wr sh fa j th (ir t) w0 i).1) j + 1 = th := c_123
          have hP : (G_in tc ta wa wr sh fa j th (ir t) w0 (i + 1)) = (D_ph j 0 (D_comes tc ta wa wr sh fa j (ir t) (G_in tc ta wa wr sh fa j th (ir t) w0 i).1), (G_in tc ta wa wr sh fa j th (ir t) w0 i).2.1, (G_in tc ta wa wr sh fa j th (ir t) w0 i).2.2) := by
            rw [G_in_s, if_pos c_69]
            unfold G_step
            simp only [if_neg hz, if_pos hq]
          have hI := ih (i + 1) (by omega)
          rw [hP] at hI
          refine q_heap (show _ = q_blk f o (mD o cnt cl tn lost be by_ tc ta wa wr pl bi wo sh fa ch tp ir ((G_in tc ta wa wr sh fa j th (ir t) w0 i).2.2) (D_ph j 0 (D_comes tc ta wa wr sh fa j (ir t) (G_in tc ta wa wr sh fa j th (ir t) w0 i).1))) from rfl) ?_
          exact q_lo [(0, .ref o), (1, .int (nI j)), (2, .int (nI m)), (3, .int (nI (G_in tc ta wa wr sh fa j th (ir t) w0 i).2.1)), (4, .int (nI e)), (5, .int th), (6, .int (nI t)), (7, .int (nI (i + 1)))] ⟨rfl, rfl, rfl, rfl, rfl, rfl, rfl, rfl, trivial⟩ hI
      · refine q_aload_n dX7_goes_97 rfl ?_
        refine q_getf dX7_goes_98 fl_X7_90 (q_blk_get (j := 0) rfl) rfl ?_
        refine q_iload_n dX7_goes_101 rfl ?_
        refine q_iload dX7_goes_102 rfl ?_
        refine q_iastN dX7_goes_104 (q_blk_get (j := 27) rfl) (k := (G_in tc ta wa wr sh fa j th (ir t) w0 i).2.1) rfl (by have := G_in_le (j := j) (th := th) (x := (ir t)) (w0 := w0) (tc := tc) (ta := ta) (wa := wa) (wr := wr) (sh := sh) (fa := fa) i; omega) (by decide) ?_
        refine q_heap (q_blk_up (j := 27) (q_le rfl)) ?_
        refine q_iinc dX7_goes_105 rfl (v := nI ((G_in tc ta wa wr sh fa j th (ir t) w0 i).2.1 + 1)) (nI_1 _) ?_
        refine q_aload_n dX7_goes_108 rfl ?_
        refine q_getf dX7_goes_109 fl_X7_47 (q_blk_get (j := 0) rfl) rfl ?_
        refine q_iload_n dX7_goes_112 rfl ?_
        refine q_aload_n dX7_goes_113 rfl ?_
        refine q_getf dX7_goes_114 fl_X7_47 (q_blk_get (j := 0) rfl) rfl ?_
        refine q_iload_n dX7_goes_117 rfl ?_
        refine q_ialdN dX7_goes_118 (q_blk_get (j := 13) rfl) (k := j) rfl (by omega) (by decide) ?_
        refine q_iconst dX7_goes_119 (v := 1) (by decide) ?_
        refine q_iadd dX7_goes_120 ?_
        refine q_iload dX7_goes_121 rfl ?_
        refine q_icmp_ne (tgt := 130) dX7_goes_123 (by decide) (fun c_123 => ?_) (fun c_123 => ?_)
        · refine q_aload_n dX7_goes_130 rfl ?_
          refine q_getf dX7_goes_131 fl_X7_47 (q_blk_get (j := 0) rfl) rfl ?_
          refine q_iload_n dX7_goes_134 rfl ?_
          refine q_ialdN dX7_goes_135 (q_blk_get (j := 13) rfl) (k := j) rfl (by omega) (by decide) ?_
          refine q_iconst dX7_goes_136 (v := 1) (by decide) ?_
          refine q_iadd dX7_goes_137 ?_
          refine q_iastN dX7_goes_138 (q_blk_get (j := 13) rfl) (k := j) rfl (by omega) (by decide) ?_
          refine q_heap (q_blk_up (j := 13) (q_le rfl)) ?_
          refine q_iinc dX7_goes_139 rfl (v := nI (i + 1)) (nI_1 i) ?_
          refine q_goto (tgt := 58) dX7_goes_142 (by decide) ?_
          have hz : D_phv (D_comes tc ta wa wr sh fa j (ir t) (G_in tc ta wa wr sh fa j th (ir t) w0 i).1) j = 0 := c_94
          have hq : ¬ D_phv (D_comes tc ta wa wr sh fa j (ir t) (G_in tc ta wa wr sh fa j th (ir t) w0 i).1) j + 1 = th := c_123
          have hP : (G_in tc ta wa wr sh fa j th (ir t) w0 (i + 1)) = (D_ph j (D_phv (D_comes tc ta wa wr sh fa j (ir t) (G_in tc ta wa wr sh fa j th (ir t) w0 i).1) j + 1) (D_comes tc ta wa wr sh fa j (ir t) (G_in tc ta wa wr sh fa j th (ir t) w0 i).1), ((G_in tc ta wa wr sh fa j th (ir t) w0 i).2.1 + 1), (upd (G_in tc ta wa wr sh fa j th (ir t) w0 i).2.2 (G_in tc ta wa wr sh fa j th (ir t) w0 i).2.1 (D_out tc ta wa wr sh fa j (ir t) (G_in tc ta wa wr sh fa j th (ir t) w0 i).1))) := by
            rw [G_in_s, if_pos c_69]
            unfold G_step
            simp only [if_pos hz, if_neg hq]
          have hI := ih (i + 1) (by omega)
          rw [hP] at hI
          refine q_heap (show _ = q_blk f o (mD o cnt cl tn lost be by_ tc ta wa wr pl bi wo sh fa ch tp ir ((upd (G_in tc ta wa wr sh fa j th (ir t) w0 i).2.2 (G_in tc ta wa wr sh fa j th (ir t) w0 i).2.1 (D_out tc ta wa wr sh fa j (ir t) (G_in tc ta wa wr sh fa j th (ir t) w0 i).1))) (D_ph j (D_phv (D_comes tc ta wa wr sh fa j (ir t) (G_in tc ta wa wr sh fa j th (ir t) w0 i).1) j + 1) (D_comes tc ta wa wr sh fa j (ir t) (G_in tc ta wa wr sh fa j th (ir t) w0 i).1))) from rfl) ?_
          exact q_lo [(0, .ref o), (1, .int (nI j)), (2, .int (nI m)), (3, .int (nI ((G_in tc ta wa wr sh fa j th (ir t) w0 i).2.1 + 1))), (4, .int (nI e)), (5, .int th), (6, .int (nI t)), (7, .int (nI (i + 1)))] ⟨rfl, rfl, rfl, rfl, rfl, rfl, rfl, rfl, trivial⟩ hI
        · refine q_iconst dX7_goes_126 (v := 0) (by decide) ?_
          refine q_goto (tgt := 138) dX7_goes_127 (by decide) ?_
          refine q_iastN dX7_goes_138 (q_blk_get (j := 13) rfl) (k := j) rfl (by omega) (by decide) ?_
          refine q_heap (q_blk_up (j := 13) (q_le rfl)) ?_
          refine q_iinc dX7_goes_139 rfl (v := nI (i + 1)) (nI_1 i) ?_
          refine q_goto (tgt := 58) dX7_goes_142 (by decide) ?_
          have hz : D_phv (D_comes tc ta wa wr sh fa j (ir t) (G_in tc ta wa wr sh fa j th (ir t) w0 i).1) j = 0 := c_94
          have hq : D_phv (D_comes tc ta wa wr sh fa j (ir t) (G_in tc ta wa wr sh fa j th (ir t) w0 i).1) j + 1 = th := c_123
          have hP : (G_in tc ta wa wr sh fa j th (ir t) w0 (i + 1)) = (D_ph j 0 (D_comes tc ta wa wr sh fa j (ir t) (G_in tc ta wa wr sh fa j th (ir t) w0 i).1), ((G_in tc ta wa wr sh fa j th (ir t) w0 i).2.1 + 1), (upd (G_in tc ta wa wr sh fa j th (ir t) w0 i).2.2 (G_in tc ta wa wr sh fa j th (ir t) w0 i).2.1 (D_out tc ta wa wr sh fa j (ir t) (G_in tc ta wa wr sh fa j th (ir t) w0 i).1))) := by
            rw [G_in_s, if_pos c_69]
            unfold G_step
            simp only [if_pos hz, if_pos hq]
          have hI := ih (i + 1) (by omega)
          rw [hP] at hI
          refine q_heap (show _ = q_blk f o (mD o cnt cl tn lost be by_ tc ta wa wr pl bi wo sh fa ch tp ir ((upd (G_in tc ta wa wr sh fa j th (ir t) w0 i).2.2 (G_in tc ta wa wr sh fa j th (ir t) w0 i).2.1 (D_out tc ta wa wr sh fa j (ir t) (G_in tc ta wa wr sh fa j th (ir t) w0 i).1))) (D_ph j 0 (D_comes tc ta wa wr sh fa j (ir t) (G_in tc ta wa wr sh fa j th (ir t) w0 i).1))) from rfl) ?_
          exact q_lo [(0, .ref o), (1, .int (nI j)), (2, .int (nI m)), (3, .int (nI ((G_in tc ta wa wr sh fa j th (ir t) w0 i).2.1 + 1))), (4, .int (nI e)), (5, .int th), (6, .int (nI t)), (7, .int (nI (i + 1)))] ⟨rfl, rfl, rfl, rfl, rfl, rfl, rfl, rfl, trivial⟩ hI

set_option maxHeartbeats 4000000 in
set_option maxRecDepth 100000 in
theorem lp_m_goes {G : q_G} {d : q_D} {z : q_Z} {f : q_Hp} {n o cnt cl tn : Nat} {lost : Int32} {be by_ tc ta wa wr pl bi wo sh fa ch tp ir : Nat → Int32} {j m e : Nat} {th : Int32} {w0 : q_Og} (hcnt : cnt ≤ 8) (hj : j < cnt) (hD : D_ok tc sh j) (hm : m ≤ 16) (he : e ≤ 4) (hw : w0.2.1 = 0) (hx : J G d uX7_goes z 0 0 n 151 (q_l [(3, .int (nI (G_out tc ta wa wr sh fa j th e ir w0 m).2.1))]) [] (q_blk f o (mD o cnt cl tn lost be by_ tc ta wa wr pl bi wo sh fa ch tp ir ((G_out tc ta wa wr sh fa j th e ir w0 m).2.2) (G_out tc ta wa wr sh fa j th e ir w0 m).1))) : ∀ (k i : Nat), i + k = m → J G d uX7_goes z 0 0 n 49 (q_l [(0, .ref o), (1, .int (nI j)), (2, .int (nI m)), (3, .int (nI (G_out tc ta wa wr sh fa j th e ir w0 i).2.1)), (4, .int (nI e)), (5, .int th), (6, .int (nI i))]) [] (q_blk f o (mD o cnt cl tn lost be by_ tc ta wa wr pl bi wo sh fa ch tp ir ((G_out tc ta wa wr sh fa j th e ir w0 i).2.2) (G_out tc ta wa wr sh fa j th e ir w0 i).1)) := by
  intro k
  induction k with
  | zero =>
    intro i hi
    rw [show i = m by omega]
    refine q_iload dX7_goes_49 rfl ?_
    refine q_iload_n dX7_goes_51 rfl ?_
    refine q_icmp_ge (tgt := 151) dX7_goes_52 (by decide) (fun c_52 => ?_) (fun h_n => absurd ((Int32.le_refl _)) h_n)
    exact q_lo [(3, .int (nI (G_out tc ta wa wr sh fa j th e ir w0 m).2.1))] ⟨rfl, trivial⟩ hx
  | succ k ih =>
    intro i hi
    refine q_iload dX7_goes_49 rfl ?_
    refine q_iload_n dX7_goes_51 rfl ?_
    refine q_icmp_ge (tgt := 151) dX7_goes_52 (by decide) (fun h_n => absurd h_n ((nI_ge (by omega) (by omega)))) (fun c_52 => ?_)
    refine q_iconst dX7_goes_55 (v := 0) (by decide) ?_
    refine q_istore dX7_goes_56 (q_le rfl) ?_
    refine q_lo [(0, .ref o), (1, .int (nI j)), (2, .int (nI m)), (3, .int (nI (G_out tc ta wa wr sh fa j th e ir w0 i).2.1)), (4, .int (nI e)), (5, .int th), (6, .int (nI i)), (7, .int (nI 0))] ⟨rfl, rfl, rfl, rfl, rfl, rfl, rfl, rfl, trivial⟩ (lp_m_goin (w0 := (G_out tc ta wa wr sh fa j th e ir w0 i)) (t := i) hcnt hj hD hm he (by omega) (by have h1 := G_out_le (j := j) (th := th) (e := e) (ir := ir) (w0 := w0) (tc := tc) (ta := ta) (wa := wa) (wr := wr) (sh := sh) (fa := fa) i; have h2 : i * e ≤ 15 * 4 := Nat.mul_le_mul (by omega) he; omega) ?_ e 0 (by omega))
    refine q_iinc dX7_goes_145 rfl (v := nI (i + 1)) (nI_1 i) ?_
    refine q_goto (tgt := 49) dX7_goes_148 (by decide) ?_
    exact q_lo [(0, .ref o), (1, .int (nI j)), (2, .int (nI m)), (3, .int (nI (G_out tc ta wa wr sh fa j th e ir w0 (i + 1)).2.1)), (4, .int (nI e)), (5, .int th), (6, .int (nI (i + 1)))] ⟨rfl, rfl, rfl, rfl, rfl, rfl, rfl, trivial⟩ (ih (i + 1) (by omega))

set_option maxHeartbeats 4000000 in
set_option maxRecDepth 100000 in
theorem m_goes {f : q_Hp} {n o cnt cl tn : Nat} {lost : Int32} {be by_ tc ta wa wr pl bi wo sh fa ch tp ir ow : Nat → Int32} {j m e : Nat} {w : q_Dy} (hcnt : cnt ≤ 8) (hj : j < cnt) (hD : D_ok tc sh j) (hm : m ≤ 16) (he : e ≤ 4) (hf : s_fill (by_ j) = nI e) : Sp yX7_goes uX7_goes [.ref o, .int (nI j), .int (nI m)] n (q_blk f o (mD o cnt cl tn lost be by_ tc ta wa wr pl bi wo sh fa ch tp ir ow w)) (some (.int (nI (G_out tc ta wa wr sh fa j (m_thin (by_ j)) e ir (w, 0, ow) m).2.1)), n, q_blk f o (mD o cnt cl tn lost be by_ tc ta wa wr pl bi wo sh fa ch tp ir ((G_out tc ta wa wr sh fa j (m_thin (by_ j)) e ir (w, 0, ow) m).2.2) (G_out tc ta wa wr sh fa j (m_thin (by_ j)) e ir (w, 0, ow) m).1)) := by
  refine Sp.ofF (by decide +kernel) rfl rfl (q_le rfl) ?_
  intro G d
  have hgo : J G d uX7_goes (some (.int (nI (G_out tc ta wa wr sh fa j (m_thin (by_ j)) e ir (w, 0, ow) m).2.1)), n, q_blk f o (mD o cnt cl tn lost be by_ tc ta wa wr pl bi wo sh fa ch tp ir ((G_out tc ta wa wr sh fa j (m_thin (by_ j)) e ir (w, 0, ow) m).2.2) (G_out tc ta wa wr sh fa j (m_thin (by_ j)) e ir (w, 0, ow) m).1)) 0 0 n 49 (q_l [(0, .ref o), (1, .int (nI j)), (2, .int (nI m)), (3, .int (nI 0)), (4, .int (nI e)), (5, .int (m_thin (by_ j))), (6, .int (nI 0))]) [] (q_blk f o (mD o cnt cl tn lost be by_ tc ta wa wr pl bi wo sh fa ch tp ir ow w)) := by
    refine lp_m_goes (w0 := (w, 0, ow)) hcnt hj hD hm he rfl ?_ m 0 (by omega)
    refine q_iload_n dX7_goes_151 rfl ?_
    exact q_iret dX7_goes_152 rfl (rfl) (q_le rfl) (q_le rfl)
  refine q_iconst dX7_goes_0 (v := 0) (by decide) ?_
  refine q_istore_n dX7_goes_1 (q_le rfl) ?_
  refine q_aload_n dX7_goes_2 rfl ?_
  refine q_getf dX7_goes_3 fl_X7_13 (q_blk_get (j := 0) rfl) rfl ?_
  refine q_iload_n dX7_goes_6 rfl ?_
  refine q_ialdN dX7_goes_7 (q_blk_get (j := 2) rfl) (k := j) rfl (by omega) (by decide) ?_
  refine q_if_ge (tgt := 21) dX7_goes_8 (by decide) (fun c_8 => ?_) (fun c_8 => ?_)
  · refine q_iconst dX7_goes_21 (v := 1) (by decide) ?_
    refine q_istore dX7_goes_22 (q_le rfl) ?_
    refine q_aload_n dX7_goes_24 rfl ?_
    refine q_getf dX7_goes_25 fl_X7_13 (q_blk_get (j := 0) rfl) rfl ?_
    refine q_iload_n dX7_goes_28 rfl ?_
    refine q_ialdN dX7_goes_29 (q_blk_get (j := 2) rfl) (k := j) rfl (by omega) (by decide) ?_
    refine q_iconst dX7_goes_30 (v := 1) (by decide) ?_
    refine q_icmp_le (tgt := 43) dX7_goes_31 (by decide) (fun c_31 => ?_) (fun c_31 => ?_)
    · refine q_iconst dX7_goes_43 (v := 1) (by decide) ?_
      refine q_istore dX7_goes_44 (q_le rfl) ?_
      refine q_iconst dX7_goes_46 (v := 0) (by decide) ?_
      refine q_istore dX7_goes_47 (q_le rfl) ?_
      have h4 : s_fill (by_ j) = 1 := by unfold s_fill; rw [if_pos c_8]
      have h5 : m_thin (by_ j) = 1 := by unfold m_thin; rw [if_pos c_31]
      exact q_lo [(0, .ref o), (1, .int (nI j)), (2, .int (nI m)), (3, .int (nI 0)), (4, .int (nI e)), (5, .int (m_thin (by_ j))), (6, .int (nI 0))] ⟨rfl, rfl, rfl, rfl, by rw [← hf, h4]; rfl, by rw [h5]; rfl, rfl, trivial⟩ hgo
    · refine q_aload_n dX7_goes_34 rfl ?_
      refine q_getf dX7_goes_35 fl_X7_13 (q_blk_get (j := 0) rfl) rfl ?_
      refine q_iload_n dX7_goes_38 rfl ?_
      refine q_ialdN dX7_goes_39 (q_blk_get (j := 2) rfl) (k := j) rfl (by omega) (by decide) ?_
      refine q_goto (tgt := 44) dX7_goes_40 (by decide) ?_
      refine q_istore dX7_goes_44 (q_le rfl) ?_
      refine q_iconst dX7_goes_46 (v := 0) (by decide) ?_
      refine q_istore dX7_goes_47 (q_le rfl) ?_
      have h4 : s_fill (by_ j) = 1 := by unfold s_fill; rw [if_pos c_8]
      have h5 : m_thin (by_ j) = by_ j := by unfold m_thin; rw [if_neg c_31]
      exact q_lo [(0, .ref o), (1, .int (nI j)), (2, .int (nI m)), (3, .int (nI 0)), (4, .int (nI e)), (5, .int (m_thin (by_ j))), (6, .int (nI 0))] ⟨rfl, rfl, rfl, rfl, by rw [← hf, h4]; rfl, by rw [h5]; rfl, rfl, trivial⟩ hgo
  · refine q_aload_n dX7_goes_11 rfl ?_
    refine q_getf dX7_goes_12 fl_X7_13 (q_blk_get (j := 0) rfl) rfl ?_
    refine q_iload_n dX7_goes_15 rfl ?_
    refine q_ialdN dX7_goes_16 (q_blk_get (j := 2) rfl) (k := j) rfl (by omega) (by decide) ?_
    refine q_ineg dX7_goes_17 ?_
    refine q_goto (tgt := 22) dX7_goes_18 (by decide) ?_
    refine q_istore dX7_goes_22 (q_le rfl) ?_
    refine q_aload_n dX7_goes_24 rfl ?_
    refine q_getf dX7_goes_25 fl_X7_13 (q_blk_get (j := 0) rfl) rfl ?_
    refine q_iload_n dX7_goes_28 rfl ?_
    refine q_ialdN dX7_goes_29 (q_blk_get (j := 2) rfl) (k := j) rfl (by omega) (by decide) ?_
    refine q_iconst dX7_goes_30 (v := 1) (by decide) ?_
    refine q_icmp_le (tgt := 43) dX7_goes_31 (by decide) (fun c_31 => ?_) (fun c_31 => ?_)
    · refine q_iconst dX7_goes_43 (v := 1) (by decide) ?_
      refine q_istore dX7_goes_44 (q_le rfl) ?_
      refine q_iconst dX7_goes_46 (v := 0) (by decide) ?_
      refine q_istore dX7_goes_47 (q_le rfl) ?_
      have h4 : s_fill (by_ j) = -by_ j := by unfold s_fill; rw [if_neg c_8]
      have h5 : m_thin (by_ j) = 1 := by unfold m_thin; rw [if_pos c_31]
      exact q_lo [(0, .ref o), (1, .int (nI j)), (2, .int (nI m)), (3, .int (nI 0)), (4, .int (nI e)), (5, .int (m_thin (by_ j))), (6, .int (nI 0))] ⟨rfl, rfl, rfl, rfl, by rw [← hf, h4]; rfl, by rw [h5]; rfl, rfl, trivial⟩ hgo
    · refine q_aload_n dX7_goes_34 rfl ?_
      refine q_getf dX7_goes_35 fl_X7_13 (q_blk_get (j := 0) rfl) rfl ?_
      refine q_iload_n dX7_goes_38 rfl ?_
      refine q_ialdN dX7_goes_39 (q_blk_get (j := 2) rfl) (k := j) rfl (by omega) (by decide) ?_
      refine q_goto (tgt := 44) dX7_goes_40 (by decide) ?_
      refine q_istore dX7_goes_44 (q_le rfl) ?_
      refine q_iconst dX7_goes_46 (v := 0) (by decide) ?_
      refine q_istore dX7_goes_47 (q_le rfl) ?_
      have h4 : s_fill (by_ j) = -by_ j := by unfold s_fill; rw [if_neg c_8]
      have h5 : m_thin (by_ j) = by_ j := by unfold m_thin; rw [if_neg c_31]
      exact q_lo [(0, .ref o), (1, .int (nI j)), (2, .int (nI m)), (3, .int (nI 0)), (4, .int (nI e)), (5, .int (m_thin (by_ j))), (6, .int (nI 0))] ⟨rfl, rfl, rfl, rfl, by rw [← hf, h4]; rfl, by rw [h5]; rfl, rfl, trivial⟩ hgo

