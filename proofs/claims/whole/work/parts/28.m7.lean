def m_e1 (cnt cl : Nat) (be by_ tc ta wa wr pl bi wo sh ch : Nat → Int32) (j c : Nat) (h : Int64) : Nat → Int64
  | 0 => h
  | w + 1 => 31 * m_e1 cnt cl be by_ tc ta wa wr pl bi wo sh ch j c h w + (m_about cnt cl be by_ tc ta wa wr pl bi wo sh ch j c (nI w)).toInt64
def m_e2 (arr : Nat → Int32) (j : Nat) (h : Int64) : Nat → Int64
  | 0 => h
  | t + 1 => 31 * m_e2 arr j h t + (arr (32 * j + t)).toInt64
def m_e3 (tp : Nat → Int32) (h : Int64) : Nat → Int64
  | 0 => h
  | t + 1 => 31 * m_e3 tp h t + (tp t).toInt64
set_option maxHeartbeats 4000000 in
set_option maxRecDepth 100000 in
theorem lp_m_dg1 {G : q_G} {d : q_D} {z : q_Z} {f : q_Hp} {n o cnt cl tn : Nat} {lost : Int32} {be by_ tc ta wa wr pl bi wo sh fa ca ph : Nat → Int32} {cm km gr : Nat → Int64} {kp : Nat → Int32} {su ro : Nat → Int64} {ou : Nat → Int32} {ex sz : Nat → Int64} {ww ch tp ir ow : Nat → Int32} {t c : Nat} {g : Int64} (hcnt : cnt ≤ 8) (ht : t < cnt) (hc : c ≤ 32) (htc : tc t = nI c) (hcl : cl ≤ 8) (hx : J G d uX7_digest z 0 0 n 45 (q_l [(0, .ref o), (1, .long (m_e1 cnt cl be by_ tc ta wa wr pl bi wo sh ch t c g 10)), (3, .int (nI t))]) [] (q_blk f o (mE o cnt cl tn lost be by_ tc ta wa wr pl bi wo sh fa ca ph cm km gr kp su ro ou ex sz ww ch tp ir ow))) : ∀ (k i : Nat), i + k = 10 → J G d uX7_digest z 0 0 n 17 (q_l [(0, .ref o), (1, .long (m_e1 cnt cl be by_ tc ta wa wr pl bi wo sh ch t c g i)), (3, .int (nI t)), (4, .int (nI i))]) [] (q_blk f o (mE o cnt cl tn lost be by_ tc ta wa wr pl bi wo sh fa ca ph cm km gr kp su ro ou ex sz ww ch tp ir ow)) := by
  intro k
  induction k with
  | zero =>
    intro i hi
    rw [show i = 10 by omega]
    refine q_iload dX7_digest_17 rfl ?_
    refine q_bipush dX7_digest_19 (v := 10) (by decide) ?_
    refine q_icmp_ge (tgt := 45) dX7_digest_21 (by decide) (fun c_21 => ?_) (fun h_n => absurd ((by decide)) h_n)
    exact q_lo [(0, .ref o), (1, .long (m_e1 cnt cl be by_ tc ta wa wr pl bi wo sh ch t c g 10)), (3, .int (nI t))] ⟨rfl, rfl, rfl, trivial⟩ hx
  | succ k ih =>
    intro i hi
    refine q_iload dX7_digest_17 rfl ?_
    refine q_bipush dX7_digest_19 (v := 10) (by decide) ?_
    refine q_icmp_ge (tgt := 45) dX7_digest_21 (by decide) (fun h_n => absurd h_n ((nI_ge (b := 10) (by omega) (by decide)))) (fun c_21 => ?_)
    refine q_ldc2 dX7_digest_24 cn_X7_224 ?_
    refine q_lload_n dX7_digest_27 rfl ?_
    refine q_lmul dX7_digest_28 ?_
    refine q_aload_n dX7_digest_29 rfl ?_
    refine q_iload_n dX7_digest_30 rfl ?_
    refine q_iload dX7_digest_31 rfl ?_
    refine q_cW (m_aboutOf hcnt ht hc htc hcl) dX7_digest_33 kl_X7_179 rfl (q_blk_get (j := 0) rfl) rfl ⟨q_le rfl, q_le rfl⟩ (q_le rfl) (q_le rfl) (q_le rfl) ?_
    refine q_i2l dX7_digest_36 ?_
    refine q_ladd dX7_digest_37 ?_
    refine q_lstore_n dX7_digest_38 (q_le rfl) ?_
    refine q_iinc dX7_digest_39 rfl (v := nI (i + 1)) (nI_1 i) ?_
    refine q_goto (tgt := 17) dX7_digest_42 (by decide) ?_
    exact q_lo [(0, .ref o), (1, .long (m_e1 cnt cl be by_ tc ta wa wr pl bi wo sh ch t c g (i + 1))), (3, .int (nI t)), (4, .int (nI (i + 1)))] ⟨rfl, rfl, rfl, rfl, trivial⟩ (ih (i + 1) (by omega))

set_option maxHeartbeats 4000000 in
set_option maxRecDepth 100000 in
theorem lp_m_dg2 {G : q_G} {d : q_D} {z : q_Z} {f : q_Hp} {n o cnt cl tn : Nat} {lost : Int32} {be by_ tc ta wa wr pl bi wo sh fa ca ph : Nat → Int32} {cm km gr : Nat → Int64} {kp : Nat → Int32} {su ro : Nat → Int64} {ou : Nat → Int32} {ex sz : Nat → Int64} {ww ch tp ir ow : Nat → Int32} {t c : Nat} {g : Int64} (hcnt : cnt ≤ 8) (ht : t < cnt) (hc : c ≤ 32) (htc : tc t = nI c) (hx : J G d uX7_digest z 0 0 n 85 (q_l [(0, .ref o), (1, .long (m_e2 ta t g c)), (3, .int (nI t))]) [] (q_blk f o (mE o cnt cl tn lost be by_ tc ta wa wr pl bi wo sh fa ca ph cm km gr kp su ro ou ex sz ww ch tp ir ow))) : ∀ (k i : Nat), i + k = c → J G d uX7_digest z 0 0 n 48 (q_l [(0, .ref o), (1, .long (m_e2 ta t g i)), (3, .int (nI t)), (4, .int (nI i))]) [] (q_blk f o (mE o cnt cl tn lost be by_ tc ta wa wr pl bi wo sh fa ca ph cm km gr kp su ro ou ex sz ww ch tp ir ow)) := by
  intro k
  induction k with
  | zero =>
    intro i hi
    rw [show i = c by omega]
    refine q_iload dX7_digest_48 rfl ?_
    refine q_aload_n dX7_digest_50 rfl ?_
    refine q_getf dX7_digest_51 fl_X7_16 (q_blk_get (j := 0) rfl) rfl ?_
    refine q_iload_n dX7_digest_54 rfl ?_
    refine q_ialdN dX7_digest_55 (q_blk_get (j := 3) rfl) (k := t) rfl (by omega) (by decide) ?_
    refine q_icmp_ge (tgt := 85) dX7_digest_56 (by decide) (fun c_56 => ?_) (fun h_n => absurd ((by rw [htc]; exact Int32.le_refl _)) h_n)
    exact q_lo [(0, .ref o), (1, .long (m_e2 ta t g c)), (3, .int (nI t))] ⟨rfl, rfl, rfl, trivial⟩ hx
  | succ k ih =>
    intro i hi
    refine q_iload dX7_digest_48 rfl ?_
    refine q_aload_n dX7_digest_50 rfl ?_
    refine q_getf dX7_digest_51 fl_X7_16 (q_blk_get (j := 0) rfl) rfl ?_
    refine q_iload_n dX7_digest_54 rfl ?_
    refine q_ialdN dX7_digest_55 (q_blk_get (j := 3) rfl) (k := t) rfl (by omega) (by decide) ?_
    refine q_icmp_ge (tgt := 85) dX7_digest_56 (by decide) (fun h_n => absurd h_n ((by rw [htc]; exact nI_ge (by omega) (by omega)))) (fun c_56 => ?_)
    refine q_ldc2 dX7_digest_59 cn_X7_224 ?_
    refine q_lload_n dX7_digest_62 rfl ?_
    refine q_lmul dX7_digest_63 ?_
    refine q_aload_n dX7_digest_64 rfl ?_
    refine q_getf dX7_digest_65 fl_X7_19 (q_blk_get (j := 0) rfl) rfl ?_
    refine q_bipush dX7_digest_68 (v := 32) (by decide) ?_
    refine q_iload_n dX7_digest_70 rfl ?_
    refine q_imul dX7_digest_71 ?_
    refine q_iload dX7_digest_72 rfl ?_
    refine q_iadd dX7_digest_74 ?_
    refine q_ialdN dX7_digest_75 (q_blk_get (j := 4) rfl) (k := 32 * t + i) (m_ix t i) (by omega) (by decide) ?_
    refine q_i2l dX7_digest_76 ?_
    refine q_ladd dX7_digest_77 ?_
    refine q_lstore_n dX7_digest_78 (q_le rfl) ?_
    refine q_iinc dX7_digest_79 rfl (v := nI (i + 1)) (nI_1 i) ?_
    refine q_goto (tgt := 48) dX7_digest_82 (by decide) ?_
    exact q_lo [(0, .ref o), (1, .long (m_e2 ta t g (i + 1))), (3, .int (nI t)), (4, .int (nI (i + 1)))] ⟨rfl, rfl, rfl, rfl, trivial⟩ (ih (i + 1) (by omega))

set_option maxHeartbeats 4000000 in
set_option maxRecDepth 100000 in
theorem lp_m_dg3 {G : q_G} {d : q_D} {z : q_Z} {f : q_Hp} {n o cnt cl tn : Nat} {lost : Int32} {be by_ tc ta wa wr pl bi wo sh fa ca ph : Nat → Int32} {cm km gr : Nat → Int64} {kp : Nat → Int32} {su ro : Nat → Int64} {ou : Nat → Int32} {ex sz : Nat → Int64} {ww ch tp ir ow : Nat → Int32} {t c : Nat} {g : Int64} (hcnt : cnt ≤ 8) (ht : t < cnt) (hc : c ≤ 32) (htc : tc t = nI c) (hp : ¬ pl t = 0) (hx : J G d uX7_digest z 0 0 n 134 (q_l [(0, .ref o), (1, .long (m_e2 fa t g c)), (3, .int (nI t))]) [] (q_blk f o (mE o cnt cl tn lost be by_ tc ta wa wr pl bi wo sh fa ca ph cm km gr kp su ro ou ex sz ww ch tp ir ow))) : ∀ (k i : Nat), i + k = c → J G d uX7_digest z 0 0 n 88 (q_l [(0, .ref o), (1, .long (m_e2 fa t g i)), (3, .int (nI t)), (4, .int (nI i))]) [] (q_blk f o (mE o cnt cl tn lost be by_ tc ta wa wr pl bi wo sh fa ca ph cm km gr kp su ro ou ex sz ww ch tp ir ow)) := by
  intro k
  induction k with
  | zero =>
    intro i hi
    rw [show i = c by omega]
    refine q_iload dX7_digest_88 rfl ?_
    refine q_aload_n dX7_digest_90 rfl ?_
    refine q_getf dX7_digest_91 fl_X7_16 (q_blk_get (j := 0) rfl) rfl ?_
    refine q_iload_n dX7_digest_94 rfl ?_
    refine q_ialdN dX7_digest_95 (q_blk_get (j := 3) rfl) (k := t) rfl (by omega) (by decide) ?_
    refine q_icmp_ge (tgt := 134) dX7_digest_96 (by decide) (fun c_96 => ?_) (fun h_n => absurd ((by rw [htc]; exact Int32.le_refl _)) h_n)
    exact q_lo [(0, .ref o), (1, .long (m_e2 fa t g c)), (3, .int (nI t))] ⟨rfl, rfl, rfl, trivial⟩ hx
  | succ k ih =>
    intro i hi
    refine q_iload dX7_digest_88 rfl ?_
    refine q_aload_n dX7_digest_90 rfl ?_
    refine q_getf dX7_digest_91 fl_X7_16 (q_blk_get (j := 0) rfl) rfl ?_
    refine q_iload_n dX7_digest_94 rfl ?_
    refine q_ialdN dX7_digest_95 (q_blk_get (j := 3) rfl) (k := t) rfl (by omega) (by decide) ?_
    refine q_icmp_ge (tgt := 134) dX7_digest_96 (by decide) (fun h_n => absurd h_n ((by rw [htc]; exact nI_ge (by omega) (by omega)))) (fun c_96 => ?_)
    refine q_aload_n dX7_digest_99 rfl ?_
    refine q_getf dX7_digest_100 fl_X7_29 (q_blk_get (j := 0) rfl) rfl ?_
    refine q_iload_n dX7_digest_103 rfl ?_
    refine q_zaldN dX7_digest_104 (q_blk_get (j := 7) rfl) (k := t) rfl (by omega) (by decide) ?_
    refine q_if_eq (tgt := 134) dX7_digest_105 (by decide) (fun h_n => absurd h_n (hp)) (fun c_105 => ?_)
    refine q_ldc2 dX7_digest_108 cn_X7_224 ?_
    refine q_lload_n dX7_digest_111 rfl ?_
    refine q_lmul dX7_digest_112 ?_
    refine q_aload_n dX7_digest_113 rfl ?_
    refine q_getf dX7_digest_114 fl_X7_41 (q_blk_get (j := 0) rfl) rfl ?_
    refine q_bipush dX7_digest_117 (v := 32) (by decide) ?_
    refine q_iload_n dX7_digest_119 rfl ?_
    refine q_imul dX7_digest_120 ?_
    refine q_iload dX7_digest_121 rfl ?_
    refine q_iadd dX7_digest_123 ?_
    refine q_ialdN dX7_digest_124 (q_blk_get (j := 11) rfl) (k := 32 * t + i) (m_ix t i) (by omega) (by decide) ?_
    refine q_i2l dX7_digest_125 ?_
    refine q_ladd dX7_digest_126 ?_
    refine q_lstore_n dX7_digest_127 (q_le rfl) ?_
    refine q_iinc dX7_digest_128 rfl (v := nI (i + 1)) (nI_1 i) ?_
    refine q_goto (tgt := 88) dX7_digest_131 (by decide) ?_
    exact q_lo [(0, .ref o), (1, .long (m_e2 fa t g (i + 1))), (3, .int (nI t)), (4, .int (nI (i + 1)))] ⟨rfl, rfl, rfl, rfl, trivial⟩ (ih (i + 1) (by omega))

set_option maxHeartbeats 4000000 in
set_option maxRecDepth 100000 in
theorem lp_m_dg4 {G : q_G} {d : q_D} {z : q_Z} {f : q_Hp} {n o cnt cl tn : Nat} {lost : Int32} {be by_ tc ta wa wr pl bi wo sh fa ca ph : Nat → Int32} {cm km gr : Nat → Int64} {kp : Nat → Int32} {su ro : Nat → Int64} {ou : Nat → Int32} {ex sz : Nat → Int64} {ww ch tp ir ow : Nat → Int32} {t c : Nat} {g : Int64} (hcnt : cnt ≤ 8) (ht : t < cnt) (hc : c ≤ 32) (htc : tc t = nI c) (hp : ¬ pl t = 0) (hx : J G d uX7_digest z 0 0 n 183 (q_l [(0, .ref o), (1, .long (m_e2 ca t g c)), (3, .int (nI t))]) [] (q_blk f o (mE o cnt cl tn lost be by_ tc ta wa wr pl bi wo sh fa ca ph cm km gr kp su ro ou ex sz ww ch tp ir ow))) : ∀ (k i : Nat), i + k = c → J G d uX7_digest z 0 0 n 137 (q_l [(0, .ref o), (1, .long (m_e2 ca t g i)), (3, .int (nI t)), (4, .int (nI i))]) [] (q_blk f o (mE o cnt cl tn lost be by_ tc ta wa wr pl bi wo sh fa ca ph cm km gr kp su ro ou ex sz ww ch tp ir ow)) := by
  intro k
  induction k with
  | zero =>
    intro i hi
    rw [show i = c by omega]
    refine q_iload dX7_digest_137 rfl ?_
    refine q_aload_n dX7_digest_139 rfl ?_
    refine q_getf dX7_digest_140 fl_X7_16 (q_blk_get (j := 0) rfl) rfl ?_
    refine q_iload_n dX7_digest_143 rfl ?_
    refine q_ialdN dX7_digest_144 (q_blk_get (j := 3) rfl) (k := t) rfl (by omega) (by decide) ?_
    refine q_icmp_ge (tgt := 183) dX7_digest_145 (by decide) (fun c_145 => ?_) (fun h_n => absurd ((by rw [htc]; exact Int32.le_refl _)) h_n)
    exact q_lo [(0, .ref o), (1, .long (m_e2 ca t g c)), (3, .int (nI t))] ⟨rfl, rfl, rfl, trivial⟩ hx
  | succ k ih =>
    intro i hi
    refine q_iload dX7_digest_137 rfl ?_
    refine q_aload_n dX7_digest_139 rfl ?_
    refine q_getf dX7_digest_140 fl_X7_16 (q_blk_get (j := 0) rfl) rfl ?_
    refine q_iload_n dX7_digest_143 rfl ?_
    refine q_ialdN dX7_digest_144 (q_blk_get (j := 3) rfl) (k := t) rfl (by omega) (by decide) ?_
    refine q_icmp_ge (tgt := 183) dX7_digest_145 (by decide) (fun h_n => absurd h_n ((by rw [htc]; exact nI_ge (by omega) (by omega)))) (fun c_145 => ?_)
    refine q_aload_n dX7_digest_148 rfl ?_
    refine q_getf dX7_digest_149 fl_X7_29 (q_blk_get (j := 0) rfl) rfl ?_
    refine q_iload_n dX7_digest_152 rfl ?_
    refine q_zaldN dX7_digest_153 (q_blk_get (j := 7) rfl) (k := t) rfl (by omega) (by decide) ?_
    refine q_if_eq (tgt := 183) dX7_digest_154 (by decide) (fun h_n => absurd h_n (hp)) (fun c_154 => ?_)
    refine q_ldc2 dX7_digest_157 cn_X7_224 ?_
    refine q_lload_n dX7_digest_160 rfl ?_
    refine q_lmul dX7_digest_161 ?_
    refine q_aload_n dX7_digest_162 rfl ?_
    refine q_getf dX7_digest_163 fl_X7_44 (q_blk_get (j := 0) rfl) rfl ?_
    refine q_bipush dX7_digest_166 (v := 32) (by decide) ?_
    refine q_iload_n dX7_digest_168 rfl ?_
    refine q_imul dX7_digest_169 ?_
    refine q_iload dX7_digest_170 rfl ?_
    refine q_iadd dX7_digest_172 ?_
    refine q_ialdN dX7_digest_173 (q_blk_get (j := 12) rfl) (k := 32 * t + i) (m_ix t i) (by omega) (by decide) ?_
    refine q_i2l dX7_digest_174 ?_
    refine q_ladd dX7_digest_175 ?_
    refine q_lstore_n dX7_digest_176 (q_le rfl) ?_
    refine q_iinc dX7_digest_177 rfl (v := nI (i + 1)) (nI_1 i) ?_
    refine q_goto (tgt := 137) dX7_digest_180 (by decide) ?_
    exact q_lo [(0, .ref o), (1, .long (m_e2 ca t g (i + 1))), (3, .int (nI t)), (4, .int (nI (i + 1)))] ⟨rfl, rfl, rfl, rfl, trivial⟩ (ih (i + 1) (by omega))

set_option maxHeartbeats 4000000 in
set_option maxRecDepth 100000 in
theorem lp_m_dgA {G : q_G} {d : q_D} {z : q_Z} {f : q_Hp} {n o cnt cl tn : Nat} {lost : Int32} {be by_ tc ta wa wr pl bi wo sh fa ca ph : Nat → Int32} {cm km gr : Nat → Int64} {kp : Nat → Int32} {su ro : Nat → Int64} {ou : Nat → Int32} {ex sz : Nat → Int64} {ww ch tp ir ow : Nat → Int32} {t c : Nat} {g : Int64} (hcnt : cnt ≤ 8) (ht : t < cnt) (hc : c ≤ 32) (htc : tc t = nI c) (hcl : cl ≤ 8) (hp : ¬ pl t = 0) (hx : J G d uX7_digest z 0 0 n 207 (q_l [(0, .ref o), (1, .long (31 * (31 * (m_e2 ca t (m_e2 fa t (m_e2 ta t (m_e1 cnt cl be by_ tc ta wa wr pl bi wo sh ch t c g 10) c) c) c) + m_cntd pl cm km gr t 0) + m_cntd pl cm km gr t 1)), (3, .int (nI t))]) [] (q_blk f o (mE o cnt cl tn lost be by_ tc ta wa wr pl bi wo sh fa ca ph cm km gr kp su ro ou ex sz ww ch tp ir ow))) : J G d uX7_digest z 0 0 n 14 (q_l [(0, .ref o), (1, .long g), (3, .int (nI t))]) [] (q_blk f o (mE o cnt cl tn lost be by_ tc ta wa wr pl bi wo sh fa ca ph cm km gr kp su ro ou ex sz ww ch tp ir ow)) := by
  refine q_iconst dX7_digest_14 (v := 0) (by decide) ?_
  refine q_istore dX7_digest_15 (q_le rfl) ?_
  refine q_lo [(0, .ref o), (1, .long (m_e1 cnt cl be by_ tc ta wa wr pl bi wo sh ch t c g 0)), (3, .int (nI t)), (4, .int (nI 0))] ⟨rfl, rfl, rfl, rfl, trivial⟩ (lp_m_dg1 hcnt ht hc htc hcl ?_ 10 0 (by omega))
  refine q_iconst dX7_digest_45 (v := 0) (by decide) ?_
  refine q_istore dX7_digest_46 (q_le rfl) ?_
  refine q_lo [(0, .ref o), (1, .long (m_e2 ta t (m_e1 cnt cl be by_ tc ta wa wr pl bi wo sh ch t c g 10) 0)), (3, .int (nI t)), (4, .int (nI 0))] ⟨rfl, rfl, rfl, rfl, trivial⟩ (lp_m_dg2 hcnt ht hc htc ?_ c 0 (by omega))
  refine q_iconst dX7_digest_85 (v := 0) (by decide) ?_
  refine q_istore dX7_digest_86 (q_le rfl) ?_
  refine q_lo [(0, .ref o), (1, .long (m_e2 fa t (m_e2 ta t (m_e1 cnt cl be by_ tc ta wa wr pl bi wo sh ch t c g 10) c) 0)), (3, .int (nI t)), (4, .int (nI 0))] ⟨rfl, rfl, rfl, rfl, trivial⟩ (lp_m_dg3 hcnt ht hc htc hp ?_ c 0 (by omega))
  refine q_iconst dX7_digest_134 (v := 0) (by decide) ?_
  refine q_istore dX7_digest_135 (q_le rfl) ?_
  refine q_lo [(0, .ref o), (1, .long (m_e2 ca t (m_e2 fa t (m_e2 ta t (m_e1 cnt cl be by_ tc ta wa wr pl bi wo sh ch t c g 10) c) c) 0)), (3, .int (nI t)), (4, .int (nI 0))] ⟨rfl, rfl, rfl, rfl, trivial⟩ (lp_m_dg4 hcnt ht hc htc hp ?_ c 0 (by omega))
  refine q_ldc2 dX7_digest_183 cn_X7_224 ?_
  refine q_ldc2 dX7_digest_186 cn_X7_224 ?_
  refine q_lload_n dX7_digest_189 rfl ?_
  refine q_lmul dX7_digest_190 ?_
  refine q_aload_n dX7_digest_191 rfl ?_
  refine q_iload_n dX7_digest_192 rfl ?_
  refine q_iconst dX7_digest_193 (v := 0) (by decide) ?_
  refine q_cW (m_cntd_ok hcnt ht rfl) dX7_digest_194 kl_X7_226 rfl (q_blk_get (j := 0) rfl) rfl ⟨q_le rfl, q_le rfl⟩ (q_le rfl) (q_le rfl) (q_le rfl) ?_
  refine q_ladd dX7_digest_197 ?_
  refine q_lmul dX7_digest_198 ?_
  refine q_aload_n dX7_digest_199 rfl ?_
  refine q_iload_n dX7_digest_200 rfl ?_
  refine q_iconst dX7_digest_201 (v := 1) (by decide) ?_
  refine q_cW (m_cntd_ok hcnt ht rfl) dX7_digest_202 kl_X7_226 rfl (q_blk_get (j := 0) rfl) rfl ⟨q_le rfl, q_le rfl⟩ (q_le rfl) (q_le rfl) (q_le rfl) ?_
  refine q_ladd dX7_digest_205 ?_
  refine q_lstore_n dX7_digest_206 (q_le rfl) ?_
  exact q_lo [(0, .ref o), (1, .long (31 * (31 * (m_e2 ca t (m_e2 fa t (m_e2 ta t (m_e1 cnt cl be by_ tc ta wa wr pl bi wo sh ch t c g 10) c) c) c) + m_cntd pl cm km gr t 0) + m_cntd pl cm km gr t 1)), (3, .int (nI t))] ⟨rfl, rfl, rfl, trivial⟩ hx

set_option maxHeartbeats 4000000 in
set_option maxRecDepth 100000 in
theorem lp_m_dgB {G : q_G} {d : q_D} {z : q_Z} {f : q_Hp} {n o cnt cl tn : Nat} {lost : Int32} {be by_ tc ta wa wr pl bi wo sh fa ca ph : Nat → Int32} {cm km gr : Nat → Int64} {kp : Nat → Int32} {su ro : Nat → Int64} {ou : Nat → Int32} {ex sz : Nat → Int64} {ww ch tp ir ow : Nat → Int32} {t c : Nat} {g : Int64} (hcnt : cnt ≤ 8) (ht : t < cnt) (hc : c ≤ 32) (htc : tc t = nI c) (hcl : cl ≤ 8) (hp : pl t = 0) (hx : J G d uX7_digest z 0 0 n 207 (q_l [(0, .ref o), (1, .long (31 * (31 * (m_e2 ta t (m_e1 cnt cl be by_ tc ta wa wr pl bi wo sh ch t c g 10) c) + m_cntd pl cm km gr t 0) + m_cntd pl cm km gr t 1)), (3, .int (nI t))]) [] (q_blk f o (mE o cnt cl tn lost be by_ tc ta wa wr pl bi wo sh fa ca ph cm km gr kp su ro ou ex sz ww ch tp ir ow))) : J G d uX7_digest z 0 0 n 14 (q_l [(0, .ref o), (1, .long g), (3, .int (nI t))]) [] (q_blk f o (mE o cnt cl tn lost be by_ tc ta wa wr pl bi wo sh fa ca ph cm km gr kp su ro ou ex sz ww ch tp ir ow)) := by
  refine q_iconst dX7_digest_14 (v := 0) (by decide) ?_
  refine q_istore dX7_digest_15 (q_le rfl) ?_
  refine q_lo [(0, .ref o), (1, .long (m_e1 cnt cl be by_ tc ta wa wr pl bi wo sh ch t c g 0)), (3, .int (nI t)), (4, .int (nI 0))] ⟨rfl, rfl, rfl, rfl, trivial⟩ (lp_m_dg1 hcnt ht hc htc hcl ?_ 10 0 (by omega))
  refine q_iconst dX7_digest_45 (v := 0) (by decide) ?_
  refine q_istore dX7_digest_46 (q_le rfl) ?_
  refine q_lo [(0, .ref o), (1, .long (m_e2 ta t (m_e1 cnt cl be by_ tc ta wa wr pl bi wo sh ch t c g 10) 0)), (3, .int (nI t)), (4, .int (nI 0))] ⟨rfl, rfl, rfl, rfl, trivial⟩ (lp_m_dg2 hcnt ht hc htc ?_ c 0 (by omega))
  refine q_iconst dX7_digest_85 (v := 0) (by decide) ?_
  refine q_istore dX7_digest_86 (q_le rfl) ?_
  refine q_iload dX7_digest_88 rfl ?_
  refine q_aload_n dX7_digest_90 rfl ?_
  refine q_getf dX7_digest_91 fl_X7_16 (q_blk_get (j := 0) rfl) rfl ?_
  refine q_iload_n dX7_digest_94 rfl ?_
  refine q_ialdN dX7_digest_95 (q_blk_get (j := 3) rfl) (k := t) rfl (by omega) (by decide) ?_
  refine q_icmp_ge (tgt := 134) dX7_digest_96 (by decide) (fun c_96 => ?_) (fun c_96 => ?_)
  · refine q_iconst dX7_digest_134 (v := 0) (by decide) ?_
    refine q_istore dX7_digest_135 (q_le rfl) ?_
    refine q_iload dX7_digest_137 rfl ?_
    refine q_aload_n dX7_digest_139 rfl ?_
    refine q_getf dX7_digest_140 fl_X7_16 (q_blk_get (j := 0) rfl) rfl ?_
    refine q_iload_n dX7_digest_143 rfl ?_
    refine q_ialdN dX7_digest_144 (q_blk_get (j := 3) rfl) (k := t) rfl (by omega) (by decide) ?_
    refine q_icmp_ge (tgt := 183) dX7_digest_145 (by decide) (fun c_145 => ?_) (fun c_145 => ?_)
    · refine q_ldc2 dX7_digest_183 cn_X7_224 ?_
      refine q_ldc2 dX7_digest_186 cn_X7_224 ?_
      refine q_lload_n dX7_digest_189 rfl ?_
      refine q_lmul dX7_digest_190 ?_
      refine q_aload_n dX7_digest_191 rfl ?_
      refine q_iload_n dX7_digest_192 rfl ?_
      refine q_iconst dX7_digest_193 (v := 0) (by decide) ?_
      refine q_cW (m_cntd_ok hcnt ht rfl) dX7_digest_194 kl_X7_226 rfl (q_blk_get (j := 0) rfl) rfl ⟨q_le rfl, q_le rfl⟩ (q_le rfl) (q_le rfl) (q_le rfl) ?_
      refine q_ladd dX7_digest_197 ?_
      refine q_lmul dX7_digest_198 ?_
      refine q_aload_n dX7_digest_199 rfl ?_
      refine q_iload_n dX7_digest_200 rfl ?_
      refine q_iconst dX7_digest_201 (v := 1) (by decide) ?_
      refine q_cW (m_cntd_ok hcnt ht rfl) dX7_digest_202 kl_X7_226 rfl (q_blk_get (j := 0) rfl) rfl ⟨q_le rfl, q_le rfl⟩ (q_le rfl) (q_le rfl) (q_le rfl) ?_
      refine q_ladd dX7_digest_205 ?_
      refine q_lstore_n dX7_digest_206 (q_le rfl) ?_
      exact q_lo [(0, .ref o), (1, .long (31 * (31 * (m_e2 ta t (m_e1 cnt cl be by_ tc ta wa wr pl bi wo sh ch t c g 10) c) + m_cntd pl cm km gr t 0) + m_cntd pl cm km gr t 1)), (3, .int (nI t))] ⟨rfl, rfl, rfl, trivial⟩ hx
    · refine q_aload_n dX7_digest_148 rfl ?_
      refine q_getf dX7_digest_149 fl_X7_29 (q_blk_get (j := 0) rfl) rfl ?_
      refine q_iload_n dX7_digest_152 rfl ?_
      refine q_zaldN dX7_digest_153 (q_blk_get (j := 7) rfl) (k := t) rfl (by omega) (by decide) ?_
      refine q_if_eq (tgt := 183) dX7_digest_154 (by decide) (fun c_154 => ?_) (fun h_n => absurd (hp) h_n)
      refine q_ldc2 dX7_digest_183 cn_X7_224 ?_
      refine q_ldc2 dX7_digest_186 cn_X7_224 ?_
      refine q_lload_n dX7_digest_189 rfl ?_
      refine q_lmul dX7_digest_190 ?_
      refine q_aload_n dX7_digest_191 rfl ?_
      refine q_iload_n dX7_digest_192 rfl ?_
      refine q_iconst dX7_digest_193 (v := 0) (by decide) ?_
      refine q_cW (m_cntd_ok hcnt ht rfl) dX7_digest_194 kl_X7_226 rfl (q_blk_get (j := 0) rfl) rfl ⟨q_le rfl, q_le rfl⟩ (q_le rfl) (q_le rfl) (q_le rfl) ?_
      refine q_ladd dX7_digest_197 ?_
      refine q_lmul dX7_digest_198 ?_
      refine q_aload_n dX7_digest_199 rfl ?_
      refine q_iload_n dX7_digest_200 rfl ?_
      refine q_iconst dX7_digest_201 (v := 1) (by decide) ?_
      refine q_cW (m_cntd_ok hcnt ht rfl) dX7_digest_202 kl_X7_226 rfl (q_blk_get (j := 0) rfl) rfl ⟨q_le rfl, q_le rfl⟩ (q_le rfl) (q_le rfl) (q_le rfl) ?_
      refine q_ladd dX7_digest_205 ?_
      refine q_lstore_n dX7_digest_206 (q_le rfl) ?_
      exact q_lo [(0, .ref o), (1, .long (31 * (31 * (m_e2 ta t (m_e1 cnt cl be by_ tc ta wa wr pl bi wo sh ch t c g 10) c) + m_cntd pl cm km gr t 0) + m_cntd pl cm km gr t 1)), (3, .int (nI t))] ⟨rfl, rfl, rfl, trivial⟩ hx
  · refine q_aload_n dX7_digest_99 rfl ?_
    refine q_getf dX7_digest_100 fl_X7_29 (q_blk_get (j := 0) rfl) rfl ?_
    refine q_iload_n dX7_digest_103 rfl ?_
    refine q_zaldN dX7_digest_104 (q_blk_get (j := 7) rfl) (k := t) rfl (by omega) (by decide) ?_
    refine q_if_eq (tgt := 134) dX7_digest_105 (by decide) (fun c_105 => ?_) (fun h_n => absurd (hp) h_n)
    refine q_iconst dX7_digest_134 (v := 0) (by decide) ?_
    refine q_istore dX7_digest_135 (q_le rfl) ?_
    refine q_iload dX7_digest_137 rfl ?_
    refine q_aload_n dX7_digest_139 rfl ?_
    refine q_getf dX7_digest_140 fl_X7_16 (q_blk_get (j := 0) rfl) rfl ?_
    refine q_iload_n dX7_digest_143 rfl ?_
    refine q_ialdN dX7_digest_144 (q_blk_get (j := 3) rfl) (k := t) rfl (by omega) (by decide) ?_
    refine q_icmp_ge (tgt := 183) dX7_digest_145 (by decide) (fun c_145 => ?_) (fun c_145 => ?_)
    · refine q_ldc2 dX7_digest_183 cn_X7_224 ?_
      refine q_ldc2 dX7_digest_186 cn_X7_224 ?_
      refine q_lload_n dX7_digest_189 rfl ?_
      refine q_lmul dX7_digest_190 ?_
      refine q_aload_n dX7_digest_191 rfl ?_
      refine q_iload_n dX7_digest_192 rfl ?_
      refine q_iconst dX7_digest_193 (v := 0) (by decide) ?_
      refine q_cW (m_cntd_ok hcnt ht rfl) dX7_digest_194 kl_X7_226 rfl (q_blk_get (j := 0) rfl) rfl ⟨q_le rfl, q_le rfl⟩ (q_le rfl) (q_le rfl) (q_le rfl) ?_
      refine q_ladd dX7_digest_197 ?_
      refine q_lmul dX7_digest_198 ?_
      refine q_aload_n dX7_digest_199 rfl ?_
      refine q_iload_n dX7_digest_200 rfl ?_
      refine q_iconst dX7_digest_201 (v := 1) (by decide) ?_
      refine q_cW (m_cntd_ok hcnt ht rfl) dX7_digest_202 kl_X7_226 rfl (q_blk_get (j := 0) rfl) rfl ⟨q_le rfl, q_le rfl⟩ (q_le rfl) (q_le rfl) (q_le rfl) ?_
      refine q_ladd dX7_digest_205 ?_
      refine q_lstore_n dX7_digest_206 (q_le rfl) ?_
      exact q_lo [(0, .ref o), (1, .long (31 * (31 * (m_e2 ta t (m_e1 cnt cl be by_ tc ta wa wr pl bi wo sh ch t c g 10) c) + m_cntd pl cm km gr t 0) + m_cntd pl cm km gr t 1)), (3, .int (nI t))] ⟨rfl, rfl, rfl, trivial⟩ hx
    · refine q_aload_n dX7_digest_148 rfl ?_
      refine q_getf dX7_digest_149 fl_X7_29 (q_blk_get (j := 0) rfl) rfl ?_
      refine q_iload_n dX7_digest_152 rfl ?_
      refine q_zaldN dX7_digest_153 (q_blk_get (j := 7) rfl) (k := t) rfl (by omega) (by decide) ?_
      refine q_if_eq (tgt := 183) dX7_digest_154 (by decide) (fun c_154 => ?_) (fun h_n => absurd (hp) h_n)
      refine q_ldc2 dX7_digest_183 cn_X7_224 ?_
      refine q_ldc2 dX7_digest_186 cn_X7_224 ?_
      refine q_lload_n dX7_digest_189 rfl ?_
      refine q_lmul dX7_digest_190 ?_
      refine q_aload_n dX7_digest_191 rfl ?_
      refine q_iload_n dX7_digest_192 rfl ?_
      refine q_iconst dX7_digest_193 (v := 0) (by decide) ?_
      refine q_cW (m_cntd_ok hcnt ht rfl) dX7_digest_194 kl_X7_226 rfl (q_blk_get (j := 0) rfl) rfl ⟨q_le rfl, q_le rfl⟩ (q_le rfl) (q_le rfl) (q_le rfl) ?_
      refine q_ladd dX7_digest_197 ?_
      refine q_lmul dX7_digest_198 ?_
      refine q_aload_n dX7_digest_199 rfl ?_
      refine q_iload_n dX7_digest_200 rfl ?_
      refine q_iconst dX7_digest_201 (v := 1) (by decide) ?_
      refine q_cW (m_cntd_ok hcnt ht rfl) dX7_digest_202 kl_X7_226 rfl (q_blk_get (j := 0) rfl) rfl ⟨q_le rfl, q_le rfl⟩ (q_le rfl) (q_le rfl) (q_le rfl) ?_
      refine q_ladd dX7_digest_205 ?_
      refine q_lstore_n dX7_digest_206 (q_le rfl) ?_
      exact q_lo [(0, .ref o), (1, .long (31 * (31 * (m_e2 ta t (m_e1 cnt cl be by_ tc ta wa wr pl bi wo sh ch t c g 10) c) + m_cntd pl cm km gr t 0) + m_cntd pl cm km gr t 1)), (3, .int (nI t))] ⟨rfl, rfl, rfl, trivial⟩ hx

def m_dg1 (cnt cl : Nat) (be by_ tc ta wa wr pl bi wo sh ch fa ca : Nat → Int32) (cm km gr : Nat → Int64) (t c : Nat) (g : Int64) : Int64 := 31 * (31 * (if pl t = 0 then m_e2 ta t (m_e1 cnt cl be by_ tc ta wa wr pl bi wo sh ch t c g 10) c else m_e2 ca t (m_e2 fa t (m_e2 ta t (m_e1 cnt cl be by_ tc ta wa wr pl bi wo sh ch t c g 10) c) c) c) + m_cntd pl cm km gr t 0) + m_cntd pl cm km gr t 1
def m_dg (cnt cl : Nat) (be by_ tc ta wa wr pl bi wo sh ch fa ca : Nat → Int32) (cm km gr : Nat → Int64) : Nat → Int64
  | 0 => 43
  | t + 1 => m_dg1 cnt cl be by_ tc ta wa wr pl bi wo sh ch fa ca cm km gr t (tc t).toNatClampNeg (m_dg cnt cl be by_ tc ta wa wr pl bi wo sh ch fa ca cm km gr t)
set_option maxHeartbeats 4000000 in
set_option maxRecDepth 100000 in
theorem lp_m_dg {G : q_G} {d : q_D} {z : q_Z} {f : q_Hp} {n o cnt cl tn : Nat} {lost : Int32} {be by_ tc ta wa wr pl bi wo sh fa ca ph : Nat → Int32} {cm km gr : Nat → Int64} {kp : Nat → Int32} {su ro : Nat → Int64} {ou : Nat → Int32} {ex sz : Nat → Int64} {ww ch tp ir ow : Nat → Int32} (hcnt : cnt ≤ 8) (hcl : cl ≤ 8) (hst : ∀ t : Nat, t < cnt → ∃ c : Nat, c ≤ 32 ∧ tc t = nI c) (hx : J G d uX7_digest z 0 0 n 213 (q_l [(0, .ref o), (1, .long (m_dg cnt cl be by_ tc ta wa wr pl bi wo sh ch fa ca cm km gr cnt))]) [] (q_blk f o (mE o cnt cl tn lost be by_ tc ta wa wr pl bi wo sh fa ca ph cm km gr kp su ro ou ex sz ww ch tp ir ow))) : ∀ (k i : Nat), i + k = cnt → J G d uX7_digest z 0 0 n 6 (q_l [(0, .ref o), (1, .long (m_dg cnt cl be by_ tc ta wa wr pl bi wo sh ch fa ca cm km gr i)), (3, .int (nI i))]) [] (q_blk f o (mE o cnt cl tn lost be by_ tc ta wa wr pl bi wo sh fa ca ph cm km gr kp su ro ou ex sz ww ch tp ir ow)) := by
  intro k
  induction k with
  | zero =>
    intro i hi
    rw [show i = cnt by omega]
    refine q_iload_n dX7_digest_6 rfl ?_
    refine q_aload_n dX7_digest_7 rfl ?_
    refine q_getf dX7_digest_8 fl_X7_93 (q_blk_get (j := 0) rfl) rfl ?_
    refine q_icmp_ge (tgt := 213) dX7_digest_11 (by decide) (fun c_11 => ?_) (fun h_n => absurd ((Int32.le_refl _)) h_n)
    exact q_lo [(0, .ref o), (1, .long (m_dg cnt cl be by_ tc ta wa wr pl bi wo sh ch fa ca cm km gr cnt))] ⟨rfl, rfl, trivial⟩ hx
  | succ k ih =>
    intro i hi
    refine q_iload_n dX7_digest_6 rfl ?_
    refine q_aload_n dX7_digest_7 rfl ?_
    refine q_getf dX7_digest_8 fl_X7_93 (q_blk_get (j := 0) rfl) rfl ?_
    refine q_icmp_ge (tgt := 213) dX7_digest_11 (by decide) (fun h_n => absurd h_n ((nI_ge (by omega) (by omega)))) (fun c_11 => ?_)
    obtain ⟨c, hc, htc⟩ := hst i (by omega)
    have e : (tc i).toNatClampNeg = c := by rw [htc]; exact nI_clamp (by omega)
    refine q_lo [(0, .ref o), (1, .long (m_dg cnt cl be by_ tc ta wa wr pl bi wo sh ch fa ca cm km gr i)), (3, .int (nI i))] ⟨rfl, rfl, rfl, trivial⟩ ?_
    by_cases hp : pl i = 0
    · have hE : (m_dg cnt cl be by_ tc ta wa wr pl bi wo sh ch fa ca cm km gr (i + 1)) = (31 * (31 * (m_e2 ta i (m_e1 cnt cl be by_ tc ta wa wr pl bi wo sh ch i c (m_dg cnt cl be by_ tc ta wa wr pl bi wo sh ch fa ca cm km gr i) 10) c) + m_cntd pl cm km gr i 0) + m_cntd pl cm km gr i 1) := by
        show m_dg1 cnt cl be by_ tc ta wa wr pl bi wo sh ch fa ca cm km gr i (tc i).toNatClampNeg (m_dg cnt cl be by_ tc ta wa wr pl bi wo sh ch fa ca cm km gr i) = _
        rw [e]
        unfold m_dg1
        rw [if_pos hp]
      refine lp_m_dgB hcnt (show i < cnt by omega) hc htc hcl hp ?_
      refine q_iinc dX7_digest_207 rfl (v := nI (i + 1)) (nI_1 i) ?_
      refine q_goto (tgt := 6) dX7_digest_210 (by decide) ?_
      exact q_lo [(0, .ref o), (1, .long (m_dg cnt cl be by_ tc ta wa wr pl bi wo sh ch fa ca cm km gr (i + 1))), (3, .int (nI (i + 1)))] ⟨rfl, by rw [hE]; rfl, rfl, trivial⟩ (ih (i + 1) (by omega))
    · have hE : (m_dg cnt cl be by_ tc ta wa wr pl bi wo sh ch fa ca cm km gr (i + 1)) = (31 * (31 * (m_e2 ca i (m_e2 fa i (m_e2 ta i (m_e1 cnt cl be by_ tc ta wa wr pl bi wo sh ch i c (m_dg cnt cl be by_ tc ta wa wr pl bi wo sh ch fa ca cm km gr i) 10) c) c) c) + m_cntd pl cm km gr i 0) + m_cntd pl cm km gr i 1) := by
        show m_dg1 cnt cl be by_ tc ta wa wr pl bi wo sh ch fa ca cm km gr i (tc i).toNatClampNeg (m_dg cnt cl be by_ tc ta wa wr pl bi wo sh ch fa ca cm km gr i) = _
        rw [e]
        unfold m_dg1
        rw [if_neg hp]
      refine lp_m_dgA hcnt (show i < cnt by omega) hc htc hcl hp ?_
      refine q_iinc dX7_digest_207 rfl (v := nI (i + 1)) (nI_1 i) ?_
      refine q_goto (tgt := 6) dX7_digest_210 (by decide) ?_
      exact q_lo [(0, .ref o), (1, .long (m_dg cnt cl be by_ tc ta wa wr pl bi wo sh ch fa ca cm km gr (i + 1))), (3, .int (nI (i + 1)))] ⟨rfl, by rw [hE]; rfl, rfl, trivial⟩ (ih (i + 1) (by omega))

set_option maxHeartbeats 4000000 in
set_option maxRecDepth 100000 in
theorem lp_m_dgT {G : q_G} {d : q_D} {z : q_Z} {f : q_Hp} {n o cnt cl tn : Nat} {lost : Int32} {be by_ tc ta wa wr pl bi wo sh fa ca ph : Nat → Int32} {cm km gr : Nat → Int64} {kp : Nat → Int32} {su ro : Nat → Int64} {ou : Nat → Int32} {ex sz : Nat → Int64} {ww ch tp ir ow : Nat → Int32} {g : Int64} (htn : tn ≤ 600) (hx : J G d uX7_digest z 0 0 n 243 (q_l [(1, .long (m_e3 tp g tn))]) [] (q_blk f o (mE o cnt cl tn lost be by_ tc ta wa wr pl bi wo sh fa ca ph cm km gr kp su ro ou ex sz ww ch tp ir ow))) : ∀ (k i : Nat), i + k = tn → J G d uX7_digest z 0 0 n 215 (q_l [(0, .ref o), (1, .long (m_e3 tp g i)), (3, .int (nI i))]) [] (q_blk f o (mE o cnt cl tn lost be by_ tc ta wa wr pl bi wo sh fa ca ph cm km gr kp su ro ou ex sz ww ch tp ir ow)) := by
  intro k
  induction k with
  | zero =>
    intro i hi
    rw [show i = tn by omega]
    refine q_iload_n dX7_digest_215 rfl ?_
    refine q_aload_n dX7_digest_216 rfl ?_
    refine q_getf dX7_digest_217 fl_X7_201 (q_blk_get (j := 0) rfl) rfl ?_
    refine q_icmp_ge (tgt := 243) dX7_digest_220 (by decide) (fun c_220 => ?_) (fun h_n => absurd ((Int32.le_refl _)) h_n)
    exact q_lo [(1, .long (m_e3 tp g tn))] ⟨rfl, trivial⟩ hx
  | succ k ih =>
    intro i hi
    refine q_iload_n dX7_digest_215 rfl ?_
    refine q_aload_n dX7_digest_216 rfl ?_
    refine q_getf dX7_digest_217 fl_X7_201 (q_blk_get (j := 0) rfl) rfl ?_
    refine q_icmp_ge (tgt := 243) dX7_digest_220 (by decide) (fun h_n => absurd h_n ((nI_ge (by omega) (by omega)))) (fun c_220 => ?_)
    refine q_ldc2 dX7_digest_223 cn_X7_224 ?_
    refine q_lload_n dX7_digest_226 rfl ?_
    refine q_lmul dX7_digest_227 ?_
    refine q_aload_n dX7_digest_228 rfl ?_
    refine q_getf dX7_digest_229 fl_X7_84 (q_blk_get (j := 0) rfl) rfl ?_
    refine q_iload_n dX7_digest_232 rfl ?_
    refine q_ialdN dX7_digest_233 (q_blk_get (j := 25) rfl) (k := i) rfl (by omega) (by decide) ?_
    refine q_i2l dX7_digest_234 ?_
    refine q_ladd dX7_digest_235 ?_
    refine q_lstore_n dX7_digest_236 (q_le rfl) ?_
    refine q_iinc dX7_digest_237 rfl (v := nI (i + 1)) (nI_1 i) ?_
    refine q_goto (tgt := 215) dX7_digest_240 (by decide) ?_
    exact q_lo [(0, .ref o), (1, .long (m_e3 tp g (i + 1))), (3, .int (nI (i + 1)))] ⟨rfl, rfl, rfl, trivial⟩ (ih (i + 1) (by omega))

set_option maxHeartbeats 4000000 in
set_option maxRecDepth 100000 in
theorem m_digest {f : q_Hp} {n o cnt cl tn : Nat} {lost : Int32} {be by_ tc ta wa wr pl bi wo sh fa ca ph : Nat → Int32} {cm km gr : Nat → Int64} {kp : Nat → Int32} {su ro : Nat → Int64} {ou : Nat → Int32} {ex sz : Nat → Int64} {ww ch tp ir ow : Nat → Int32}  (hcnt : cnt ≤ 8) (hcl : cl ≤ 8) (htn : tn ≤ 600) (hst : ∀ t : Nat, t < cnt → ∃ c : Nat, c ≤ 32 ∧ tc t = nI c) : Sp yX7_digest uX7_digest [.ref o] n (q_blk f o (mE o cnt cl tn lost be by_ tc ta wa wr pl bi wo sh fa ca ph cm km gr kp su ro ou ex sz ww ch tp ir ow)) (some (.long (m_e3 tp (m_dg cnt cl be by_ tc ta wa wr pl bi wo sh ch fa ca cm km gr cnt) tn)), n, (q_blk f o (mE o cnt cl tn lost be by_ tc ta wa wr pl bi wo sh fa ca ph cm km gr kp su ro ou ex sz ww ch tp ir ow))) := by
  refine Sp.ofF (by decide +kernel) rfl rfl (q_le rfl) ?_
  intro G d
  refine q_ldc2 dX7_digest_0 cn_X7_222 ?_
  refine q_lstore_n dX7_digest_3 (q_le rfl) ?_
  refine q_iconst dX7_digest_4 (v := 0) (by decide) ?_
  refine q_istore_n dX7_digest_5 (q_le rfl) ?_
  refine q_lo [(0, .ref o), (1, .long (m_dg cnt cl be by_ tc ta wa wr pl bi wo sh ch fa ca cm km gr 0)), (3, .int (nI 0))] ⟨rfl, rfl, rfl, trivial⟩ (lp_m_dg hcnt hcl hst ?_ cnt 0 (by omega))
  refine q_iconst dX7_digest_213 (v := 0) (by decide) ?_
  refine q_istore_n dX7_digest_214 (q_le rfl) ?_
  refine q_lo [(0, .ref o), (1, .long (m_e3 tp (m_dg cnt cl be by_ tc ta wa wr pl bi wo sh ch fa ca cm km gr cnt) 0)), (3, .int (nI 0))] ⟨rfl, rfl, rfl, trivial⟩ (lp_m_dgT htn ?_ tn 0 (by omega))
  refine q_lload_n dX7_digest_243 rfl ?_
  exact q_lret dX7_digest_244 rfl (rfl) (q_le rfl) (q_le rfl)

