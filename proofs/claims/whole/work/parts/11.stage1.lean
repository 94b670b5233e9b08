def s_odd (x : Int64) : Bool := !decide (x &&& 1 = 0)
set_option maxHeartbeats 4000000 in
set_option maxRecDepth 100000 in
theorem c_X4_isOdd {f : q_Hp} {n : Nat} {x : Int64} : Sp yX4_isOdd uX4_isOdd [.long x] n f (some (.int (q_b (s_odd x))), n, f) := by
  refine Sp.ofF (by decide +kernel) rfl rfl (q_le rfl) ?_
  intro G d
  refine q_lload_n dX4_isOdd_0 rfl ?_
  refine q_lconst dX4_isOdd_1 (v := 1) (by decide) ?_
  refine q_land dX4_isOdd_2 ?_
  refine q_lconst dX4_isOdd_3 (v := 0) (by decide) ?_
  refine q_lcmp_eq (tgt := 12) dX4_isOdd_4 dX4_isOdd_5 (by decide) (fun c_4 => ?_) (fun c_4 => ?_)
  · refine q_iconst dX4_isOdd_12 (v := 0) (by decide) ?_
    exact q_zret dX4_isOdd_13 rfl rfl (by simp [s_odd, q_b, c_4]) (q_le rfl) (q_le rfl)
  · refine q_iconst dX4_isOdd_8 (v := 1) (by decide) ?_
    refine q_goto (tgt := 13) dX4_isOdd_9 (by decide) ?_
    exact q_zret dX4_isOdd_13 rfl rfl (by simp [s_odd, q_b, c_4]) (q_le rfl) (q_le rfl)

def s_near2 (ab : Int64) (below : Int32) (fl : Int64) : Int64 := if below.toInt64 < 2 * (ab - fl * below.toInt64) then fl + 1 else if 2 * (ab - fl * below.toInt64) = below.toInt64 then (bif s_odd fl then fl + 1 else fl) else fl
def s_near (t below shift : Int32) : Int64 := if 1 ≤ below then s_near2 (t.toInt64 * (1 <<< (shift.toInt64 &&& 63))) below (m_fdiv (t.toInt64 * (1 <<< (shift.toInt64 &&& 63))) below.toInt64) else 0
theorem i64_ne0 {x : Int32} (h : 1 ≤ x) : ¬ x.toInt64 = 0 := by
  intro e
  have h1 : (1 : Int32).toInt ≤ x.toInt := Int32.le_iff_toInt_le.mp h
  have h2 := congrArg Int64.toInt e
  rw [Int32.toInt_toInt64] at h2
  rw [h2] at h1
  exact absurd h1 (by decide)
set_option maxHeartbeats 4000000 in
set_option maxRecDepth 100000 in
theorem c_X4_nearest {f : q_Hp} {n : Nat} {t below shift : Int32} : Sp yX4_nearest uX4_nearest [.int t, .int below, .int shift] n f (some (.long (s_near t below shift)), n, f) := by
  refine Sp.ofF (by decide +kernel) rfl rfl (q_le rfl) ?_
  intro G d
  refine q_iload_n dX4_nearest_0 rfl ?_
  refine q_iconst dX4_nearest_1 (v := 1) (by decide) ?_
  refine q_icmp_ge (tgt := 7) dX4_nearest_2 (by decide) (fun c_2 => ?_) (fun c_2 => ?_)
  · refine q_iload_n dX4_nearest_7 rfl ?_
    refine q_i2l dX4_nearest_8 ?_
    refine q_lconst dX4_nearest_9 (v := 1) (by decide) ?_
    refine q_iload_n dX4_nearest_10 rfl ?_
    refine q_lshl dX4_nearest_11 ?_
    refine q_lmul dX4_nearest_12 ?_
    refine q_lstore_n dX4_nearest_13 (q_le rfl) ?_
    refine q_lload_n dX4_nearest_14 rfl ?_
    refine q_iload_n dX4_nearest_15 rfl ?_
    refine q_i2l dX4_nearest_16 ?_
    refine q_cS (c_J9_floorDiv_f86c9 (i64_ne0 c_2)) dX4_nearest_17 kl_X4_162 rfl ⟨q_le rfl, q_le rfl⟩ (q_le rfl) (q_le rfl) (q_le rfl) ?_
    refine q_lstore dX4_nearest_20 (q_le rfl) ?_
    refine q_ldc2 dX4_nearest_22 cn_X4_165 ?_
    refine q_lload_n dX4_nearest_25 rfl ?_
    refine q_lload dX4_nearest_26 rfl ?_
    refine q_iload_n dX4_nearest_28 rfl ?_
    refine q_i2l dX4_nearest_29 ?_
    refine q_lmul dX4_nearest_30 ?_
    refine q_lsub dX4_nearest_31 ?_
    refine q_lmul dX4_nearest_32 ?_
    refine q_lstore dX4_nearest_33 (q_le rfl) ?_
    refine q_lload dX4_nearest_35 rfl ?_
    refine q_iload_n dX4_nearest_37 rfl ?_
    refine q_i2l dX4_nearest_38 ?_
    refine q_lcmp_gt (tgt := 59) dX4_nearest_39 dX4_nearest_40 (by decide) (fun c_39 => ?_) (fun c_39 => ?_)
    · refine q_lload dX4_nearest_59 rfl ?_
      refine q_lconst dX4_nearest_61 (v := 1) (by decide) ?_
      refine q_ladd dX4_nearest_62 ?_
      exact q_lret dX4_nearest_63 rfl (by simp [s_near, s_near2, c_2, c_39]) (q_le rfl) (q_le rfl)
    · refine q_lload dX4_nearest_43 rfl ?_
      refine q_iload_n dX4_nearest_45 rfl ?_
      refine q_i2l dX4_nearest_46 ?_
      refine q_lcmp_ne (tgt := 64) dX4_nearest_47 dX4_nearest_48 (by decide) (fun c_47 => ?_) (fun c_47 => ?_)
      · refine q_lload dX4_nearest_64 rfl ?_
        exact q_lret dX4_nearest_66 rfl (by simp [s_near, s_near2, c_2, c_39, c_47]) (q_le rfl) (q_le rfl)
      · refine q_lload dX4_nearest_51 rfl ?_
        refine q_cS (c_X4_isOdd) dX4_nearest_53 kl_X4_167 rfl ⟨q_le rfl, q_le rfl⟩ (q_le rfl) (q_le rfl) (q_le rfl) ?_
        refine q_ifeq_b (tgt := 64) dX4_nearest_56 (by decide) (fun b_56 => ?_) (fun b_56 => ?_)
        · refine q_lload dX4_nearest_64 rfl ?_
          exact q_lret dX4_nearest_66 rfl (by simp [s_near, s_near2, c_2, c_39, c_47, b_56]) (q_le rfl) (q_le rfl)
        · refine q_lload dX4_nearest_59 rfl ?_
          refine q_lconst dX4_nearest_61 (v := 1) (by decide) ?_
          refine q_ladd dX4_nearest_62 ?_
          exact q_lret dX4_nearest_63 rfl (by simp [s_near, s_near2, c_2, c_39, c_47, b_56]) (q_le rfl) (q_le rfl)
  · refine q_lconst dX4_nearest_5 (v := 0) (by decide) ?_
    exact q_lret dX4_nearest_6 rfl (by simp [s_near, s_near2, c_2]) (q_le rfl) (q_le rfl)

def s_round (s : Int64) (sh way : Int32) : Int64 :=
  if way = 1 then (if 0 ≤ s then s >>> (sh.toInt64 &&& 63) else if s - (s >>> (sh.toInt64 &&& 63)) * ((1 : Int64) <<< (sh.toInt64 &&& 63)) ≤ 0 then s >>> (sh.toInt64 &&& 63) else s >>> (sh.toInt64 &&& 63) + 1)
  else if way = 2 then (if 2 * (s - (s >>> (sh.toInt64 &&& 63)) * ((1 : Int64) <<< (sh.toInt64 &&& 63))) < (1 : Int64) <<< (sh.toInt64 &&& 63) then s >>> (sh.toInt64 &&& 63) else s >>> (sh.toInt64 &&& 63) + 1)
  else if way = 3 then (if (1 : Int64) <<< (sh.toInt64 &&& 63) < 2 * (s - (s >>> (sh.toInt64 &&& 63)) * ((1 : Int64) <<< (sh.toInt64 &&& 63))) then s >>> (sh.toInt64 &&& 63) + 1 else if 2 * (s - (s >>> (sh.toInt64 &&& 63)) * ((1 : Int64) <<< (sh.toInt64 &&& 63))) = (1 : Int64) <<< (sh.toInt64 &&& 63) then (bif s_odd (s >>> (sh.toInt64 &&& 63)) then s >>> (sh.toInt64 &&& 63) + 1 else s >>> (sh.toInt64 &&& 63)) else s >>> (sh.toInt64 &&& 63))
  else s >>> (sh.toInt64 &&& 63)
set_option maxHeartbeats 4000000 in
set_option maxRecDepth 100000 in
theorem c_X4_roundedSum {f : q_Hp} {n : Nat} {s : Int64} {sh way : Int32} : Sp yX4_roundedSum uX4_roundedSum [.long s, .int sh, .int way] n f (some (.long (s_round s sh way)), n, f) := by
  refine Sp.ofF (by decide +kernel) rfl rfl (q_le rfl) ?_
  intro G d
  refine q_lconst dX4_roundedSum_0 (v := 1) (by decide) ?_
  refine q_iload_n dX4_roundedSum_1 rfl ?_
  refine q_lshl dX4_roundedSum_2 ?_
  refine q_lstore dX4_roundedSum_3 (q_le rfl) ?_
  refine q_lload_n dX4_roundedSum_5 rfl ?_
  refine q_iload_n dX4_roundedSum_6 rfl ?_
  refine q_lshr dX4_roundedSum_7 ?_
  refine q_lstore dX4_roundedSum_8 (q_le rfl) ?_
  refine q_lload_n dX4_roundedSum_10 rfl ?_
  refine q_lload dX4_roundedSum_11 rfl ?_
  refine q_lload dX4_roundedSum_13 rfl ?_
  refine q_lmul dX4_roundedSum_15 ?_
  refine q_lsub dX4_roundedSum_16 ?_
  refine q_lstore dX4_roundedSum_17 (q_le rfl) ?_
  refine q_iload_n dX4_roundedSum_19 rfl ?_
  by_cases s_20_1 : way = 1
  · refine q_tblIn (off := 28) (tgt := 48) dX4_roundedSum_20 (by rw [s_20_1]; decide) (by rw [s_20_1]; decide) (by rw [s_20_1]; rfl) (by decide) ?_
    refine q_lload_n dX4_roundedSum_48 rfl ?_
    refine q_lconst dX4_roundedSum_49 (v := 0) (by decide) ?_
    refine q_lcmp_ge (tgt := 65) dX4_roundedSum_50 dX4_roundedSum_51 (by decide) (fun c_50 => ?_) (fun c_50 => ?_)
    · refine q_iconst dX4_roundedSum_65 (v := 0) (by decide) ?_
      refine q_istore dX4_roundedSum_66 (q_le rfl) ?_
      refine q_goto (tgt := 138) dX4_roundedSum_68 (by decide) ?_
      refine q_iload dX4_roundedSum_138 rfl ?_
      refine q_if_eq (tgt := 150) dX4_roundedSum_140 (by decide) (fun _ => ?_) (fun h_n => absurd (by decide) h_n)
      refine q_lload dX4_roundedSum_150 rfl ?_
      exact q_lret dX4_roundedSum_152 rfl (by simp only [s_round]; simp [s_20_1, c_50]) (q_le rfl) (q_le rfl)
    · refine q_lload dX4_roundedSum_54 rfl ?_
      refine q_lconst dX4_roundedSum_56 (v := 0) (by decide) ?_
      refine q_lcmp_le (tgt := 65) dX4_roundedSum_57 dX4_roundedSum_58 (by decide) (fun c_57 => ?_) (fun c_57 => ?_)
      · refine q_iconst dX4_roundedSum_65 (v := 0) (by decide) ?_
        refine q_istore dX4_roundedSum_66 (q_le rfl) ?_
        refine q_goto (tgt := 138) dX4_roundedSum_68 (by decide) ?_
        refine q_iload dX4_roundedSum_138 rfl ?_
        refine q_if_eq (tgt := 150) dX4_roundedSum_140 (by decide) (fun _ => ?_) (fun h_n => absurd (by decide) h_n)
        refine q_lload dX4_roundedSum_150 rfl ?_
        exact q_lret dX4_roundedSum_152 rfl (by simp only [s_round]; simp [s_20_1, c_50, c_57]) (q_le rfl) (q_le rfl)
      · refine q_iconst dX4_roundedSum_61 (v := 1) (by decide) ?_
        refine q_goto (tgt := 66) dX4_roundedSum_62 (by decide) ?_
        refine q_istore dX4_roundedSum_66 (q_le rfl) ?_
        refine q_goto (tgt := 138) dX4_roundedSum_68 (by decide) ?_
        refine q_iload dX4_roundedSum_138 rfl ?_
        refine q_if_eq (tgt := 150) dX4_roundedSum_140 (by decide) (fun h_n => absurd h_n (by decide)) (fun _ => ?_)
        refine q_lload dX4_roundedSum_143 rfl ?_
        refine q_lconst dX4_roundedSum_145 (v := 1) (by decide) ?_
        refine q_ladd dX4_roundedSum_146 ?_
        refine q_goto (tgt := 152) dX4_roundedSum_147 (by decide) ?_
        exact q_lret dX4_roundedSum_152 rfl (by simp only [s_round]; simp [s_20_1, c_50, c_57]) (q_le rfl) (q_le rfl)
  by_cases s_20_2 : way = 2
  · refine q_tblIn (off := 51) (tgt := 71) dX4_roundedSum_20 (by rw [s_20_2]; decide) (by rw [s_20_2]; decide) (by rw [s_20_2]; rfl) (by decide) ?_
    refine q_ldc2 dX4_roundedSum_71 cn_X4_165 ?_
    refine q_lload dX4_roundedSum_74 rfl ?_
    refine q_lmul dX4_roundedSum_76 ?_
    refine q_lload dX4_roundedSum_77 rfl ?_
    refine q_lcmp_lt (tgt := 87) dX4_roundedSum_79 dX4_roundedSum_80 (by decide) (fun c_79 => ?_) (fun c_79 => ?_)
    · refine q_iconst dX4_roundedSum_87 (v := 0) (by decide) ?_
      refine q_istore dX4_roundedSum_88 (q_le rfl) ?_
      refine q_goto (tgt := 138) dX4_roundedSum_90 (by decide) ?_
      refine q_iload dX4_roundedSum_138 rfl ?_
      refine q_if_eq (tgt := 150) dX4_roundedSum_140 (by decide) (fun _ => ?_) (fun h_n => absurd (by decide) h_n)
      refine q_lload dX4_roundedSum_150 rfl ?_
      exact q_lret dX4_roundedSum_152 rfl (by simp only [s_round]; simp [s_20_1, s_20_2, c_79]) (q_le rfl) (q_le rfl)
    · refine q_iconst dX4_roundedSum_83 (v := 1) (by decide) ?_
      refine q_goto (tgt := 88) dX4_roundedSum_84 (by decide) ?_
      refine q_istore dX4_roundedSum_88 (q_le rfl) ?_
      refine q_goto (tgt := 138) dX4_roundedSum_90 (by decide) ?_
      refine q_iload dX4_roundedSum_138 rfl ?_
      refine q_if_eq (tgt := 150) dX4_roundedSum_140 (by decide) (fun h_n => absurd h_n (by decide)) (fun _ => ?_)
      refine q_lload dX4_roundedSum_143 rfl ?_
      refine q_lconst dX4_roundedSum_145 (v := 1) (by decide) ?_
      refine q_ladd dX4_roundedSum_146 ?_
      refine q_goto (tgt := 152) dX4_roundedSum_147 (by decide) ?_
      exact q_lret dX4_roundedSum_152 rfl (by simp only [s_round]; simp [s_20_1, s_20_2, c_79]) (q_le rfl) (q_le rfl)
  by_cases s_20_3 : way = 3
  · refine q_tblIn (off := 73) (tgt := 93) dX4_roundedSum_20 (by rw [s_20_3]; decide) (by rw [s_20_3]; decide) (by rw [s_20_3]; rfl) (by decide) ?_
    refine q_ldc2 dX4_roundedSum_93 cn_X4_165 ?_
    refine q_lload dX4_roundedSum_96 rfl ?_
    refine q_lmul dX4_roundedSum_98 ?_
    refine q_lload dX4_roundedSum_99 rfl ?_
    refine q_lcmp_gt (tgt := 125) dX4_roundedSum_101 dX4_roundedSum_102 (by decide) (fun c_101 => ?_) (fun c_101 => ?_)
    · refine q_iconst dX4_roundedSum_125 (v := 1) (by decide) ?_
      refine q_goto (tgt := 130) dX4_roundedSum_126 (by decide) ?_
      refine q_istore dX4_roundedSum_130 (q_le rfl) ?_
      refine q_goto (tgt := 138) dX4_roundedSum_132 (by decide) ?_
      refine q_iload dX4_roundedSum_138 rfl ?_
      refine q_if_eq (tgt := 150) dX4_roundedSum_140 (by decide) (fun h_n => absurd h_n (by decide)) (fun _ => ?_)
      refine q_lload dX4_roundedSum_143 rfl ?_
      refine q_lconst dX4_roundedSum_145 (v := 1) (by decide) ?_
      refine q_ladd dX4_roundedSum_146 ?_
      refine q_goto (tgt := 152) dX4_roundedSum_147 (by decide) ?_
      exact q_lret dX4_roundedSum_152 rfl (by simp only [s_round]; simp [s_20_1, s_20_2, s_20_3, c_101]) (q_le rfl) (q_le rfl)
    · refine q_ldc2 dX4_roundedSum_105 cn_X4_165 ?_
      refine q_lload dX4_roundedSum_108 rfl ?_
      refine q_lmul dX4_roundedSum_110 ?_
      refine q_lload dX4_roundedSum_111 rfl ?_
      refine q_lcmp_ne (tgt := 129) dX4_roundedSum_113 dX4_roundedSum_114 (by decide) (fun c_113 => ?_) (fun c_113 => ?_)
      · refine q_iconst dX4_roundedSum_129 (v := 0) (by decide) ?_
        refine q_istore dX4_roundedSum_130 (q_le rfl) ?_
        refine q_goto (tgt := 138) dX4_roundedSum_132 (by decide) ?_
        refine q_iload dX4_roundedSum_138 rfl ?_
        refine q_if_eq (tgt := 150) dX4_roundedSum_140 (by decide) (fun _ => ?_) (fun h_n => absurd (by decide) h_n)
        refine q_lload dX4_roundedSum_150 rfl ?_
        exact q_lret dX4_roundedSum_152 rfl (by simp only [s_round]; simp [s_20_1, s_20_2, s_20_3, c_101, c_113]) (q_le rfl) (q_le rfl)
      · refine q_lload dX4_roundedSum_117 rfl ?_
        refine q_cS (c_X4_isOdd) dX4_roundedSum_119 kl_X4_167 rfl ⟨q_le rfl, q_le rfl⟩ (q_le rfl) (q_le rfl) (q_le rfl) ?_
        refine q_ifeq_b (tgt := 129) dX4_roundedSum_122 (by decide) (fun b_122 => ?_) (fun b_122 => ?_)
        · refine q_iconst dX4_roundedSum_129 (v := 0) (by decide) ?_
          refine q_istore dX4_roundedSum_130 (q_le rfl) ?_
          refine q_goto (tgt := 138) dX4_roundedSum_132 (by decide) ?_
          refine q_iload dX4_roundedSum_138 rfl ?_
          refine q_if_eq (tgt := 150) dX4_roundedSum_140 (by decide) (fun _ => ?_) (fun h_n => absurd (by decide) h_n)
          refine q_lload dX4_roundedSum_150 rfl ?_
          exact q_lret dX4_roundedSum_152 rfl (by simp only [s_round]; simp [s_20_1, s_20_2, s_20_3, c_101, c_113, b_122]) (q_le rfl) (q_le rfl)
        · refine q_iconst dX4_roundedSum_125 (v := 1) (by decide) ?_
          refine q_goto (tgt := 130) dX4_roundedSum_126 (by decide) ?_
          refine q_istore dX4_roundedSum_130 (q_le rfl) ?_
          refine q_goto (tgt := 138) dX4_roundedSum_132 (by decide) ?_
          refine q_iload dX4_roundedSum_138 rfl ?_
          refine q_if_eq (tgt := 150) dX4_roundedSum_140 (by decide) (fun h_n => absurd h_n (by decide)) (fun _ => ?_)
          refine q_lload dX4_roundedSum_143 rfl ?_
          refine q_lconst dX4_roundedSum_145 (v := 1) (by decide) ?_
          refine q_ladd dX4_roundedSum_146 ?_
          refine q_goto (tgt := 152) dX4_roundedSum_147 (by decide) ?_
          exact q_lret dX4_roundedSum_152 rfl (by simp only [s_round]; simp [s_20_1, s_20_2, s_20_3, c_101, c_113, b_122]) (q_le rfl) (q_le rfl)
  have is_20_1 := q_ne s_20_1 (i := 1) (by decide)
  have is_20_2 := q_ne s_20_2 (i := 2) (by decide)
  have is_20_3 := q_ne s_20_3 (i := 3) (by decide)
  refine q_tblOut (tgt := 135) dX4_roundedSum_20 (by omega) (by decide) ?_
  refine q_iconst dX4_roundedSum_135 (v := 0) (by decide) ?_
  refine q_istore dX4_roundedSum_136 (q_le rfl) ?_
  refine q_iload dX4_roundedSum_138 rfl ?_
  refine q_if_eq (tgt := 150) dX4_roundedSum_140 (by decide) (fun _ => ?_) (fun h_n => absurd (by decide) h_n)
  refine q_lload dX4_roundedSum_150 rfl ?_
  exact q_lret dX4_roundedSum_152 rfl (by simp only [s_round]; simp [s_20_1, s_20_2, s_20_3]) (q_le rfl) (q_le rfl)

def s_held (r : Int64) (wr : Int32) : Int32 := if wr = 0 then (m_max (-32768) (m_min 32767 r)).toInt32 else r.toInt32.toInt16.toInt32
set_option maxHeartbeats 4000000 in
set_option maxRecDepth 100000 in
theorem c_X4_heldNumber {f : q_Hp} {n : Nat} {r : Int64} {wr : Int32} : Sp yX4_heldNumber uX4_heldNumber [.long r, .int wr] n f (some (.int (s_held r wr)), n, f) := by
  refine Sp.ofF (by decide +kernel) rfl rfl (q_le rfl) ?_
  intro G d
  refine q_iload_n dX4_heldNumber_0 rfl ?_
  refine q_if_eq (tgt := 8) dX4_heldNumber_1 (by decide) (fun c_1 => ?_) (fun c_1 => ?_)
  · refine q_ldc2 dX4_heldNumber_8 cn_X4_171 ?_
    refine q_ldc2 dX4_heldNumber_11 cn_X4_173 ?_
    refine q_lload_n dX4_heldNumber_14 rfl ?_
    refine q_cS (c_J9_min_f86c9) dX4_heldNumber_15 kl_X4_175 rfl ⟨q_le rfl, q_le rfl⟩ (q_le rfl) (q_le rfl) (q_le rfl) ?_
    refine q_cS (c_J9_max_f86c9) dX4_heldNumber_18 kl_X4_156 rfl ⟨q_le rfl, q_le rfl⟩ (q_le rfl) (q_le rfl) (q_le rfl) ?_
    refine q_l2i dX4_heldNumber_21 ?_
    exact q_iret dX4_heldNumber_22 rfl (by simp [s_held, c_1]) (q_le rfl) (q_le rfl)
  · refine q_lload_n dX4_heldNumber_4 rfl ?_
    refine q_l2i dX4_heldNumber_5 ?_
    refine q_i2s dX4_heldNumber_6 ?_
    exact q_iret dX4_heldNumber_7 rfl (by simp [s_held, c_1]) (q_le rfl) (q_le rfl)

def s_ok (tc k : Int32) : Bool := !decide (k < 0) && !decide (tc ≤ k) && !decide (32 ≤ k)
theorem s_ok_in {tc k : Int32} (h : s_ok tc k = true) : vp_in k 32 := by
  simp only [s_ok, Bool.and_eq_true, Bool.not_eq_true', decide_eq_false_iff_not] at h
  exact q_vq h.1.1 h.2 (by decide) (by decide)
def s_tap (tc : Int32) (taps : Nat → Int32) (k : Int32) : Int32 := bif s_ok tc k then taps k.toNatClampNeg else 0
def s_roomy (tc : Int32) : Bool := !decide (tc < 0) && decide (tc < 32)
theorem s_roomy_in {tc : Int32} (h : ¬ tc < 0) (h2 : tc < 32) : vp_in tc 32 := by
  refine q_vq (M := 32) h (fun e => ?_) (by decide) (by decide)
  exact Int32.lt_irrefl (Int32.lt_of_lt_of_le h2 e)
set_option maxHeartbeats 4000000 in
set_option maxRecDepth 100000 in
theorem c_X4_hasTap {f : q_Hp} {n p : Nat} {below by_ tc way wr thin : Int32} {cin hld gst : Int64} {taps : Nat → Int32} {pst bits word shift : Int32} {psz : Int64} {fac : Nat → Int32} {lst : Int32} {sum ex rnd : Int64} {out : Int32} {ssz : Int64} {rby : Int32} {wds : Nat → Int32} {rhd : Int32} {k : Int32} : Sp yX4_hasTap uX4_hasTap [.ref p, .int k] n (q_blk f p (stE p (below, by_, tc, way, wr, thin, cin, hld, gst, taps, pst, bits, word, shift, psz, fac, lst, sum, ex, rnd, out, ssz, rby, wds, rhd))) (some (.int (q_b (s_ok tc k))), n, q_blk f p (stE p (below, by_, tc, way, wr, thin, cin, hld, gst, taps, pst, bits, word, shift, psz, fac, lst, sum, ex, rnd, out, ssz, rby, wds, rhd))) := by
  refine Sp.ofF (by decide +kernel) rfl rfl (q_le rfl) ?_
  intro G d
  refine q_iload_n dX4_hasTap_0 rfl ?_
  refine q_if_lt (tgt := 25) dX4_hasTap_1 (by decide) (fun c_1 => ?_) (fun c_1 => ?_)
  · refine q_iconst dX4_hasTap_25 (v := 0) (by decide) ?_
    exact q_zret dX4_hasTap_26 rfl rfl (by simp [s_ok, q_b, c_1]) (q_le rfl) (q_le rfl)
  · refine q_iload_n dX4_hasTap_4 rfl ?_
    refine q_aload_n dX4_hasTap_5 rfl ?_
    refine q_getf dX4_hasTap_6 fl_X4_22 (q_blk_get (j := 0) rfl) rfl ?_
    refine q_icmp_ge (tgt := 25) dX4_hasTap_9 (by decide) (fun c_9 => ?_) (fun c_9 => ?_)
    · refine q_iconst dX4_hasTap_25 (v := 0) (by decide) ?_
      exact q_zret dX4_hasTap_26 rfl rfl (by simp [s_ok, q_b, c_1, c_9]) (q_le rfl) (q_le rfl)
    · refine q_iload_n dX4_hasTap_12 rfl ?_
      refine q_aload_n dX4_hasTap_13 rfl ?_
      refine q_getf dX4_hasTap_14 fl_X4_18 (q_blk_get (j := 0) rfl) rfl ?_
      refine q_alen dX4_hasTap_17 (q_blk_get (j := 1) rfl) rfl (v := 32) rfl ?_
      refine q_icmp_ge (tgt := 25) dX4_hasTap_18 (by decide) (fun c_18 => ?_) (fun c_18 => ?_)
      · refine q_iconst dX4_hasTap_25 (v := 0) (by decide) ?_
        exact q_zret dX4_hasTap_26 rfl rfl (by simp [s_ok, q_b, c_1, c_9, c_18]) (q_le rfl) (q_le rfl)
      · refine q_iconst dX4_hasTap_21 (v := 1) (by decide) ?_
        refine q_goto (tgt := 26) dX4_hasTap_22 (by decide) ?_
        exact q_zret dX4_hasTap_26 rfl rfl (by simp [s_ok, q_b, c_1, c_9, c_18]) (q_le rfl) (q_le rfl)

set_option maxHeartbeats 4000000 in
set_option maxRecDepth 100000 in
theorem c_X4_tapAt {f : q_Hp} {n p : Nat} {below by_ tc way wr thin : Int32} {cin hld gst : Int64} {taps : Nat → Int32} {pst bits word shift : Int32} {psz : Int64} {fac : Nat → Int32} {lst : Int32} {sum ex rnd : Int64} {out : Int32} {ssz : Int64} {rby : Int32} {wds : Nat → Int32} {rhd : Int32} {k : Int32} : Sp yX4_tapAt uX4_tapAt [.ref p, .int k] n (q_blk f p (stE p (below, by_, tc, way, wr, thin, cin, hld, gst, taps, pst, bits, word, shift, psz, fac, lst, sum, ex, rnd, out, ssz, rby, wds, rhd))) (some (.int (s_tap tc taps k)), n, q_blk f p (stE p (below, by_, tc, way, wr, thin, cin, hld, gst, taps, pst, bits, word, shift, psz, fac, lst, sum, ex, rnd, out, ssz, rby, wds, rhd))) := by
  refine Sp.ofF (by decide +kernel) rfl rfl (q_le rfl) ?_
  intro G d
  refine q_aload_n dX4_tapAt_0 rfl ?_
  refine q_iload_n dX4_tapAt_1 rfl ?_
  refine q_cW (c_X4_hasTap) dX4_tapAt_2 kl_X4_53 rfl (q_blk_get (j := 0) rfl) rfl ⟨q_le rfl, q_le rfl⟩ (q_le rfl) (q_le rfl) (q_le rfl) ?_
  refine q_ifeq_b (tgt := 17) dX4_tapAt_5 (by decide) (fun c_5 => ?_) (fun c_5 => ?_)
  · refine q_iconst dX4_tapAt_17 (v := 0) (by decide) ?_
    exact q_iret dX4_tapAt_18 rfl (by simp [s_tap, c_5]) (q_le rfl) (q_le rfl)
  · refine q_aload_n dX4_tapAt_8 rfl ?_
    refine q_getf dX4_tapAt_9 fl_X4_18 (q_blk_get (j := 0) rfl) rfl ?_
    refine q_iload_n dX4_tapAt_12 rfl ?_
    refine q_iald dX4_tapAt_13 (q_blk_get (j := 1) rfl) (s_ok_in c_5) ?_
    refine q_goto (tgt := 18) dX4_tapAt_14 (by decide) ?_
    exact q_iret dX4_tapAt_18 rfl (by simp [s_tap, c_5]) (q_le rfl) (q_le rfl)

set_option maxHeartbeats 4000000 in
set_option maxRecDepth 100000 in
theorem c_X4_setTap {f : q_Hp} {n p : Nat} {below by_ tc way wr thin : Int32} {cin hld gst : Int64} {taps : Nat → Int32} {pst bits word shift : Int32} {psz : Int64} {fac : Nat → Int32} {lst : Int32} {sum ex rnd : Int64} {out : Int32} {ssz : Int64} {rby : Int32} {wds : Nat → Int32} {rhd : Int32} {k x : Int32} : Sp yX4_setTap uX4_setTap [.ref p, .int k, .int x] n (q_blk f p (stE p (below, by_, tc, way, wr, thin, cin, hld, gst, taps, pst, bits, word, shift, psz, fac, lst, sum, ex, rnd, out, ssz, rby, wds, rhd))) (none, n, q_blk f p (stE p (below, by_, tc, way, wr, thin, cin, hld, gst, bif s_ok tc k then upd taps k.toNatClampNeg x else taps, pst, bits, word, shift, psz, fac, lst, sum, ex, rnd, out, ssz, rby, wds, rhd))) := by
  refine Sp.ofF (by decide +kernel) rfl rfl (q_le rfl) ?_
  intro G d
  refine q_aload_n dX4_setTap_0 rfl ?_
  refine q_iload_n dX4_setTap_1 rfl ?_
  refine q_cW (c_X4_hasTap) dX4_setTap_2 kl_X4_53 rfl (q_blk_get (j := 0) rfl) rfl ⟨q_le rfl, q_le rfl⟩ (q_le rfl) (q_le rfl) (q_le rfl) ?_
  refine q_ifeq_b (tgt := 15) dX4_setTap_5 (by decide) (fun c_5 => ?_) (fun c_5 => ?_)
  · exact q_vret dX4_setTap_15 rfl (by rw [c_5]; rfl) (q_le rfl) (q_le rfl)
  · refine q_aload_n dX4_setTap_8 rfl ?_
    refine q_getf dX4_setTap_9 fl_X4_18 (q_blk_get (j := 0) rfl) rfl ?_
    refine q_iload_n dX4_setTap_12 rfl ?_
    refine q_iload_n dX4_setTap_13 rfl ?_
    refine q_iast dX4_setTap_14 (q_blk_get (j := 1) rfl) (s_ok_in c_5) ?_
    refine q_heap (q_blk_up (j := 1) (q_le rfl)) ?_
    exact q_vret dX4_setTap_15 rfl (by rw [c_5]; rfl) (q_le rfl) (q_le rfl)

set_option maxHeartbeats 4000000 in
set_option maxRecDepth 100000 in
theorem c_X4_addTap {f : q_Hp} {n p : Nat} {below by_ tc way wr thin : Int32} {cin hld gst : Int64} {taps : Nat → Int32} {pst bits word shift : Int32} {psz : Int64} {fac : Nat → Int32} {lst : Int32} {sum ex rnd : Int64} {out : Int32} {ssz : Int64} {rby : Int32} {wds : Nat → Int32} {rhd : Int32} {x : Int32} : Sp yX4_addTap uX4_addTap [.ref p, .int x] n (q_blk f p (stE p (below, by_, tc, way, wr, thin, cin, hld, gst, taps, pst, bits, word, shift, psz, fac, lst, sum, ex, rnd, out, ssz, rby, wds, rhd))) (some (.int (q_b (s_roomy tc))), n, q_blk f p (stE p (below, by_, bif s_roomy tc then tc + 1 else tc, way, wr, thin, cin, hld, gst, bif s_roomy tc then upd taps tc.toNatClampNeg x else taps, pst, bits, word, shift, psz, fac, lst, sum, ex, rnd, out, ssz, rby, wds, rhd))) := by
  refine Sp.ofF (by decide +kernel) rfl rfl (q_le rfl) ?_
  intro G d
  refine q_aload_n dX4_addTap_0 rfl ?_
  refine q_getf dX4_addTap_1 fl_X4_22 (q_blk_get (j := 0) rfl) rfl ?_
  refine q_if_lt (tgt := 19) dX4_addTap_4 (by decide) (fun c_4 => ?_) (fun c_4 => ?_)
  · refine q_iconst dX4_addTap_19 (v := 0) (by decide) ?_
    exact q_zret dX4_addTap_20 rfl rfl (by rw [show s_roomy tc = false by simp [s_roomy, c_4]]; rfl) (q_le rfl) (q_le rfl)
  · refine q_aload_n dX4_addTap_7 rfl ?_
    refine q_getf dX4_addTap_8 fl_X4_22 (q_blk_get (j := 0) rfl) rfl ?_
    refine q_aload_n dX4_addTap_11 rfl ?_
    refine q_getf dX4_addTap_12 fl_X4_18 (q_blk_get (j := 0) rfl) rfl ?_
    refine q_alen dX4_addTap_15 (q_blk_get (j := 1) rfl) rfl (v := 32) rfl ?_
    refine q_icmp_lt (tgt := 21) dX4_addTap_16 (by decide) (fun c_16 => ?_) (fun c_16 => ?_)
    · refine q_aload_n dX4_addTap_21 rfl ?_
      refine q_getf dX4_addTap_22 fl_X4_18 (q_blk_get (j := 0) rfl) rfl ?_
      refine q_aload_n dX4_addTap_25 rfl ?_
      refine q_getf dX4_addTap_26 fl_X4_22 (q_blk_get (j := 0) rfl) rfl ?_
      refine q_iload_n dX4_addTap_29 rfl ?_
      refine q_iast dX4_addTap_30 (q_blk_get (j := 1) rfl) (s_roomy_in c_4 c_16) ?_
      refine q_heap (q_blk_up (j := 1) (q_le rfl)) ?_
      refine q_aload_n dX4_addTap_31 rfl ?_
      refine q_dup dX4_addTap_32 rfl ?_
      refine q_getf dX4_addTap_33 fl_X4_22 (q_blk_get (j := 0) rfl) rfl ?_
      refine q_iconst dX4_addTap_36 (v := 1) (by decide) ?_
      refine q_iadd dX4_addTap_37 ?_
      refine q_putf dX4_addTap_38 pl_X4_22 (q_blk_get (j := 0) rfl) (q_le rfl) rfl rfl ?_
      refine q_heap (q_blk_up (j := 0) (q_le rfl)) ?_
      refine q_iconst dX4_addTap_41 (v := 1) (by decide) ?_
      exact q_zret dX4_addTap_42 rfl rfl (by rw [show s_roomy tc = true by simp [s_roomy, c_4, c_16]]; rfl) (q_le rfl) (q_le rfl)
    · refine q_iconst dX4_addTap_19 (v := 0) (by decide) ?_
      exact q_zret dX4_addTap_20 rfl rfl (by rw [show s_roomy tc = false by simp [s_roomy, c_4, c_16]]; rfl) (q_le rfl) (q_le rfl)

def s_fill (by_ : Int32) : Int32 := if 0 ≤ by_ then 1 else -by_
set_option maxHeartbeats 4000000 in
set_option maxRecDepth 100000 in
theorem c_X4_filling {f : q_Hp} {n p : Nat} {below by_ tc way wr thin : Int32} {cin hld gst : Int64} {taps : Nat → Int32} {pst bits word shift : Int32} {psz : Int64} {fac : Nat → Int32} {lst : Int32} {sum ex rnd : Int64} {out : Int32} {ssz : Int64} {rby : Int32} {wds : Nat → Int32} {rhd : Int32} : Sp yX4_filling uX4_filling [.ref p] n (q_blk f p (stE p (below, by_, tc, way, wr, thin, cin, hld, gst, taps, pst, bits, word, shift, psz, fac, lst, sum, ex, rnd, out, ssz, rby, wds, rhd))) (some (.int (s_fill by_)), n, q_blk f p (stE p (below, by_, tc, way, wr, thin, cin, hld, gst, taps, pst, bits, word, shift, psz, fac, lst, sum, ex, rnd, out, ssz, rby, wds, rhd))) := by
  refine Sp.ofF (by decide +kernel) rfl rfl (q_le rfl) ?_
  intro G d
  refine q_aload_n dX4_filling_0 rfl ?_
  refine q_getf dX4_filling_1 fl_X4_15 (q_blk_get (j := 0) rfl) rfl ?_
  refine q_if_ge (tgt := 15) dX4_filling_4 (by decide) (fun c_4 => ?_) (fun c_4 => ?_)
  · refine q_iconst dX4_filling_15 (v := 1) (by decide) ?_
    exact q_iret dX4_filling_16 rfl (by simp [s_fill, c_4]) (q_le rfl) (q_le rfl)
  · refine q_aload_n dX4_filling_7 rfl ?_
    refine q_getf dX4_filling_8 fl_X4_15 (q_blk_get (j := 0) rfl) rfl ?_
    refine q_ineg dX4_filling_11 ?_
    refine q_goto (tgt := 16) dX4_filling_12 (by decide) ?_
    exact q_iret dX4_filling_16 rfl (by simp [s_fill, c_4]) (q_le rfl) (q_le rfl)

set_option maxHeartbeats 4000000 in
set_option maxRecDepth 100000 in
theorem c_X4_dropPlan {f : q_Hp} {n p : Nat} {below by_ tc way wr thin : Int32} {cin hld gst : Int64} {taps : Nat → Int32} {pst bits word shift : Int32} {psz : Int64} {fac : Nat → Int32} {lst : Int32} {sum ex rnd : Int64} {out : Int32} {ssz : Int64} {rby : Int32} {wds : Nat → Int32} {rhd : Int32} : Sp yX4_dropPlan uX4_dropPlan [.ref p] n (q_blk f p (stE p (below, by_, tc, way, wr, thin, cin, hld, gst, taps, pst, bits, word, shift, psz, fac, lst, sum, ex, rnd, out, ssz, rby, wds, rhd))) (none, n, q_blk f p (stE p (below, by_, tc, way, wr, thin, cin, hld, gst, taps, 0, bits, word, shift, psz, fac, 0, sum, ex, rnd, out, ssz, rby, wds, rhd))) := by
  refine Sp.ofF (by decide +kernel) rfl rfl (q_le rfl) ?_
  intro G d
  refine q_aload_n dX4_dropPlan_0 rfl ?_
  refine q_getf dX4_dropPlan_1 fl_X4_35 (q_blk_get (j := 0) rfl) rfl ?_
  refine q_iconst dX4_dropPlan_4 (v := 0) (by decide) ?_
  refine q_putf dX4_dropPlan_5 pl_X4_87 (q_blk_get (j := 2) rfl) (q_le rfl) rfl rfl ?_
  refine q_heap (q_blk_up (j := 2) (q_le rfl)) ?_
  refine q_aload_n dX4_dropPlan_8 rfl ?_
  refine q_getf dX4_dropPlan_9 fl_X4_42 (q_blk_get (j := 0) rfl) rfl ?_
  refine q_iconst dX4_dropPlan_12 (v := 0) (by decide) ?_
  refine q_putf dX4_dropPlan_13 pl_X4_81 (q_blk_get (j := 4) rfl) (q_le rfl) rfl rfl ?_
  refine q_heap (q_blk_up (j := 4) (q_le rfl)) ?_
  exact q_vret dX4_dropPlan_16 rfl (rfl) (q_le rfl) (q_le rfl)

def s_thin (thin by_ : Int32) : Int32 := if thin ≤ 0 then (if by_ ≤ 1 then 0 else by_ - 1) else thin - 1
set_option maxHeartbeats 4000000 in
set_option maxRecDepth 100000 in
theorem c_X4_comesOut {f : q_Hp} {n p : Nat} {below by_ tc way wr thin : Int32} {cin hld gst : Int64} {taps : Nat → Int32} {pst bits word shift : Int32} {psz : Int64} {fac : Nat → Int32} {lst : Int32} {sum ex rnd : Int64} {out : Int32} {ssz : Int64} {rby : Int32} {wds : Nat → Int32} {rhd : Int32} : Sp yX4_comesOut uX4_comesOut [.ref p] n (q_blk f p (stE p (below, by_, tc, way, wr, thin, cin, hld, gst, taps, pst, bits, word, shift, psz, fac, lst, sum, ex, rnd, out, ssz, rby, wds, rhd))) (some (.int (q_b (decide (thin ≤ 0)))), n, q_blk f p (stE p (below, by_, tc, way, wr, s_thin thin by_, cin, hld, gst, taps, pst, bits, word, shift, psz, fac, lst, sum, ex, rnd, out, ssz, rby, wds, rhd))) := by
  refine Sp.ofF (by decide +kernel) rfl rfl (q_le rfl) ?_
  intro G d
  refine q_aload_n dX4_comesOut_0 rfl ?_
  refine q_getf dX4_comesOut_1 fl_X4_91 (q_blk_get (j := 0) rfl) rfl ?_
  refine q_if_le (tgt := 19) dX4_comesOut_4 (by decide) (fun c_4 => ?_) (fun c_4 => ?_)
  · refine q_aload_n dX4_comesOut_19 rfl ?_
    refine q_aload_n dX4_comesOut_20 rfl ?_
    refine q_getf dX4_comesOut_21 fl_X4_15 (q_blk_get (j := 0) rfl) rfl ?_
    refine q_iconst dX4_comesOut_24 (v := 1) (by decide) ?_
    refine q_icmp_le (tgt := 37) dX4_comesOut_25 (by decide) (fun c_25 => ?_) (fun c_25 => ?_)
    · refine q_iconst dX4_comesOut_37 (v := 0) (by decide) ?_
      refine q_putf dX4_comesOut_38 pl_X4_91 (q_blk_get (j := 0) rfl) (q_le rfl) rfl rfl ?_
      refine q_heap (q_blk_up (j := 0) (q_le rfl)) ?_
      refine q_iconst dX4_comesOut_41 (v := 1) (by decide) ?_
      exact q_zret dX4_comesOut_42 rfl rfl (by simp [s_thin, q_b, c_4, c_25]; rfl) (q_le rfl) (q_le rfl)
    · refine q_aload_n dX4_comesOut_28 rfl ?_
      refine q_getf dX4_comesOut_29 fl_X4_15 (q_blk_get (j := 0) rfl) rfl ?_
      refine q_iconst dX4_comesOut_32 (v := 1) (by decide) ?_
      refine q_isub dX4_comesOut_33 ?_
      refine q_goto (tgt := 38) dX4_comesOut_34 (by decide) ?_
      refine q_putf dX4_comesOut_38 pl_X4_91 (q_blk_get (j := 0) rfl) (q_le rfl) rfl rfl ?_
      refine q_heap (q_blk_up (j := 0) (q_le rfl)) ?_
      refine q_iconst dX4_comesOut_41 (v := 1) (by decide) ?_
      exact q_zret dX4_comesOut_42 rfl rfl (by simp [s_thin, q_b, c_4, c_25]; rfl) (q_le rfl) (q_le rfl)
  · refine q_aload_n dX4_comesOut_7 rfl ?_
    refine q_dup dX4_comesOut_8 rfl ?_
    refine q_getf dX4_comesOut_9 fl_X4_91 (q_blk_get (j := 0) rfl) rfl ?_
    refine q_iconst dX4_comesOut_12 (v := 1) (by decide) ?_
    refine q_isub dX4_comesOut_13 ?_
    refine q_putf dX4_comesOut_14 pl_X4_91 (q_blk_get (j := 0) rfl) (q_le rfl) rfl rfl ?_
    refine q_heap (q_blk_up (j := 0) (q_le rfl)) ?_
    refine q_iconst dX4_comesOut_17 (v := 0) (by decide) ?_
    exact q_zret dX4_comesOut_18 rfl rfl (by simp [s_thin, q_b, c_4]; rfl) (q_le rfl) (q_le rfl)

