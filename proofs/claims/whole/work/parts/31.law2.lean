/-! both sides answer alike, whatever the state that Rel says -/
def BothI (Rel : Nat → q_Hp → Prop) (yX : MethodName) (uX : q_M) (yM : MethodName) (uM : q_M) (as : List Value) : Prop := ∀ (n : Nat) (h : q_Hp), Rel n h → ∃ (r : Int32) (n1 : Nat) (h1 h2 : q_Hp) (f5 f6 : List Value), h 1 = some (.inr (6, f5)) ∧ h1 10 = some (.inr (7, f6)) ∧ Sp yX uX (.ref 1 :: as) n h (some (.int r), n1, h1) ∧ Sp yM uM (.ref 10 :: as) n1 h1 (some (.int r), n1, h2) ∧ Rel n1 h2
def BothL (Rel : Nat → q_Hp → Prop) (yX : MethodName) (uX : q_M) (yM : MethodName) (uM : q_M) (as : List Value) : Prop := ∀ (n : Nat) (h : q_Hp), Rel n h → ∃ (r : Int64) (n1 : Nat) (h1 h2 : q_Hp) (f5 f6 : List Value), h 1 = some (.inr (6, f5)) ∧ h1 10 = some (.inr (7, f6)) ∧ Sp yX uX (.ref 1 :: as) n h (some (.long r), n1, h1) ∧ Sp yM uM (.ref 10 :: as) n1 h1 (some (.long r), n1, h2) ∧ Rel n1 h2
theorem law_back {G : q_G} {d : q_D} {z : q_Z} {nm : String} {ce sl n i : Nat} {h : q_Hp} (hJ : J G d (uLn nm) z ce sl n 18 (q_l [(0, .ref 0), (1, .ref 1), (2, .ref 10), (3, .int (nI (i + 5)))]) [] h) : J G d (uLn nm) z ce sl n 802 (q_l [(0, .ref 0), (1, .ref 1), (2, .ref 10), (3, .int (nI i))]) [] h := by
  refine q_iinc dL_law_802 rfl (v := nI (i + 5)) (nI_add i 5) ?_
  refine q_goto (tgt := 18) dL_law_805 (by decide) ?_
  exact q_lo [(0, .ref 0), (1, .ref 1), (2, .ref 10), (3, .int (nI (i + 5)))] ⟨rfl, rfl, rfl, rfl, trivial⟩ hJ
set_option maxHeartbeats 4000000 in
set_option maxRecDepth 100000 in
theorem law_loop {G : q_G} {d : q_D} {nm : String} {L : Nat} {xs : Nat → Int32} {Rel : Nat → q_Hp → Prop} (h_stage : ∀ a b : Int32, BothI Rel yX6_stage uX6_stage yX7_stage uX7_stage [.int a, .int b]) (h_tap : ∀ a b : Int32, BothI Rel yX6_tap uX6_tap yX7_tap uX7_tap [.int a, .int b]) (h_change : ∀ a b d : Int32, BothI Rel yX6_change uX6_change yX7_change uX7_change [.int a, .int b, .int d]) (h_way : ∀ a b d : Int32, (d = 0 ∨ d = 1) → BothI Rel yX6_way uX6_way yX7_way uX7_way [.int a, .int b, .int d]) (h_plan : ∀ a b d : Int32, BothI Rel yX6_plan uX6_plan yX7_plan uX7_plan [.int a, .int b, .int d]) (h_planAt : ∀ a b d e : Int32, BothI Rel yX6_planAt uX6_planAt yX7_planAt uX7_planAt [.int a, .int b, .int d, .int e]) (h_coefficient : ∀ a b : Int32, BothI Rel yX6_coefficient uX6_coefficient yX7_coefficient uX7_coefficient [.int a, .int b]) (h_about : ∀ a b : Int32, BothI Rel yX6_about uX6_about yX7_about uX7_about [.int a, .int b]) (h_norm : ∀ a : Int32, BothL Rel yX6_norm uX6_norm yX7_norm uX7_norm [.int a]) (h_join : ∀ a : Int32, BothI Rel yX6_join uX6_join yX7_join uX7_join [.int a]) (h_part : BothI Rel yX6_part uX6_part yX7_part uX7_part []) (h_put : ∀ a : Int32, BothI Rel yX6_put uX6_put yX7_put uX7_put [.int a]) (h_ramp : ∀ a b d : Int32, BothI Rel yX6_ramp uX6_ramp yX7_ramp uX7_ramp [.int a, .int b, .int d]) (h_out : ∀ a : Int32, BothI Rel yX6_out uX6_out yX7_out uX7_out [.int a]) (h_empty : BothI Rel yX6_empty uX6_empty yX7_empty uX7_empty []) (h_reset : BothI Rel yX6_reset uX6_reset yX7_reset uX7_reset []) (h_through : ∀ a b : Int32, BothI Rel yX6_through uX6_through yX7_through uX7_through [.int a, .int b]) (h_told : ∀ a b : Int32, BothL Rel yX6_told uX6_told yX7_told uX7_told [.int a, .int b]) (h_near : ∀ a : Int32, BothI Rel yX6_near uX6_near yX7_near uX7_near [.int a]) (h_counted : ∀ a b : Int32, BothL Rel yX6_counted uX6_counted yX7_counted uX7_counted [.int a, .int b]) (h_count : ∀ a : Int32, BothI Rel yX6_count uX6_count yX7_count uX7_count [.int a]) (h_digest : BothL Rel yX6_digest uX6_digest yX7_digest uX7_digest []) (hX : q_scr G d L xs) (hL : L < 2 ^ 30) : ∀ (k i ce sl n : Nat) (h : q_Hp), i ≤ L → L < i + 5 * k → ce + 7 * k ≤ 600000 → sl + 124 * k ≤ 7302250 → Rel n h → ∃ (n2 : Nat) (h3 : q_Hp), J G d (uLn nm) (some (.int 1), n2, h3) ce sl n 18 (q_l [(0, .ref 0), (1, .ref 1), (2, .ref 10), (3, .int (nI i))]) [] h := by
  intro k
  induction k with
  | zero => intro i ce sl n h h1 h2; exact absurd h2 (by omega)
  | succ k ih =>
    intro i ce sl n h hiL hk hc hs hRel
    by_cases hi : i + 5 ≤ L
    case neg =>
      refine ⟨n, h, ?_⟩
      refine q_iload_n dL_law_18 rfl ?_
      refine q_aload_n dL_law_19 rfl ?_
      refine q_slen hX dL_law_20 ?_
      refine q_iconst dL_law_21 (v := 5) (by decide) ?_
      refine q_isub dL_law_22 ?_
      refine q_icmp_gt (tgt := 808) dL_law_23 (by decide) (fun _ => ?_) (fun h_n => absurd ((l_sub5 hL (by omega)).mpr (by omega)) h_n)
      refine q_iconst dL_law_808 (v := 1) (by decide) ?_
      exact q_zret dL_law_809 rfl rfl rfl (show ce ≤ 600000 by omega) (show sl ≤ 7302250 by omega)
    by_cases hv0 : xs i &&& 31 = 0
    · have hv := hv0
      obtain ⟨r, n1, h1, h2, f5, f6, e5, e6, s1, s2, hR⟩ := h_stage (xs (i + 1)) (xs (i + 2)) n h hRel
      obtain ⟨n2, h3, hJ⟩ := ih (i + 5) (ce + 7) (sl + 124) n1 h2 (by omega) (by omega) (by omega) (by omega) hR
      exact ⟨n2, h3, lc_stage hX hL hi hv e5 e6 s1 s2 (by omega) (by omega) (law_back hJ)⟩
    by_cases hv1 : xs i &&& 31 = 1
    · have hv := hv1
      obtain ⟨r, n1, h1, h2, f5, f6, e5, e6, s1, s2, hR⟩ := h_tap (xs (i + 1)) (xs (i + 2)) n h hRel
      obtain ⟨n2, h3, hJ⟩ := ih (i + 5) (ce + 0) (sl + 0) n1 h2 (by omega) (by omega) (by omega) (by omega) hR
      exact ⟨n2, h3, lc_tap hX hL hi hv e5 e6 s1 s2 (by omega) (by omega) (law_back hJ)⟩
    by_cases hv2 : xs i &&& 31 = 2
    · have hv := hv2
      obtain ⟨r, n1, h1, h2, f5, f6, e5, e6, s1, s2, hR⟩ := h_change (xs (i + 1)) (xs (i + 2)) (xs (i + 3)) n h hRel
      obtain ⟨n2, h3, hJ⟩ := ih (i + 5) (ce + 0) (sl + 0) n1 h2 (by omega) (by omega) (by omega) (by omega) hR
      exact ⟨n2, h3, lc_change hX hL hi hv e5 e6 s1 s2 (by omega) (by omega) (law_back hJ)⟩
    by_cases hv3 : xs i &&& 31 = 3
    · have hv := hv3
      by_cases hz : xs (i + 3) = 0
      · obtain ⟨r, n1, h1, h2, f5, f6, e5, e6, s1, s2, hR⟩ := h_way (xs (i + 1)) (xs (i + 2)) 0 (Or.inl rfl) n h hRel
        obtain ⟨n2, h3, hJ⟩ := ih (i + 5) (ce + 0) (sl + 0) n1 h2 (by omega) (by omega) (by omega) (by omega) hR
        exact ⟨n2, h3, lc_way_z hX hL hi hv hz e5 e6 s1 s2 (by omega) (by omega) (law_back hJ)⟩
      · obtain ⟨r, n1, h1, h2, f5, f6, e5, e6, s1, s2, hR⟩ := h_way (xs (i + 1)) (xs (i + 2)) 1 (Or.inr rfl) n h hRel
        obtain ⟨n2, h3, hJ⟩ := ih (i + 5) (ce + 0) (sl + 0) n1 h2 (by omega) (by omega) (by omega) (by omega) hR
        exact ⟨n2, h3, lc_way_o hX hL hi hv hz e5 e6 s1 s2 (by omega) (by omega) (law_back hJ)⟩
    by_cases hv4 : xs i &&& 31 = 4
    · have hv := hv4
      obtain ⟨r, n1, h1, h2, f5, f6, e5, e6, s1, s2, hR⟩ := h_plan (xs (i + 1)) (xs (i + 2)) (xs (i + 3)) n h hRel
      obtain ⟨n2, h3, hJ⟩ := ih (i + 5) (ce + 0) (sl + 0) n1 h2 (by omega) (by omega) (by omega) (by omega) hR
      exact ⟨n2, h3, lc_plan hX hL hi hv e5 e6 s1 s2 (by omega) (by omega) (law_back hJ)⟩
    by_cases hv5 : xs i &&& 31 = 5
    · have hv := hv5
      obtain ⟨r, n1, h1, h2, f5, f6, e5, e6, s1, s2, hR⟩ := h_planAt (xs (i + 1)) (xs (i + 2)) (xs (i + 3)) (xs (i + 4)) n h hRel
      obtain ⟨n2, h3, hJ⟩ := ih (i + 5) (ce + 0) (sl + 0) n1 h2 (by omega) (by omega) (by omega) (by omega) hR
      exact ⟨n2, h3, lc_planAt hX hL hi hv e5 e6 s1 s2 (by omega) (by omega) (law_back hJ)⟩
    by_cases hv6 : xs i &&& 31 = 6
    · have hv := hv6
      obtain ⟨r, n1, h1, h2, f5, f6, e5, e6, s1, s2, hR⟩ := h_coefficient (xs (i + 1)) (xs (i + 2)) n h hRel
      obtain ⟨n2, h3, hJ⟩ := ih (i + 5) (ce + 0) (sl + 0) n1 h2 (by omega) (by omega) (by omega) (by omega) hR
      exact ⟨n2, h3, lc_coefficient hX hL hi hv e5 e6 s1 s2 (by omega) (by omega) (law_back hJ)⟩
    by_cases hv7 : xs i &&& 31 = 7
    · have hv := hv7
      obtain ⟨r, n1, h1, h2, f5, f6, e5, e6, s1, s2, hR⟩ := h_about (xs (i + 1)) (xs (i + 2)) n h hRel
      obtain ⟨n2, h3, hJ⟩ := ih (i + 5) (ce + 0) (sl + 0) n1 h2 (by omega) (by omega) (by omega) (by omega) hR
      exact ⟨n2, h3, lc_about hX hL hi hv e5 e6 s1 s2 (by omega) (by omega) (law_back hJ)⟩
    by_cases hv8 : xs i &&& 31 = 8
    · have hv := hv8
      obtain ⟨r, n1, h1, h2, f5, f6, e5, e6, s1, s2, hR⟩ := h_norm (xs (i + 1)) n h hRel
      obtain ⟨n2, h3, hJ⟩ := ih (i + 5) (ce + 0) (sl + 0) n1 h2 (by omega) (by omega) (by omega) (by omega) hR
      exact ⟨n2, h3, lc_norm hX hL hi hv e5 e6 s1 s2 (by omega) (by omega) (law_back hJ)⟩
    by_cases hv9 : xs i &&& 31 = 9
    · have hv := hv9
      obtain ⟨r, n1, h1, h2, f5, f6, e5, e6, s1, s2, hR⟩ := h_join (xs (i + 1)) n h hRel
      obtain ⟨n2, h3, hJ⟩ := ih (i + 5) (ce + 0) (sl + 0) n1 h2 (by omega) (by omega) (by omega) (by omega) hR
      exact ⟨n2, h3, lc_join hX hL hi hv e5 e6 s1 s2 (by omega) (by omega) (law_back hJ)⟩
    by_cases hv10 : xs i &&& 31 = 10
    · have hv := hv10
      obtain ⟨r, n1, h1, h2, f5, f6, e5, e6, s1, s2, hR⟩ := h_part  n h hRel
      obtain ⟨n2, h3, hJ⟩ := ih (i + 5) (ce + 0) (sl + 0) n1 h2 (by omega) (by omega) (by omega) (by omega) hR
      exact ⟨n2, h3, lc_part hX hL hi hv e5 e6 s1 s2 (by omega) (by omega) (law_back hJ)⟩
    by_cases hv11 : xs i &&& 31 = 11
    · have hv := hv11
      obtain ⟨r, n1, h1, h2, f5, f6, e5, e6, s1, s2, hR⟩ := h_put (xs (i + 1)) n h hRel
      obtain ⟨n2, h3, hJ⟩ := ih (i + 5) (ce + 0) (sl + 0) n1 h2 (by omega) (by omega) (by omega) (by omega) hR
      exact ⟨n2, h3, lc_put hX hL hi hv e5 e6 s1 s2 (by omega) (by omega) (law_back hJ)⟩
    by_cases hv12 : xs i &&& 31 = 12
    · have hv := hv12
      obtain ⟨r, n1, h1, h2, f5, f6, e5, e6, s1, s2, hR⟩ := h_ramp (xs (i + 1)) (xs (i + 2)) (xs (i + 3)) n h hRel
      obtain ⟨n2, h3, hJ⟩ := ih (i + 5) (ce + 0) (sl + 0) n1 h2 (by omega) (by omega) (by omega) (by omega) hR
      exact ⟨n2, h3, lc_ramp hX hL hi hv e5 e6 s1 s2 (by omega) (by omega) (law_back hJ)⟩
    by_cases hv13 : xs i &&& 31 = 13
    · have hv := hv13
      obtain ⟨r, n1, h1, h2, f5, f6, e5, e6, s1, s2, hR⟩ := h_out (xs (i + 1)) n h hRel
      obtain ⟨n2, h3, hJ⟩ := ih (i + 5) (ce + 0) (sl + 0) n1 h2 (by omega) (by omega) (by omega) (by omega) hR
      exact ⟨n2, h3, lc_out hX hL hi hv e5 e6 s1 s2 (by omega) (by omega) (law_back hJ)⟩
    by_cases hv14 : xs i &&& 31 = 14
    · have hv := hv14
      obtain ⟨r, n1, h1, h2, f5, f6, e5, e6, s1, s2, hR⟩ := h_empty  n h hRel
      obtain ⟨n2, h3, hJ⟩ := ih (i + 5) (ce + 0) (sl + 0) n1 h2 (by omega) (by omega) (by omega) (by omega) hR
      exact ⟨n2, h3, lc_empty hX hL hi hv e5 e6 s1 s2 (by omega) (by omega) (law_back hJ)⟩
    by_cases hv15 : xs i &&& 31 = 15
    · have hv := hv15
      obtain ⟨r, n1, h1, h2, f5, f6, e5, e6, s1, s2, hR⟩ := h_reset  n h hRel
      obtain ⟨n2, h3, hJ⟩ := ih (i + 5) (ce + 0) (sl + 0) n1 h2 (by omega) (by omega) (by omega) (by omega) hR
      exact ⟨n2, h3, lc_reset hX hL hi hv e5 e6 s1 s2 (by omega) (by omega) (law_back hJ)⟩
    by_cases hv16 : xs i &&& 31 = 16
    · have hv := hv16
      obtain ⟨r, n1, h1, h2, f5, f6, e5, e6, s1, s2, hR⟩ := h_through (xs (i + 1)) (xs (i + 2)) n h hRel
      obtain ⟨n2, h3, hJ⟩ := ih (i + 5) (ce + 0) (sl + 0) n1 h2 (by omega) (by omega) (by omega) (by omega) hR
      exact ⟨n2, h3, lc_through hX hL hi hv e5 e6 s1 s2 (by omega) (by omega) (law_back hJ)⟩
    by_cases hv17 : xs i &&& 31 = 17
    · have hv := hv17
      obtain ⟨r, n1, h1, h2, f5, f6, e5, e6, s1, s2, hR⟩ := h_told (xs (i + 1)) (xs (i + 2)) n h hRel
      obtain ⟨n2, h3, hJ⟩ := ih (i + 5) (ce + 0) (sl + 0) n1 h2 (by omega) (by omega) (by omega) (by omega) hR
      exact ⟨n2, h3, lc_told hX hL hi hv e5 e6 s1 s2 (by omega) (by omega) (law_back hJ)⟩
    by_cases hv18 : xs i &&& 31 = 18
    · have hv := hv18
      obtain ⟨r, n1, h1, h2, f5, f6, e5, e6, s1, s2, hR⟩ := h_near (xs (i + 1)) n h hRel
      obtain ⟨n2, h3, hJ⟩ := ih (i + 5) (ce + 0) (sl + 0) n1 h2 (by omega) (by omega) (by omega) (by omega) hR
      exact ⟨n2, h3, lc_near hX hL hi hv e5 e6 s1 s2 (by omega) (by omega) (law_back hJ)⟩
    by_cases hv19 : xs i &&& 31 = 19
    · have hv := hv19
      obtain ⟨r, n1, h1, h2, f5, f6, e5, e6, s1, s2, hR⟩ := h_counted (xs (i + 1)) (xs (i + 2)) n h hRel
      obtain ⟨n2, h3, hJ⟩ := ih (i + 5) (ce + 0) (sl + 0) n1 h2 (by omega) (by omega) (by omega) (by omega) hR
      exact ⟨n2, h3, lc_counted hX hL hi hv e5 e6 s1 s2 (by omega) (by omega) (law_back hJ)⟩
    by_cases hv20 : xs i &&& 31 = 20
    · have hv := hv20
      obtain ⟨r, n1, h1, h2, f5, f6, e5, e6, s1, s2, hR⟩ := h_count (xs (i + 1)) n h hRel
      obtain ⟨n2, h3, hJ⟩ := ih (i + 5) (ce + 0) (sl + 0) n1 h2 (by omega) (by omega) (by omega) (by omega) hR
      exact ⟨n2, h3, lc_count hX hL hi hv e5 e6 s1 s2 (by omega) (by omega) (law_back hJ)⟩
    by_cases hv21 : xs i &&& 31 = 21
    · have hv := hv21
      obtain ⟨r, n1, h1, h2, f5, f6, e5, e6, s1, s2, hR⟩ := h_digest  n h hRel
      obtain ⟨n2, h3, hJ⟩ := ih (i + 5) (ce + 0) (sl + 0) n1 h2 (by omega) (by omega) (by omega) (by omega) hR
      exact ⟨n2, h3, lc_digest hX hL hi hv e5 e6 s1 s2 (by omega) (by omega) (law_back hJ)⟩
    obtain ⟨n2, h3, hJ⟩ := ih (i + 5) ce sl n h (by omega) (by omega) (by omega) (by omega) hRel
    refine ⟨n2, h3, ?_⟩
    refine q_iload_n dL_law_18 rfl ?_
    refine q_aload_n dL_law_19 rfl ?_
    refine q_slen hX dL_law_20 ?_
    refine q_iconst dL_law_21 (v := 5) (by decide) ?_
    refine q_isub dL_law_22 ?_
    refine q_icmp_gt (tgt := 808) dL_law_23 (by decide) (fun h_n => absurd ((l_sub5 hL (by omega)).mp h_n) (by omega)) (fun _ => ?_)
    refine q_aload_n dL_law_26 rfl ?_
    refine q_iload_n dL_law_27 rfl ?_
    refine q_sld hX dL_law_28 (k := i) rfl (by omega) ?_
    refine q_bipush dL_law_29 (v := 31) (by decide) ?_
    refine q_iand dL_law_31 ?_
    have iv0 := q_ne hv0 (i := 0) (by decide)
    have iv1 := q_ne hv1 (i := 1) (by decide)
    have iv2 := q_ne hv2 (i := 2) (by decide)
    have iv3 := q_ne hv3 (i := 3) (by decide)
    have iv4 := q_ne hv4 (i := 4) (by decide)
    have iv5 := q_ne hv5 (i := 5) (by decide)
    have iv6 := q_ne hv6 (i := 6) (by decide)
    have iv7 := q_ne hv7 (i := 7) (by decide)
    have iv8 := q_ne hv8 (i := 8) (by decide)
    have iv9 := q_ne hv9 (i := 9) (by decide)
    have iv10 := q_ne hv10 (i := 10) (by decide)
    have iv11 := q_ne hv11 (i := 11) (by decide)
    have iv12 := q_ne hv12 (i := 12) (by decide)
    have iv13 := q_ne hv13 (i := 13) (by decide)
    have iv14 := q_ne hv14 (i := 14) (by decide)
    have iv15 := q_ne hv15 (i := 15) (by decide)
    have iv16 := q_ne hv16 (i := 16) (by decide)
    have iv17 := q_ne hv17 (i := 17) (by decide)
    have iv18 := q_ne hv18 (i := 18) (by decide)
    have iv19 := q_ne hv19 (i := 19) (by decide)
    have iv20 := q_ne hv20 (i := 20) (by decide)
    have iv21 := q_ne hv21 (i := 21) (by decide)
    refine q_tblOut (tgt := 802) dL_law_32 (by omega) (by decide) ?_
    exact q_lo [(0, .ref 0), (1, .ref 1), (2, .ref 10), (3, .int (nI i))] ⟨rfl, rfl, rfl, rfl, trivial⟩ (law_back hJ)
