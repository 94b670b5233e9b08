/-! THE CLAIM OUT OF ONE WALK OF THE LAW'S BODY. Your part is whole_start (and what it stands on); all else here is the same for every law, but numbers. -/
def R_law : String := "FirChainLaw"
def lw_P (b : Addr) (xs : List Int32) (args : Array Value) (s : State) : Prop := args = #[.ref b] ∧ s.IntsAt b xs ∧ xs.length ≤ 2560 ∧ (Jvm.Cond.and given_1 narrow_1).before args s = true
def lw_Q (_ : Array Value) (s : State) (o : Outcome) (t : State) : Prop := o = .returned (some (.int 1)) ∧ Framed s o t [] 600000 7302250
def lw_Z (below : List Frame) (a : Array Value) (s : State) : State → Prop := fun t => ∃ o, t.status = .running ∧ Ended t below o ∧ lw_Q a s o t
/-- the law's own end, with 1 on the stack, nothing written that was there before, its room as the claim has it -/
theorem lw_ret {p : Program} {l : Launch} {e : Env} {s : State} {m : MethodId} {below : List Frame} {meth : Method} {c : Code} {b : Nat} (hx : p.tables.exec = Jvm.exec) (hb : c.code = code) (hr : meth.sig.returnType = ret) (hlocks : meth.locks = false) {pc : Nat} {H : Heap} {ls : Array Slot} (hdg : decode code pc = .ok (.ireturn, 1)) : W p l e room_1 s m #[Value.ref b] below meth c H [] 600000 7302250 (lw_Z below #[Value.ref b] s) (F0 m pc ls [.int 1]) := by
  intro T hT X
  obtain ⟨fs, hret, hrun, hended, hW, hframe⟩ := X.leave (v := some (.int 1)) (hlocks := hlocks) (fun h => by rw [hr] at h; cases h)
  have hmeth' : T.vm.method? m = some meth := X.method'
  refine ⟨T.setFrames fs, ?_, .returned (some (.int 1)), hrun, hended, rfl, ⟨_, rfl⟩, hW, hframe⟩
  jvm_step X.here [X.here.top, hx, hb, hdg, hmeth', hr, ret, narrow_b1]
  (try refine ⟨rfl, ?_⟩); (try refine ⟨rfl, ?_⟩)
  first | (intro acts; rw [hret _ acts rfl rfl rfl]) | rw [hret _ _ rfl rfl rfl]
  exact Steps.refl _
/-- what holds at the law's entry: the machine, the code, the tables' words (any of lw_tbl by 'hts w (by decide +kernel)'), the script of L ints xs at the cell b, what the Statement gives of the start (any of its parts by flat_of_before) -/
def lw_At (p : Program) (s : State) (m : MethodId) (meth : Method) (c : Code) (b L : Nat) (xs : Nat → Int32) : Prop :=
  p.tables.exec = Jvm.exec ∧ c.code = code ∧ meth.sig.returnType = ret ∧ c.maxLocals = 4 ∧ s.vm.findClass R_law = some m.cls ∧ (∀ w ∈ lw_tbl, w.before #[Value.ref b] s = true) ∧ va_X b L xs s s.heap ∧ b < s.heap.size ∧ meth.locks = false ∧ (Jvm.Cond.and given_1 narrow_1).before #[Value.ref b] s = true
set_option maxHeartbeats 4000000 in
set_option maxRecDepth 100000 in
/-- the law up to its loop -/
theorem law_begin {G : q_G} {d : q_D} {nm : String} {z : q_Z} (hJ : J G d (uLn nm) z 37 2357 38 18 (q_l [(0, .ref 0), (1, .ref 1), (2, .ref 10), (3, .int (nI 0))]) [] (q_blk (q_blk (fun _ => none) 1 (xE 1 0 (fun _ => none) (fun _ => 0) 0 (fun _ => 0) 0 0 ((fun _ => 0), 0) ((fun _ => 0), 0))) 10 (mE 10 0 0 0 0 (fun _ => 0) (fun _ => 0) (fun _ => 0) (fun _ => 0) (fun _ => 0) (fun _ => 0) (fun _ => 0) (fun _ => 0) (fun _ => 0) (fun _ => 0) (fun _ => 0) (fun _ => 0) (fun _ => 0) (fun _ => 0) (fun _ => 0) (fun _ => 0) (fun _ => 0) (fun _ => 0) (fun _ => 0) (fun _ => 0) (fun _ => 0) (fun _ => 0) (fun _ => 0) (fun _ => 0) (fun _ => 0) (fun _ => 0) (fun _ => 0)))) : J G d (uLn nm) z 0 0 1 0 (q_l [(0, .ref 0)]) [] (fun _ => none) := by
  refine q_new (ci := 6) (ty := tyX6) dL_law_0 nl_L_7 ni_X6 nz_X6 rfl iqX6 tyX6_ok (dfX6_ok d) (q_le rfl) (q_le rfl) ?_
  refine q_dup dL_law_3 rfl ?_
  refine q_heap (q_up_blk ..) ?_
  refine q_cI (c_X6_init (o := 1)) dL_law_4 kl_L_9 rfl ⟨q_le rfl, q_le rfl⟩ (q_le rfl) (q_le rfl) (q_le rfl) ?_
  refine q_astore_n dL_law_7 (q_le rfl) ?_
  refine q_new (ci := 7) (ty := tyX7) dL_law_8 nl_L_10 ni_X7 nz_X7 rfl iqX7 tyX7_ok (dfX7_ok d) (q_le rfl) (q_le rfl) ?_
  refine q_dup dL_law_11 rfl ?_
  refine q_heap (q_up_blk ..) ?_
  refine q_cI (c_X7_init (o := 10)) dL_law_12 kl_L_12 rfl ⟨q_le rfl, q_le rfl⟩ (q_le rfl) (q_le rfl) (q_le rfl) ?_
  refine q_astore_n dL_law_15 (q_le rfl) ?_
  refine q_iconst dL_law_16 (v := 0) (by decide) ?_
  refine q_istore_n dL_law_17 (q_le rfl) ?_
  exact q_lo [(0, .ref 0), (1, .ref 1), (2, .ref 10), (3, .int (nI 0))] ⟨rfl, rfl, rfl, rfl, trivial⟩ hJ
set_option maxHeartbeats 4000000 in
set_option maxRecDepth 100000 in
/-- THE LAW, from its entry, over what both sides answer -/
theorem whole_open {Rel : Nat → q_Hp → Prop} (h_stage : ∀ a b : Int32, BothI Rel yX6_stage uX6_stage yX7_stage uX7_stage [.int a, .int b]) (h_tap : ∀ a b : Int32, BothI Rel yX6_tap uX6_tap yX7_tap uX7_tap [.int a, .int b]) (h_change : ∀ a b d : Int32, BothI Rel yX6_change uX6_change yX7_change uX7_change [.int a, .int b, .int d]) (h_way : ∀ a b d : Int32, (d = 0 ∨ d = 1) → BothI Rel yX6_way uX6_way yX7_way uX7_way [.int a, .int b, .int d]) (h_plan : ∀ a b d : Int32, BothI Rel yX6_plan uX6_plan yX7_plan uX7_plan [.int a, .int b, .int d]) (h_planAt : ∀ a b d e : Int32, BothI Rel yX6_planAt uX6_planAt yX7_planAt uX7_planAt [.int a, .int b, .int d, .int e]) (h_coefficient : ∀ a b : Int32, BothI Rel yX6_coefficient uX6_coefficient yX7_coefficient uX7_coefficient [.int a, .int b]) (h_about : ∀ a b : Int32, BothI Rel yX6_about uX6_about yX7_about uX7_about [.int a, .int b]) (h_norm : ∀ a : Int32, BothL Rel yX6_norm uX6_norm yX7_norm uX7_norm [.int a]) (h_join : ∀ a : Int32, BothI Rel yX6_join uX6_join yX7_join uX7_join [.int a]) (h_part : BothI Rel yX6_part uX6_part yX7_part uX7_part []) (h_put : ∀ a : Int32, BothI Rel yX6_put uX6_put yX7_put uX7_put [.int a]) (h_ramp : ∀ a b d : Int32, BothI Rel yX6_ramp uX6_ramp yX7_ramp uX7_ramp [.int a, .int b, .int d]) (h_out : ∀ a : Int32, BothI Rel yX6_out uX6_out yX7_out uX7_out [.int a]) (h_empty : BothI Rel yX6_empty uX6_empty yX7_empty uX7_empty []) (h_reset : BothI Rel yX6_reset uX6_reset yX7_reset uX7_reset []) (h_through : ∀ a b : Int32, BothI Rel yX6_through uX6_through yX7_through uX7_through [.int a, .int b]) (h_told : ∀ a b : Int32, BothL Rel yX6_told uX6_told yX7_told uX7_told [.int a, .int b]) (h_near : ∀ a : Int32, BothI Rel yX6_near uX6_near yX7_near uX7_near [.int a]) (h_counted : ∀ a b : Int32, BothL Rel yX6_counted uX6_counted yX7_counted uX7_counted [.int a, .int b]) (h_count : ∀ a : Int32, BothI Rel yX6_count uX6_count yX7_count uX7_count [.int a]) (h_digest : BothL Rel yX6_digest uX6_digest yX7_digest uX7_digest []) (hR0 : Rel 38 (q_blk (q_blk (fun _ => none) 1 (xE 1 0 (fun _ => none) (fun _ => 0) 0 (fun _ => 0) 0 0 ((fun _ => 0), 0) ((fun _ => 0), 0))) 10 (mE 10 0 0 0 0 (fun _ => 0) (fun _ => 0) (fun _ => 0) (fun _ => 0) (fun _ => 0) (fun _ => 0) (fun _ => 0) (fun _ => 0) (fun _ => 0) (fun _ => 0) (fun _ => 0) (fun _ => 0) (fun _ => 0) (fun _ => 0) (fun _ => 0) (fun _ => 0) (fun _ => 0) (fun _ => 0) (fun _ => 0) (fun _ => 0) (fun _ => 0) (fun _ => 0) (fun _ => 0) (fun _ => 0) (fun _ => 0) (fun _ => 0) (fun _ => 0)))) {p : Program} {e : Env} {s : State} {m : MethodId} {below : List Frame} {meth : Method} {c : Code} (l : Launch) {b L : Nat} {xs : Nat → Int32} (hL : L ≤ 2560) (C0 : lw_At p s m meth c b L xs) : W p l e room_1 s m #[Value.ref b] below meth c s.heap [] 0 0 (lw_Z below #[Value.ref b] s) (entryFrame m ([Value.ref b] : List Value).toArray 4) := by
  obtain ⟨hx, hb, hr, hml, hown, hts, hX, hbl, hlocks, hgv⟩ := C0
  obtain ⟨c0, i0, k0⟩ := u_known (C := RX0) (T := TX0) (N := 7) (n := 7) hts inX0 (hts (.instantiable RX0 7) (q_tbl ni_X0))
  obtain ⟨c1, i1, k1⟩ := u_known (C := RX1) (T := TX1) (N := 6) (n := 6) hts inX1 (hts (.instantiable RX1 6) (q_tbl ni_X1))
  obtain ⟨c2, i2, k2⟩ := u_known (C := RX2) (T := TX2) (N := 2) (n := 2) hts inX2 (hts (.instantiable RX2 2) (q_tbl ni_X2))
  obtain ⟨c3, i3, k3⟩ := u_known (C := RX3) (T := TX3) (N := 2) (n := 2) hts inX3 (hts (.instantiable RX3 2) (q_tbl ni_X3))
  obtain ⟨c4, i4, k4⟩ := u_known (C := RX4) (T := TX4) (N := 13) (n := 13) hts inX4 (hts (.instantiable RX4 13) (q_tbl ni_X4))
  obtain ⟨c5, i5, k5⟩ := u_known (C := RX5) (T := TX5) (N := 3) (n := 3) hts inX5 (hts (.instantiable RX5 3) (q_tbl ni_X5))
  obtain ⟨c6, i6, k6⟩ := u_known (C := RX6) (T := TX6) (N := 7) (n := 7) hts inX6 (hts (.instantiable RX6 7) (q_tbl ni_X6))
  obtain ⟨c7, i7, k7⟩ := u_known (C := RX7) (T := TX7) (N := 31) (n := 31) hts inX7 (hts (.instantiable RX7 31) (q_tbl ni_X7))
  obtain ⟨a0, ka0, cp0, fa0, ga0, ta0⟩ := Cond.arrayClass_spec (hts (.arrayClass .int) (q_tbl na_int))
  obtain ⟨a1, ka1, cp1, fa1, ga1, ta1⟩ := Cond.arrayClass_spec (hts (.arrayClass .short) (q_tbl na_short))
  obtain ⟨a2, ka2, cp2, fa2, ga2, ta2⟩ := Cond.arrayClass_spec (hts (.arrayClass .boolean) (q_tbl na_boolean))
  obtain ⟨a3, ka3, cp3, fa3, ga3, ta3⟩ := Cond.arrayClass_spec (hts (.arrayClass .long) (q_tbl na_long))
  have hAO : va_AO RX4 s := va_AO.of (hts (.arrayOver (.object RX4)) (by decide +kernel))
  obtain ⟨comp, a4, k4A, w1, w2, w3, w4, w5⟩ := Cond.arrayOver_spec hAO
  obtain ⟨d, hd1, hd2, hd3, hd4⟩ : ∃ d : q_D, va_K d.1 vwCl (q_tys d) s ∧ d.2.2.1 = s.heap.size - 1 ∧ d.2.2.2 = b ∧ True := by
    refine ⟨((fun k => match k with | 0 => c0 | 1 => c1 | 2 => c2 | 3 => c3 | 4 => c4 | 5 => c5 | 6 => c6 | _ => c7, fun k => match k with | 0 => i0 | 1 => i1 | 2 => i2 | 3 => i3 | 4 => i4 | 5 => i5 | 6 => i6 | _ => i7), (fun k => match k with | 0 => a0 | 1 => a1 | 2 => a2 | 3 => a3 | _ => a4), s.heap.size - 1, b), ⟨fun k q hq => ?_, fun k q hq => ?_⟩, rfl, rfl, trivial⟩
    · match k, hq with
      | 0, hq => cases hq; exact k0
      | 1, hq => cases hq; exact k1
      | 2, hq => cases hq; exact k2
      | 3, hq => cases hq; exact k3
      | 4, hq => cases hq; exact k4
      | 5, hq => cases hq; exact k5
      | 6, hq => cases hq; exact k6
      | 7, hq => cases hq; exact k7
      | k + 8, hq => simp [vwCl] at hq
    · match k, hq with
      | 0, hq => cases hq; exact ⟨fun N z => ⟨(fun k h => by cases h), ka0, ga0, cp0, ta0⟩, fa0⟩
      | 1, hq => cases hq; exact ⟨fun N z => ⟨(fun k h => by cases h), ka1, ga1, cp1, ta1⟩, fa1⟩
      | 2, hq => cases hq; exact ⟨fun N z => ⟨(fun k h => by cases h), ka2, ga2, cp2, ta2⟩, fa2⟩
      | 3, hq => cases hq; exact ⟨fun N z => ⟨(fun k h => by cases h), ka3, ga3, cp3, ta3⟩, fa3⟩
      | 4, hq => cases hq; exact ⟨fun N z => ⟨(fun k h => by cases h), k4A, w3, comp, w4⟩, k4A, comp, w3, w4, w1, w5⟩
      | k + 5, hq => simp [q_tys] at hq
  have hscr : q_scr (p, l, e, s, m, #[Value.ref b], below, meth, c) d L xs := ⟨by rw [hd3]; exact hX, by rw [hd2, hd3]; omega, by rw [hd2]; show s.heap.size = s.heap.size - 1 + 1; omega, by omega⟩
  obtain ⟨n2, h3, hJ⟩ := law_loop (nm := meth.name) h_stage h_tap h_change h_way h_plan h_planAt h_coefficient h_about h_norm h_join h_part h_put h_ramp h_out h_empty h_reset h_through h_told h_near h_counted h_count h_digest hscr (by omega) 513 0 37 2357 38 (q_blk (q_blk (fun _ => none) 1 (xE 1 0 (fun _ => none) (fun _ => 0) 0 (fun _ => 0) 0 0 ((fun _ => 0), 0) ((fun _ => 0), 0))) 10 (mE 10 0 0 0 0 (fun _ => 0) (fun _ => 0) (fun _ => 0) (fun _ => 0) (fun _ => 0) (fun _ => 0) (fun _ => 0) (fun _ => 0) (fun _ => 0) (fun _ => 0) (fun _ => 0) (fun _ => 0) (fun _ => 0) (fun _ => 0) (fun _ => 0) (fun _ => 0) (fun _ => 0) (fun _ => 0) (fun _ => 0) (fun _ => 0) (fun _ => 0) (fun _ => 0) (fun _ => 0) (fun _ => 0) (fun _ => 0) (fun _ => 0) (fun _ => 0))) (Nat.zero_le L) (by omega) (by omega) (by omega) hR0
  have hW := law_begin hJ ⟨hx, hb, hml, hown, fun w hw => hts w (q_tbl hw), hr, ⟨hlocks, hAO⟩, rfl, hd1⟩ s.heap [] _ ⟨by rw [hd2]; omega, by decide, rfl, fun k e h => by cases h⟩ (fun _ _ => rfl) (fun _ h => by cases h) (show q_A d 4 ((lg_sl [Value.ref b] ++ List.replicate (4 - (lg_sl [Value.ref b]).length) Slot.unset).toArray) (q_l [(0, .ref 0)]) from by
    have hE := lv_entry [Value.ref b] (n := 4) (q_le rfl)
    refine ⟨hE.1, hE.2.1, fun i v hv => ?_⟩
    have h9 := q_l_mem hv
    rw [List.mem_singleton] at h9
    cases h9
    have h8 : q_v d (.ref 0) = .ref b := by show Value.ref (q_ad d 0) = _; unfold q_ad; rw [if_pos rfl, hd3]
    rw [h8]
    exact hE.2.2 (0, .ref b) List.mem_cons_self)
  rw [lg_entry_eq]
  intro T hT X
  obtain ⟨t, st, oc, g1, g2, ⟨g3, -, -⟩, Lx, ⟨gv, gW, gs⟩, gf⟩ := hW T hT X
  refine ⟨t, st, oc, g1, g2, g3, gv, gW, gs.weaken (fun y hy hlt => ?_) (Nat.le_refl _) (Nat.le_refl _)⟩
  have h7 : d.2.2.1 < y.base := gf y hy
  have h6 : y.base < s.heap.size := hlt
  rw [hd2] at h7
  exact absurd (Nat.lt_of_lt_of_le h6 (Nat.le_of_pred_lt h7)) (Nat.lt_irrefl _)
