def S_below : q_St → Int32 := fun (below, by_, tc, way, wr, thin, cin, hld, gst, taps, pst, bits, word, shift, psz, fac, lst, sum, ex, rnd, out, ssz, rby, wds, rhd) => below
def S_way : q_St → Int32 := fun (below, by_, tc, way, wr, thin, cin, hld, gst, taps, pst, bits, word, shift, psz, fac, lst, sum, ex, rnd, out, ssz, rby, wds, rhd) => way
def S_wr : q_St → Int32 := fun (below, by_, tc, way, wr, thin, cin, hld, gst, taps, pst, bits, word, shift, psz, fac, lst, sum, ex, rnd, out, ssz, rby, wds, rhd) => wr
def S_thin : q_St → Int32 := fun (below, by_, tc, way, wr, thin, cin, hld, gst, taps, pst, bits, word, shift, psz, fac, lst, sum, ex, rnd, out, ssz, rby, wds, rhd) => thin
def S_cin : q_St → Int64 := fun (below, by_, tc, way, wr, thin, cin, hld, gst, taps, pst, bits, word, shift, psz, fac, lst, sum, ex, rnd, out, ssz, rby, wds, rhd) => cin
def S_hld : q_St → Int64 := fun (below, by_, tc, way, wr, thin, cin, hld, gst, taps, pst, bits, word, shift, psz, fac, lst, sum, ex, rnd, out, ssz, rby, wds, rhd) => hld
def S_gst : q_St → Int64 := fun (below, by_, tc, way, wr, thin, cin, hld, gst, taps, pst, bits, word, shift, psz, fac, lst, sum, ex, rnd, out, ssz, rby, wds, rhd) => gst
def S_taps : q_St → Nat → Int32 := fun (below, by_, tc, way, wr, thin, cin, hld, gst, taps, pst, bits, word, shift, psz, fac, lst, sum, ex, rnd, out, ssz, rby, wds, rhd) => taps
def S_pst : q_St → Int32 := fun (below, by_, tc, way, wr, thin, cin, hld, gst, taps, pst, bits, word, shift, psz, fac, lst, sum, ex, rnd, out, ssz, rby, wds, rhd) => pst
def S_bits : q_St → Int32 := fun (below, by_, tc, way, wr, thin, cin, hld, gst, taps, pst, bits, word, shift, psz, fac, lst, sum, ex, rnd, out, ssz, rby, wds, rhd) => bits
def S_word : q_St → Int32 := fun (below, by_, tc, way, wr, thin, cin, hld, gst, taps, pst, bits, word, shift, psz, fac, lst, sum, ex, rnd, out, ssz, rby, wds, rhd) => word
def S_shift : q_St → Int32 := fun (below, by_, tc, way, wr, thin, cin, hld, gst, taps, pst, bits, word, shift, psz, fac, lst, sum, ex, rnd, out, ssz, rby, wds, rhd) => shift
def S_psz : q_St → Int64 := fun (below, by_, tc, way, wr, thin, cin, hld, gst, taps, pst, bits, word, shift, psz, fac, lst, sum, ex, rnd, out, ssz, rby, wds, rhd) => psz
def S_fac : q_St → Nat → Int32 := fun (below, by_, tc, way, wr, thin, cin, hld, gst, taps, pst, bits, word, shift, psz, fac, lst, sum, ex, rnd, out, ssz, rby, wds, rhd) => fac
def S_lst : q_St → Int32 := fun (below, by_, tc, way, wr, thin, cin, hld, gst, taps, pst, bits, word, shift, psz, fac, lst, sum, ex, rnd, out, ssz, rby, wds, rhd) => lst
def S_sum : q_St → Int64 := fun (below, by_, tc, way, wr, thin, cin, hld, gst, taps, pst, bits, word, shift, psz, fac, lst, sum, ex, rnd, out, ssz, rby, wds, rhd) => sum
def S_ex : q_St → Int64 := fun (below, by_, tc, way, wr, thin, cin, hld, gst, taps, pst, bits, word, shift, psz, fac, lst, sum, ex, rnd, out, ssz, rby, wds, rhd) => ex
def S_rnd : q_St → Int64 := fun (below, by_, tc, way, wr, thin, cin, hld, gst, taps, pst, bits, word, shift, psz, fac, lst, sum, ex, rnd, out, ssz, rby, wds, rhd) => rnd
def S_lout : q_St → Int32 := fun (below, by_, tc, way, wr, thin, cin, hld, gst, taps, pst, bits, word, shift, psz, fac, lst, sum, ex, rnd, out, ssz, rby, wds, rhd) => out
def S_ssz : q_St → Int64 := fun (below, by_, tc, way, wr, thin, cin, hld, gst, taps, pst, bits, word, shift, psz, fac, lst, sum, ex, rnd, out, ssz, rby, wds, rhd) => ssz
def S_rby : q_St → Int32 := fun (below, by_, tc, way, wr, thin, cin, hld, gst, taps, pst, bits, word, shift, psz, fac, lst, sum, ex, rnd, out, ssz, rby, wds, rhd) => rby
def S_wds : q_St → Nat → Int32 := fun (below, by_, tc, way, wr, thin, cin, hld, gst, taps, pst, bits, word, shift, psz, fac, lst, sum, ex, rnd, out, ssz, rby, wds, rhd) => wds
def S_rhd : q_St → Int32 := fun (below, by_, tc, way, wr, thin, cin, hld, gst, taps, pst, bits, word, shift, psz, fac, lst, sum, ex, rnd, out, ssz, rby, wds, rhd) => rhd
def S_setWay (w : Int32) : q_St → q_St := fun (below, by_, tc, way, wr, thin, cin, hld, gst, taps, pst, bits, word, shift, psz, fac, lst, sum, ex, rnd, out, ssz, rby, wds, rhd) => (below, by_, tc, w, wr, thin, cin, hld, gst, taps, pst, bits, word, shift, psz, fac, lst, sum, ex, rnd, out, ssz, rby, wds, rhd)
def S_setWr (w : Int32) : q_St → q_St := fun (below, by_, tc, way, wr, thin, cin, hld, gst, taps, pst, bits, word, shift, psz, fac, lst, sum, ex, rnd, out, ssz, rby, wds, rhd) => (below, by_, tc, way, w, thin, cin, hld, gst, taps, pst, bits, word, shift, psz, fac, lst, sum, ex, rnd, out, ssz, rby, wds, rhd)
theorem w_hasTap {f : q_Hp} {n p : Nat} {S : q_St} {k : Int32} : Sp yX3_hasTap uX3_hasTap [.ref p, .int k] n (q_blk f p (stE p S)) (some (.int (q_b (s_ok (S_tc S) k))), n, q_blk f p (stE p S)) := by
  obtain ⟨below, by_, tc, way, wr, thin, cin, hld, gst, taps, pst, bits, word, shift, psz, fac, lst, sum, ex, rnd, out, ssz, rby, wds, rhd⟩ := S
  exact c_X3_hasTap

theorem w_tapAt {f : q_Hp} {n p : Nat} {S : q_St} {k : Int32} : Sp yX3_tapAt uX3_tapAt [.ref p, .int k] n (q_blk f p (stE p S)) (some (.int (s_tap (S_tc S) (S_taps S) k)), n, q_blk f p (stE p S)) := by
  obtain ⟨below, by_, tc, way, wr, thin, cin, hld, gst, taps, pst, bits, word, shift, psz, fac, lst, sum, ex, rnd, out, ssz, rby, wds, rhd⟩ := S
  exact c_X3_tapAt

theorem xw_getX {f : q_Hp} {b cnt o : Nat} {S : Nat → q_St} {i : Nat} {es : List q_E} {X : q_St} {j : Nat} {e : q_E} (hi : i < cnt) (ho : o + es.length ≤ b) (hX : S i = X) (h : (stE (b + 7 * i) X)[j]? = some e) : q_blk (stg f b cnt S) o es (b + 7 * i + j) = some e := by
  subst hX
  exact xw_get hi ho h
theorem vu_self {α : Type} (S : Nat → α) (i : Nat) (X : α) : va_up S i X i = X := va_up_self ..
theorem S_ok_up {S : Nat → q_St} {i : Nat} {X : q_St} (h : S_ok X) : S_ok (va_up S i X i) := by rw [vu_self]; exact h
theorem x_dec (x : Int32) : x + Int32.ofInt (-1) = x - 1 := by rw [Int32.sub_eq_add_neg]; rfl
set_option maxHeartbeats 4000000 in
set_option maxRecDepth 100000 in
theorem c_tap_bad {f : q_Hp} {n o b cnt : Nat} {S : Nat → q_St} {ch : Nat → Int32} {cl : Nat} {sam : Nat → Int32} {len lost : Int32} {r1 r2 : Nat → Int32} {k t : Int32} (ho : o + 7 ≤ b) (hcnt : cnt ≤ 8) (hcl : cl ≤ 8) (hk : k < 0 ∨ nI cnt ≤ k) : Sp yX5_tap uX5_tap [.ref o, .int k, .int t] n (q_blk (stg f b cnt S) o (xE o cnt (xrf b cnt) ch cl sam len lost r1 r2)) (some (.int (-2)), n, (q_blk (stg f b cnt S) o (xE o cnt (xrf b cnt) ch cl sam len lost r1 r2))) := by
  refine Sp.ofF (by decide +kernel) rfl rfl (q_le rfl) ?_
  intro G d
  refine q_aload_n dX5_tap_0 rfl ?_
  refine q_iload_n dX5_tap_1 rfl ?_
  refine q_cW (c_find_no ho hcnt hcl hk) dX5_tap_2 kl_X5_51 rfl (q_blk_get (j := 0) rfl) rfl ⟨q_le rfl, q_le rfl⟩ (q_le rfl) (q_le rfl) (q_le rfl) ?_
  refine q_astore_nN dX5_tap_5 (q_le rfl) ?_
  refine q_aload_nN dX5_tap_6 rfl ?_
  refine q_ifnullN (tgt := 21) dX5_tap_7 (by decide) ?_
  refine q_bipush dX5_tap_21 (v := (-2)) (by decide) ?_
  exact q_iret dX5_tap_23 rfl (rfl) (q_le rfl) (q_le rfl)

set_option maxHeartbeats 4000000 in
set_option maxRecDepth 100000 in
theorem c_tap_rng {f : q_Hp} {n o b cnt : Nat} {S : Nat → q_St} {ch : Nat → Int32} {cl : Nat} {sam : Nat → Int32} {len lost : Int32} {r1 r2 : Nat → Int32} {i : Nat} {t : Int32} (ho : o + 7 ≤ b) (hcnt : cnt ≤ 8) (hcl : cl ≤ 8) (hi : i < cnt) (hx : x_in t (-1000000) 1000000 = false) : Sp yX5_tap uX5_tap [.ref o, .int (nI i), .int t] n (q_blk (stg f b cnt S) o (xE o cnt (xrf b cnt) ch cl sam len lost r1 r2)) (some (.int (-2)), n, (q_blk (stg f b cnt S) o (xE o cnt (xrf b cnt) ch cl sam len lost r1 r2))) := by
  refine Sp.ofF (by decide +kernel) rfl rfl (q_le rfl) ?_
  intro G d
  refine q_aload_n dX5_tap_0 rfl ?_
  refine q_iload_n dX5_tap_1 rfl ?_
  refine q_cW (c_find_ok ho hcnt hcl hi) dX5_tap_2 kl_X5_51 rfl (q_blk_get (j := 0) rfl) rfl ⟨q_le rfl, q_le rfl⟩ (q_le rfl) (q_le rfl) (q_le rfl) ?_
  refine q_astore_n dX5_tap_5 (q_le rfl) ?_
  refine q_aload_n dX5_tap_6 rfl ?_
  refine q_ifnull dX5_tap_7 ?_
  refine q_iload_n dX5_tap_10 rfl ?_
  refine q_ldc dX5_tap_11 cn_X5_55 ?_
  refine q_ldc dX5_tap_13 cn_X5_39 ?_
  refine q_cS (c_X5_within) dX5_tap_15 kl_X5_40 rfl ⟨q_le rfl, q_le rfl⟩ (q_le rfl) (q_le rfl) (q_le rfl) ?_
  refine q_ifne_b (tgt := 24) dX5_tap_18 (by decide) (fun h_n => absurd (h_n.symm.trans (hx)) (by decide)) (fun c_18 => ?_)
  refine q_bipush dX5_tap_21 (v := (-2)) (by decide) ?_
  exact q_iret dX5_tap_23 rfl (rfl) (q_le rfl) (q_le rfl)

set_option maxHeartbeats 4000000 in
set_option maxRecDepth 100000 in
theorem c_tap_full {f : q_Hp} {n o b cnt : Nat} {S : Nat → q_St} {ch : Nat → Int32} {cl : Nat} {sam : Nat → Int32} {len lost : Int32} {r1 r2 : Nat → Int32} {i : Nat} {t : Int32} (ho : o + 7 ≤ b) (hcnt : cnt ≤ 8) (hcl : cl ≤ 8) (hi : i < cnt) (hx : x_in t (-1000000) 1000000 = true) (hr : s_roomy (S_tc (S i)) = false) : Sp yX5_tap uX5_tap [.ref o, .int (nI i), .int t] n (q_blk (stg f b cnt S) o (xE o cnt (xrf b cnt) ch cl sam len lost r1 r2)) (some (.int (-4)), n, (q_blk (stg f b cnt (va_up S i (S_addTap t (S i)))) o (xE o cnt (xrf b cnt) ch cl sam len lost r1 r2))) := by
  refine Sp.ofF (by decide +kernel) rfl rfl (q_le rfl) ?_
  intro G d
  refine q_aload_n dX5_tap_0 rfl ?_
  refine q_iload_n dX5_tap_1 rfl ?_
  refine q_cW (c_find_ok ho hcnt hcl hi) dX5_tap_2 kl_X5_51 rfl (q_blk_get (j := 0) rfl) rfl ⟨q_le rfl, q_le rfl⟩ (q_le rfl) (q_le rfl) (q_le rfl) ?_
  refine q_astore_n dX5_tap_5 (q_le rfl) ?_
  refine q_aload_n dX5_tap_6 rfl ?_
  refine q_ifnull dX5_tap_7 ?_
  refine q_iload_n dX5_tap_10 rfl ?_
  refine q_ldc dX5_tap_11 cn_X5_55 ?_
  refine q_ldc dX5_tap_13 cn_X5_39 ?_
  refine q_cS (c_X5_within) dX5_tap_15 kl_X5_40 rfl ⟨q_le rfl, q_le rfl⟩ (q_le rfl) (q_le rfl) (q_le rfl) ?_
  refine q_ifne_b (tgt := 24) dX5_tap_18 (by decide) (fun c_18 => ?_) (fun h_n => absurd (h_n.symm.trans (hx)) (by decide))
  refine q_aload_n dX5_tap_24 rfl ?_
  refine q_iload_n dX5_tap_25 rfl ?_
  refine q_cSt (w_addTap) dX5_tap_26 kl_X5_56 rfl hi ho rfl ⟨q_le rfl, q_le rfl⟩ (q_le rfl) (q_le rfl) (q_le rfl) ?_
  refine q_ifne_b (tgt := 35) dX5_tap_29 (by decide) (fun h_n => absurd (h_n.symm.trans (hr)) (by decide)) (fun c_29 => ?_)
  refine q_bipush dX5_tap_32 (v := (-4)) (by decide) ?_
  exact q_iret dX5_tap_34 rfl (rfl) (q_le rfl) (q_le rfl)

set_option maxHeartbeats 4000000 in
set_option maxRecDepth 100000 in
theorem c_tap_ok {f : q_Hp} {n o b cnt : Nat} {S : Nat → q_St} {ch : Nat → Int32} {cl : Nat} {sam : Nat → Int32} {len lost : Int32} {r1 r2 : Nat → Int32} {i : Nat} {t : Int32} (ho : o + 7 ≤ b) (hcnt : cnt ≤ 8) (hcl : cl ≤ 8) (hi : i < cnt) (hx : x_in t (-1000000) 1000000 = true) (hr : s_roomy (S_tc (S i)) = true) : Sp yX5_tap uX5_tap [.ref o, .int (nI i), .int t] n (q_blk (stg f b cnt S) o (xE o cnt (xrf b cnt) ch cl sam len lost r1 r2)) (some (.int (S_tc (S_addTap t (S i)))), n, (q_blk (stg f b cnt (va_up S i (S_drop (S_addTap t (S i))))) o (xE o cnt (xrf b cnt) ((x_un ch cl (nI i)).1) ((x_un ch cl (nI i)).2) sam len lost r1 r2))) := by
  refine Sp.ofF (by decide +kernel) rfl rfl (q_le rfl) ?_
  intro G d
  refine q_aload_n dX5_tap_0 rfl ?_
  refine q_iload_n dX5_tap_1 rfl ?_
  refine q_cW (c_find_ok ho hcnt hcl hi) dX5_tap_2 kl_X5_51 rfl (q_blk_get (j := 0) rfl) rfl ⟨q_le rfl, q_le rfl⟩ (q_le rfl) (q_le rfl) (q_le rfl) ?_
  refine q_astore_n dX5_tap_5 (q_le rfl) ?_
  refine q_aload_n dX5_tap_6 rfl ?_
  refine q_ifnull dX5_tap_7 ?_
  refine q_iload_n dX5_tap_10 rfl ?_
  refine q_ldc dX5_tap_11 cn_X5_55 ?_
  refine q_ldc dX5_tap_13 cn_X5_39 ?_
  refine q_cS (c_X5_within) dX5_tap_15 kl_X5_40 rfl ⟨q_le rfl, q_le rfl⟩ (q_le rfl) (q_le rfl) (q_le rfl) ?_
  refine q_ifne_b (tgt := 24) dX5_tap_18 (by decide) (fun c_18 => ?_) (fun h_n => absurd (h_n.symm.trans (hx)) (by decide))
  refine q_aload_n dX5_tap_24 rfl ?_
  refine q_iload_n dX5_tap_25 rfl ?_
  refine q_cSt (w_addTap) dX5_tap_26 kl_X5_56 rfl hi ho rfl ⟨q_le rfl, q_le rfl⟩ (q_le rfl) (q_le rfl) (q_le rfl) ?_
  refine q_ifne_b (tgt := 35) dX5_tap_29 (by decide) (fun c_29 => ?_) (fun h_n => absurd (h_n.symm.trans (hr)) (by decide))
  refine q_aload_n dX5_tap_35 rfl ?_
  refine q_iload_n dX5_tap_36 rfl ?_
  refine q_aload_n dX5_tap_37 rfl ?_
  refine q_cW (c_X5_unplan ho hcnt hcl hi) dX5_tap_38 kl_X5_59 rfl (q_blk_get (j := 0) rfl) rfl ⟨q_le rfl, q_le rfl⟩ (q_le rfl) (q_le rfl) (q_le rfl) ?_
  refine q_aload_n dX5_tap_41 rfl ?_
  refine q_getf dX5_tap_42 fl_X5_63 (xw_getX (X := S_drop (S_addTap t (S i))) hi ho (by simp only [vu_self]) (j := 0) rfl) rfl ?_
  exact q_iret dX5_tap_45 rfl (by simp only [vu_self, bx_uu] <;> rfl) (q_le rfl) (q_le rfl)

set_option maxHeartbeats 4000000 in
set_option maxRecDepth 100000 in
theorem c_change_bad {f : q_Hp} {n o b cnt : Nat} {S : Nat → q_St} {ch : Nat → Int32} {cl : Nat} {sam : Nat → Int32} {len lost : Int32} {r1 r2 : Nat → Int32} {k k2 t : Int32} (ho : o + 7 ≤ b) (hcnt : cnt ≤ 8) (hcl : cl ≤ 8) (hk : k < 0 ∨ nI cnt ≤ k) : Sp yX5_change uX5_change [.ref o, .int k, .int k2, .int t] n (q_blk (stg f b cnt S) o (xE o cnt (xrf b cnt) ch cl sam len lost r1 r2)) (some (.int 2000000000), n, (q_blk (stg f b cnt S) o (xE o cnt (xrf b cnt) ch cl sam len lost r1 r2))) := by
  refine Sp.ofF (by decide +kernel) rfl rfl (q_le rfl) ?_
  intro G d
  refine q_aload_n dX5_change_0 rfl ?_
  refine q_iload_n dX5_change_1 rfl ?_
  refine q_cW (c_find_no ho hcnt hcl hk) dX5_change_2 kl_X5_51 rfl (q_blk_get (j := 0) rfl) rfl ⟨q_le rfl, q_le rfl⟩ (q_le rfl) (q_le rfl) (q_le rfl) ?_
  refine q_astoreN dX5_change_5 (q_le rfl) ?_
  refine q_aloadN dX5_change_7 rfl ?_
  refine q_ifnullN (tgt := 32) dX5_change_9 (by decide) ?_
  refine q_ldc dX5_change_32 cn_X5_69 ?_
  exact q_iret dX5_change_34 rfl (rfl) (q_le rfl) (q_le rfl)

set_option maxHeartbeats 4000000 in
set_option maxRecDepth 100000 in
theorem c_change_no {f : q_Hp} {n o b cnt : Nat} {S : Nat → q_St} {ch : Nat → Int32} {cl : Nat} {sam : Nat → Int32} {len lost : Int32} {r1 r2 : Nat → Int32} {i : Nat} {k t : Int32} (ho : o + 7 ≤ b) (hcnt : cnt ≤ 8) (hcl : cl ≤ 8) (hi : i < cnt) (hx : s_ok (S_tc (S i)) k = false) : Sp yX5_change uX5_change [.ref o, .int (nI i), .int k, .int t] n (q_blk (stg f b cnt S) o (xE o cnt (xrf b cnt) ch cl sam len lost r1 r2)) (some (.int 2000000000), n, (q_blk (stg f b cnt S) o (xE o cnt (xrf b cnt) ch cl sam len lost r1 r2))) := by
  refine Sp.ofF (by decide +kernel) rfl rfl (q_le rfl) ?_
  intro G d
  refine q_aload_n dX5_change_0 rfl ?_
  refine q_iload_n dX5_change_1 rfl ?_
  refine q_cW (c_find_ok ho hcnt hcl hi) dX5_change_2 kl_X5_51 rfl (q_blk_get (j := 0) rfl) rfl ⟨q_le rfl, q_le rfl⟩ (q_le rfl) (q_le rfl) (q_le rfl) ?_
  refine q_astore dX5_change_5 (q_le rfl) ?_
  refine q_aload dX5_change_7 rfl ?_
  refine q_ifnull dX5_change_9 ?_
  refine q_aload dX5_change_12 rfl ?_
  refine q_iload_n dX5_change_14 rfl ?_
  refine q_cStr (w_hasTap) dX5_change_15 kl_X5_66 rfl hi ho rfl ⟨q_le rfl, q_le rfl⟩ (q_le rfl) (q_le rfl) (q_le rfl) ?_
  refine q_ifeq_b (tgt := 32) dX5_change_18 (by decide) (fun c_18 => ?_) (fun h_n => absurd (h_n.symm.trans (hx)) (by decide))
  refine q_ldc dX5_change_32 cn_X5_69 ?_
  exact q_iret dX5_change_34 rfl (rfl) (q_le rfl) (q_le rfl)

set_option maxHeartbeats 4000000 in
set_option maxRecDepth 100000 in
theorem c_change_rng {f : q_Hp} {n o b cnt : Nat} {S : Nat → q_St} {ch : Nat → Int32} {cl : Nat} {sam : Nat → Int32} {len lost : Int32} {r1 r2 : Nat → Int32} {i : Nat} {k t : Int32} (ho : o + 7 ≤ b) (hcnt : cnt ≤ 8) (hcl : cl ≤ 8) (hi : i < cnt) (hx : s_ok (S_tc (S i)) k = true) (hr : x_in t (-1000000) 1000000 = false) : Sp yX5_change uX5_change [.ref o, .int (nI i), .int k, .int t] n (q_blk (stg f b cnt S) o (xE o cnt (xrf b cnt) ch cl sam len lost r1 r2)) (some (.int 2000000000), n, (q_blk (stg f b cnt S) o (xE o cnt (xrf b cnt) ch cl sam len lost r1 r2))) := by
  refine Sp.ofF (by decide +kernel) rfl rfl (q_le rfl) ?_
  intro G d
  refine q_aload_n dX5_change_0 rfl ?_
  refine q_iload_n dX5_change_1 rfl ?_
  refine q_cW (c_find_ok ho hcnt hcl hi) dX5_change_2 kl_X5_51 rfl (q_blk_get (j := 0) rfl) rfl ⟨q_le rfl, q_le rfl⟩ (q_le rfl) (q_le rfl) (q_le rfl) ?_
  refine q_astore dX5_change_5 (q_le rfl) ?_
  refine q_aload dX5_change_7 rfl ?_
  refine q_ifnull dX5_change_9 ?_
  refine q_aload dX5_change_12 rfl ?_
  refine q_iload_n dX5_change_14 rfl ?_
  refine q_cStr (w_hasTap) dX5_change_15 kl_X5_66 rfl hi ho rfl ⟨q_le rfl, q_le rfl⟩ (q_le rfl) (q_le rfl) (q_le rfl) ?_
  refine q_ifeq_b (tgt := 32) dX5_change_18 (by decide) (fun h_n => absurd (h_n.symm.trans (hx)) (by decide)) (fun c_18 => ?_)
  refine q_iload_n dX5_change_21 rfl ?_
  refine q_ldc dX5_change_22 cn_X5_55 ?_
  refine q_ldc dX5_change_24 cn_X5_39 ?_
  refine q_cS (c_X5_within) dX5_change_26 kl_X5_40 rfl ⟨q_le rfl, q_le rfl⟩ (q_le rfl) (q_le rfl) (q_le rfl) ?_
  refine q_ifne_b (tgt := 35) dX5_change_29 (by decide) (fun h_n => absurd (h_n.symm.trans (hr)) (by decide)) (fun c_29 => ?_)
  refine q_ldc dX5_change_32 cn_X5_69 ?_
  exact q_iret dX5_change_34 rfl (rfl) (q_le rfl) (q_le rfl)

set_option maxHeartbeats 4000000 in
set_option maxRecDepth 100000 in
theorem c_change_ok {f : q_Hp} {n o b cnt : Nat} {S : Nat → q_St} {ch : Nat → Int32} {cl : Nat} {sam : Nat → Int32} {len lost : Int32} {r1 r2 : Nat → Int32} {i : Nat} {k t : Int32} (ho : o + 7 ≤ b) (hcnt : cnt ≤ 8) (hcl : cl ≤ 8) (hi : i < cnt) (hx : s_ok (S_tc (S i)) k = true) (hr : x_in t (-1000000) 1000000 = true) : Sp yX5_change uX5_change [.ref o, .int (nI i), .int k, .int t] n (q_blk (stg f b cnt S) o (xE o cnt (xrf b cnt) ch cl sam len lost r1 r2)) (some (.int (s_tap (S_tc (S i)) (S_taps (S i)) k)), n, (q_blk (stg f b cnt (va_up S i (S_drop (S_setTap k t (S i))))) o (xE o cnt (xrf b cnt) ((x_un ch cl (nI i)).1) ((x_un ch cl (nI i)).2) sam len lost r1 r2))) := by
  refine Sp.ofF (by decide +kernel) rfl rfl (q_le rfl) ?_
  intro G d
  refine q_aload_n dX5_change_0 rfl ?_
  refine q_iload_n dX5_change_1 rfl ?_
  refine q_cW (c_find_ok ho hcnt hcl hi) dX5_change_2 kl_X5_51 rfl (q_blk_get (j := 0) rfl) rfl ⟨q_le rfl, q_le rfl⟩ (q_le rfl) (q_le rfl) (q_le rfl) ?_
  refine q_astore dX5_change_5 (q_le rfl) ?_
  refine q_aload dX5_change_7 rfl ?_
  refine q_ifnull dX5_change_9 ?_
  refine q_aload dX5_change_12 rfl ?_
  refine q_iload_n dX5_change_14 rfl ?_
  refine q_cStr (w_hasTap) dX5_change_15 kl_X5_66 rfl hi ho rfl ⟨q_le rfl, q_le rfl⟩ (q_le rfl) (q_le rfl) (q_le rfl) ?_
  refine q_ifeq_b (tgt := 32) dX5_change_18 (by decide) (fun h_n => absurd (h_n.symm.trans (hx)) (by decide)) (fun c_18 => ?_)
  refine q_iload_n dX5_change_21 rfl ?_
  refine q_ldc dX5_change_22 cn_X5_55 ?_
  refine q_ldc dX5_change_24 cn_X5_39 ?_
  refine q_cS (c_X5_within) dX5_change_26 kl_X5_40 rfl ⟨q_le rfl, q_le rfl⟩ (q_le rfl) (q_le rfl) (q_le rfl) ?_
  refine q_ifne_b (tgt := 35) dX5_change_29 (by decide) (fun c_29 => ?_) (fun h_n => absurd (h_n.symm.trans (hr)) (by decide))
  refine q_aload dX5_change_35 rfl ?_
  refine q_iload_n dX5_change_37 rfl ?_
  refine q_cStr (w_tapAt) dX5_change_38 kl_X5_70 rfl hi ho rfl ⟨q_le rfl, q_le rfl⟩ (q_le rfl) (q_le rfl) (q_le rfl) ?_
  refine q_istore dX5_change_41 (q_le rfl) ?_
  refine q_aload dX5_change_43 rfl ?_
  refine q_iload_n dX5_change_45 rfl ?_
  refine q_iload_n dX5_change_46 rfl ?_
  refine q_cSt (w_setTap) dX5_change_47 kl_X5_74 rfl hi ho rfl ⟨q_le rfl, q_le rfl⟩ (q_le rfl) (q_le rfl) (q_le rfl) ?_
  refine q_aload_n dX5_change_50 rfl ?_
  refine q_iload_n dX5_change_51 rfl ?_
  refine q_aload dX5_change_52 rfl ?_
  refine q_cW (c_X5_unplan ho hcnt hcl hi) dX5_change_54 kl_X5_59 rfl (q_blk_get (j := 0) rfl) rfl ⟨q_le rfl, q_le rfl⟩ (q_le rfl) (q_le rfl) (q_le rfl) ?_
  refine q_iload dX5_change_57 rfl ?_
  exact q_iret dX5_change_59 rfl (by simp only [vu_self, bx_uu] <;> rfl) (q_le rfl) (q_le rfl)

set_option maxHeartbeats 4000000 in
set_option maxRecDepth 100000 in
theorem c_way_bad {f : q_Hp} {n o b cnt : Nat} {S : Nat → q_St} {ch : Nat → Int32} {cl : Nat} {sam : Nat → Int32} {len lost : Int32} {r1 r2 : Nat → Int32} {k v w : Int32} (ho : o + 7 ≤ b) (hcnt : cnt ≤ 8) (hcl : cl ≤ 8) (hk : k < 0 ∨ nI cnt ≤ k) : Sp yX5_way uX5_way [.ref o, .int k, .int v, .int w] n (q_blk (stg f b cnt S) o (xE o cnt (xrf b cnt) ch cl sam len lost r1 r2)) (some (.int (-2)), n, (q_blk (stg f b cnt S) o (xE o cnt (xrf b cnt) ch cl sam len lost r1 r2))) := by
  refine Sp.ofF (by decide +kernel) rfl rfl (q_le rfl) ?_
  intro G d
  refine q_aload_n dX5_way_0 rfl ?_
  refine q_iload_n dX5_way_1 rfl ?_
  refine q_cW (c_find_no ho hcnt hcl hk) dX5_way_2 kl_X5_51 rfl (q_blk_get (j := 0) rfl) rfl ⟨q_le rfl, q_le rfl⟩ (q_le rfl) (q_le rfl) (q_le rfl) ?_
  refine q_astoreN dX5_way_5 (q_le rfl) ?_
  refine q_aloadN dX5_way_7 rfl ?_
  refine q_ifnullN (tgt := 21) dX5_way_9 (by decide) ?_
  refine q_bipush dX5_way_21 (v := (-2)) (by decide) ?_
  exact q_iret dX5_way_23 rfl (rfl) (q_le rfl) (q_le rfl)

set_option maxHeartbeats 4000000 in
set_option maxRecDepth 100000 in
theorem c_way_rng {f : q_Hp} {n o b cnt : Nat} {S : Nat → q_St} {ch : Nat → Int32} {cl : Nat} {sam : Nat → Int32} {len lost : Int32} {r1 r2 : Nat → Int32} {i : Nat} {v w : Int32} (ho : o + 7 ≤ b) (hcnt : cnt ≤ 8) (hcl : cl ≤ 8) (hi : i < cnt) (hx : x_in v 0 3 = false) : Sp yX5_way uX5_way [.ref o, .int (nI i), .int v, .int w] n (q_blk (stg f b cnt S) o (xE o cnt (xrf b cnt) ch cl sam len lost r1 r2)) (some (.int (-2)), n, (q_blk (stg f b cnt S) o (xE o cnt (xrf b cnt) ch cl sam len lost r1 r2))) := by
  refine Sp.ofF (by decide +kernel) rfl rfl (q_le rfl) ?_
  intro G d
  refine q_aload_n dX5_way_0 rfl ?_
  refine q_iload_n dX5_way_1 rfl ?_
  refine q_cW (c_find_ok ho hcnt hcl hi) dX5_way_2 kl_X5_51 rfl (q_blk_get (j := 0) rfl) rfl ⟨q_le rfl, q_le rfl⟩ (q_le rfl) (q_le rfl) (q_le rfl) ?_
  refine q_astore dX5_way_5 (q_le rfl) ?_
  refine q_aload dX5_way_7 rfl ?_
  refine q_ifnull dX5_way_9 ?_
  refine q_iload_n dX5_way_12 rfl ?_
  refine q_iconst dX5_way_13 (v := 0) (by decide) ?_
  refine q_iconst dX5_way_14 (v := 3) (by decide) ?_
  refine q_cS (c_X5_within) dX5_way_15 kl_X5_40 rfl ⟨q_le rfl, q_le rfl⟩ (q_le rfl) (q_le rfl) (q_le rfl) ?_
  refine q_ifne_b (tgt := 24) dX5_way_18 (by decide) (fun h_n => absurd (h_n.symm.trans (hx)) (by decide)) (fun c_18 => ?_)
  refine q_bipush dX5_way_21 (v := (-2)) (by decide) ?_
  exact q_iret dX5_way_23 rfl (rfl) (q_le rfl) (q_le rfl)

set_option maxHeartbeats 4000000 in
set_option maxRecDepth 100000 in
theorem c_way_ok {f : q_Hp} {n o b cnt : Nat} {S : Nat → q_St} {ch : Nat → Int32} {cl : Nat} {sam : Nat → Int32} {len lost : Int32} {r1 r2 : Nat → Int32} {i : Nat} {v w : Int32} (ho : o + 7 ≤ b) (hcnt : cnt ≤ 8) (hcl : cl ≤ 8) (hi : i < cnt) (hx : x_in v 0 3 = true) (hw : w = 0 ∨ w = 1) : Sp yX5_way uX5_way [.ref o, .int (nI i), .int v, .int w] n (q_blk (stg f b cnt S) o (xE o cnt (xrf b cnt) ch cl sam len lost r1 r2)) (some (.int (S_way (S i))), n, (q_blk (stg f b cnt (va_up S i (S_setWr w (S_setWay v (S i))))) o (xE o cnt (xrf b cnt) ch cl sam len lost r1 r2))) := by
  refine Sp.ofF (by decide +kernel) rfl rfl (q_le rfl) ?_
  intro G d
  refine q_aload_n dX5_way_0 rfl ?_
  refine q_iload_n dX5_way_1 rfl ?_
  refine q_cW (c_find_ok ho hcnt hcl hi) dX5_way_2 kl_X5_51 rfl (q_blk_get (j := 0) rfl) rfl ⟨q_le rfl, q_le rfl⟩ (q_le rfl) (q_le rfl) (q_le rfl) ?_
  refine q_astore dX5_way_5 (q_le rfl) ?_
  refine q_aload dX5_way_7 rfl ?_
  refine q_ifnull dX5_way_9 ?_
  refine q_iload_n dX5_way_12 rfl ?_
  refine q_iconst dX5_way_13 (v := 0) (by decide) ?_
  refine q_iconst dX5_way_14 (v := 3) (by decide) ?_
  refine q_cS (c_X5_within) dX5_way_15 kl_X5_40 rfl ⟨q_le rfl, q_le rfl⟩ (q_le rfl) (q_le rfl) (q_le rfl) ?_
  refine q_ifne_b (tgt := 24) dX5_way_18 (by decide) (fun c_18 => ?_) (fun h_n => absurd (h_n.symm.trans (hx)) (by decide))
  refine q_aload dX5_way_24 rfl ?_
  refine q_getf dX5_way_26 fl_X5_77 (xw_get hi ho (j := 0) rfl) rfl ?_
  refine q_istore dX5_way_29 (q_le rfl) ?_
  refine q_aload dX5_way_31 rfl ?_
  refine q_iload_n dX5_way_33 rfl ?_
  refine q_putf dX5_way_34 pl_X5_77 (xw_get hi ho (j := 0) rfl) (q_le rfl) rfl rfl ?_
  refine q_heap (xw_up (j := 0) (X := S_setWay v (S i)) hi ho (by decide) rfl) ?_
  refine q_aload dX5_way_37 rfl ?_
  refine q_iload_n dX5_way_39 rfl ?_
  refine q_putf dX5_way_40 pl_X5_80 (xw_get hi ho (j := 0) rfl) (q_le rfl) (by rcases hw with rfl | rfl <;> rfl) (by rcases hw with rfl | rfl <;> rfl) ?_
  refine q_heap (xw_up (j := 0) (X := S_setWr w (va_up S i (S_setWay v (S i)) i)) hi ho (by decide) rfl) ?_
  refine q_iload dX5_way_43 rfl ?_
  exact q_iret dX5_way_45 rfl (by simp only [vu_self, bx_uu] <;> rfl) (q_le rfl) (q_le rfl)

def x_sf (X : q_St) (bb ww : Int32) : Nat → Option Nat
  | 0 => none
  | j + 1 => if S_safe bb ww (nI j) X = true then some j else x_sf X bb ww j
set_option maxHeartbeats 4000000 in
set_option maxRecDepth 100000 in
theorem c_plan_bad {f : q_Hp} {n o b cnt : Nat} {S : Nat → q_St} {ch : Nat → Int32} {cl : Nat} {sam : Nat → Int32} {len lost : Int32} {r1 r2 : Nat → Int32} {k bb ww : Int32} (ho : o + 7 ≤ b) (hcnt : cnt ≤ 8) (hcl : cl ≤ 8) (hk : k < 0 ∨ nI cnt ≤ k) : Sp yX5_plan uX5_plan [.ref o, .int k, .int bb, .int ww] n (q_blk (stg f b cnt S) o (xE o cnt (xrf b cnt) ch cl sam len lost r1 r2)) (some (.int (-2)), n, (q_blk (stg f b cnt S) o (xE o cnt (xrf b cnt) ch cl sam len lost r1 r2))) := by
  refine Sp.ofF (by decide +kernel) rfl rfl (q_le rfl) ?_
  intro G d
  refine q_aload_n dX5_plan_0 rfl ?_
  refine q_iload_n dX5_plan_1 rfl ?_
  refine q_cW (c_find_no ho hcnt hcl hk) dX5_plan_2 kl_X5_51 rfl (q_blk_get (j := 0) rfl) rfl ⟨q_le rfl, q_le rfl⟩ (q_le rfl) (q_le rfl) (q_le rfl) ?_
  refine q_astoreN dX5_plan_5 (q_le rfl) ?_
  refine q_aloadN dX5_plan_7 rfl ?_
  refine q_ifnullN (tgt := 20) dX5_plan_9 (by decide) ?_
  refine q_bipush dX5_plan_20 (v := (-2)) (by decide) ?_
  exact q_iret dX5_plan_22 rfl (rfl) (q_le rfl) (q_le rfl)

set_option maxHeartbeats 4000000 in
set_option maxRecDepth 100000 in
theorem c_plan_rng {f : q_Hp} {n o b cnt : Nat} {S : Nat → q_St} {ch : Nat → Int32} {cl : Nat} {sam : Nat → Int32} {len lost : Int32} {r1 r2 : Nat → Int32} {i : Nat} {bb ww : Int32} (ho : o + 7 ≤ b) (hcnt : cnt ≤ 8) (hcl : cl ≤ 8) (hi : i < cnt) (hx : x_isPlan bb ww = false) : Sp yX5_plan uX5_plan [.ref o, .int (nI i), .int bb, .int ww] n (q_blk (stg f b cnt S) o (xE o cnt (xrf b cnt) ch cl sam len lost r1 r2)) (some (.int (-2)), n, (q_blk (stg f b cnt S) o (xE o cnt (xrf b cnt) ch cl sam len lost r1 r2))) := by
  refine Sp.ofF (by decide +kernel) rfl rfl (q_le rfl) ?_
  intro G d
  refine q_aload_n dX5_plan_0 rfl ?_
  refine q_iload_n dX5_plan_1 rfl ?_
  refine q_cW (c_find_ok ho hcnt hcl hi) dX5_plan_2 kl_X5_51 rfl (q_blk_get (j := 0) rfl) rfl ⟨q_le rfl, q_le rfl⟩ (q_le rfl) (q_le rfl) (q_le rfl) ?_
  refine q_astore dX5_plan_5 (q_le rfl) ?_
  refine q_aload dX5_plan_7 rfl ?_
  refine q_ifnull dX5_plan_9 ?_
  refine q_iload_n dX5_plan_12 rfl ?_
  refine q_iload_n dX5_plan_13 rfl ?_
  refine q_cS (c_X5_isPlan) dX5_plan_14 kl_X5_84 rfl ⟨q_le rfl, q_le rfl⟩ (q_le rfl) (q_le rfl) (q_le rfl) ?_
  refine q_ifne_b (tgt := 23) dX5_plan_17 (by decide) (fun h_n => absurd (h_n.symm.trans (hx)) (by decide)) (fun c_17 => ?_)
  refine q_bipush dX5_plan_20 (v := (-2)) (by decide) ?_
  exact q_iret dX5_plan_22 rfl (rfl) (q_le rfl) (q_le rfl)

set_option maxHeartbeats 4000000 in
set_option maxRecDepth 100000 in
theorem lp_X5_plan {G : q_G} {d : q_D} {f : q_Hp} {n o b cnt : Nat} {S : Nat → q_St} {ch : Nat → Int32} {cl : Nat} {sam : Nat → Int32} {len lost : Int32} {r1 r2 : Nat → Int32} {i : Nat} {bb ww : Int32} (ho : o + 7 ≤ b) (hcnt : cnt ≤ 8) (hcl : cl ≤ 8) (hi : i < cnt) (hok : S_ok (S i)) : ∀ (k : Nat), k ≤ 25 → J G d uX5_plan (some (.int ((x_sf (S i) bb ww k).elim (-3) nI)), n, q_blk (stg f b cnt ((x_sf (S i) bb ww k).elim S (fun j => va_up S i (S_setPlan bb ww (nI j) (S i))))) o (xE o cnt (xrf b cnt) ch cl sam len lost r1 r2)) 0 0 n 27 (q_l [(2, .int bb), (3, .int ww), (4, .ref (b + 7 * i)), (5, .int (nI k - 1))]) [] (q_blk (stg f b cnt S) o (xE o cnt (xrf b cnt) ch cl sam len lost r1 r2)) := by
  intro k
  induction k with
  | zero =>
    intro hk
    refine q_iload dX5_plan_27 rfl ?_
    refine q_if_lt (tgt := 62) dX5_plan_29 (by decide) (fun c_29 => ?_) (fun h_n => absurd ((by decide)) h_n)
    refine q_bipush dX5_plan_62 (v := (-3)) (by decide) ?_
    exact q_iret dX5_plan_64 rfl (rfl) (q_le rfl) (q_le rfl)
  | succ k ih =>
    intro hk
    rw [show nI (k + 1) - 1 = nI k from nI_pred k]
    refine q_iload dX5_plan_27 rfl ?_
    refine q_if_lt (tgt := 62) dX5_plan_29 (by decide) (fun h_n => absurd h_n ((nI_pos (by omega)))) (fun c_29 => ?_)
    refine q_aload dX5_plan_32 rfl ?_
    refine q_iload_n dX5_plan_34 rfl ?_
    refine q_iload_n dX5_plan_35 rfl ?_
    refine q_iload dX5_plan_36 rfl ?_
    refine q_cStr (w_isSafe hok) dX5_plan_38 kl_X5_88 rfl hi ho rfl ⟨q_le rfl, q_le rfl⟩ (q_le rfl) (q_le rfl) (q_le rfl) ?_
    refine q_ifeq_b (tgt := 56) dX5_plan_41 (by decide) (fun c_41 => ?_) (fun c_41 => ?_)
    · refine q_iinc dX5_plan_56 rfl (v := nI k - 1) (x_dec _) ?_
      refine q_goto (tgt := 27) dX5_plan_59 (by decide) ?_
      exact q_zz (z' := (some (.int ((x_sf (S i) bb ww k).elim (-3) nI)), n, q_blk (stg f b cnt ((x_sf (S i) bb ww k).elim S (fun j => va_up S i (S_setPlan bb ww (nI j) (S i))))) o (xE o cnt (xrf b cnt) ch cl sam len lost r1 r2))) (by simp [x_sf, c_41]) (q_lo [(2, .int bb), (3, .int ww), (4, .ref (b + 7 * i)), (5, .int (nI k - 1))] ⟨rfl, rfl, rfl, rfl, trivial⟩ (ih (by omega)))
    · refine q_aload dX5_plan_44 rfl ?_
      refine q_iload_n dX5_plan_46 rfl ?_
      refine q_iload_n dX5_plan_47 rfl ?_
      refine q_iload dX5_plan_48 rfl ?_
      refine q_cSt (w_setPlan hok) dX5_plan_50 kl_X5_91 rfl hi ho rfl ⟨q_le rfl, q_le rfl⟩ (q_le rfl) (q_le rfl) (q_le rfl) ?_
      refine q_iload dX5_plan_53 rfl ?_
      exact q_iret dX5_plan_55 rfl (by simp only [x_sf, c_41, if_true]; rfl) (q_le rfl) (q_le rfl)

set_option maxHeartbeats 4000000 in
set_option maxRecDepth 100000 in
theorem c_plan_ok {f : q_Hp} {n o b cnt : Nat} {S : Nat → q_St} {ch : Nat → Int32} {cl : Nat} {sam : Nat → Int32} {len lost : Int32} {r1 r2 : Nat → Int32} {i : Nat} {bb ww : Int32} (ho : o + 7 ≤ b) (hcnt : cnt ≤ 8) (hcl : cl ≤ 8) (hi : i < cnt) (hok : S_ok (S i)) (hx : x_isPlan bb ww = true) : Sp yX5_plan uX5_plan [.ref o, .int (nI i), .int bb, .int ww] n (q_blk (stg f b cnt S) o (xE o cnt (xrf b cnt) ch cl sam len lost r1 r2)) (some (.int ((x_sf (S i) bb ww 25).elim (-3) nI)), n, (q_blk (stg f b cnt ((x_sf (S i) bb ww 25).elim S (fun j => va_up S i (S_setPlan bb ww (nI j) (S i))))) o (xE o cnt (xrf b cnt) ch cl sam len lost r1 r2))) := by
  refine Sp.ofF (by decide +kernel) rfl rfl (q_le rfl) ?_
  intro G d
  refine q_aload_n dX5_plan_0 rfl ?_
  refine q_iload_n dX5_plan_1 rfl ?_
  refine q_cW (c_find_ok ho hcnt hcl hi) dX5_plan_2 kl_X5_51 rfl (q_blk_get (j := 0) rfl) rfl ⟨q_le rfl, q_le rfl⟩ (q_le rfl) (q_le rfl) (q_le rfl) ?_
  refine q_astore dX5_plan_5 (q_le rfl) ?_
  refine q_aload dX5_plan_7 rfl ?_
  refine q_ifnull dX5_plan_9 ?_
  refine q_iload_n dX5_plan_12 rfl ?_
  refine q_iload_n dX5_plan_13 rfl ?_
  refine q_cS (c_X5_isPlan) dX5_plan_14 kl_X5_84 rfl ⟨q_le rfl, q_le rfl⟩ (q_le rfl) (q_le rfl) (q_le rfl) ?_
  refine q_ifne_b (tgt := 23) dX5_plan_17 (by decide) (fun c_17 => ?_) (fun h_n => absurd (h_n.symm.trans (hx)) (by decide))
  refine q_bipush dX5_plan_23 (v := 24) (by decide) ?_
  refine q_istore dX5_plan_25 (q_le rfl) ?_
  exact q_lo [(2, .int bb), (3, .int ww), (4, .ref (b + 7 * i)), (5, .int (nI 25 - 1))] ⟨rfl, rfl, rfl, rfl, trivial⟩ (lp_X5_plan ho hcnt hcl hi hok 25 (by omega))

set_option maxHeartbeats 4000000 in
set_option maxRecDepth 100000 in
theorem c_planAt_bad {f : q_Hp} {n o b cnt : Nat} {S : Nat → q_St} {ch : Nat → Int32} {cl : Nat} {sam : Nat → Int32} {len lost : Int32} {r1 r2 : Nat → Int32} {k bb ww ss : Int32} (ho : o + 7 ≤ b) (hcnt : cnt ≤ 8) (hcl : cl ≤ 8) (hk : k < 0 ∨ nI cnt ≤ k) : Sp yX5_planAt uX5_planAt [.ref o, .int k, .int bb, .int ww, .int ss] n (q_blk (stg f b cnt S) o (xE o cnt (xrf b cnt) ch cl sam len lost r1 r2)) (some (.int (-2)), n, (q_blk (stg f b cnt S) o (xE o cnt (xrf b cnt) ch cl sam len lost r1 r2))) := by
  refine Sp.ofF (by decide +kernel) rfl rfl (q_le rfl) ?_
  intro G d
  refine q_aload_n dX5_planAt_0 rfl ?_
  refine q_iload_n dX5_planAt_1 rfl ?_
  refine q_cW (c_find_no ho hcnt hcl hk) dX5_planAt_2 kl_X5_51 rfl (q_blk_get (j := 0) rfl) rfl ⟨q_le rfl, q_le rfl⟩ (q_le rfl) (q_le rfl) (q_le rfl) ?_
  refine q_astoreN dX5_planAt_5 (q_le rfl) ?_
  refine q_aloadN dX5_planAt_7 rfl ?_
  refine q_ifnullN (tgt := 31) dX5_planAt_9 (by decide) ?_
  refine q_bipush dX5_planAt_31 (v := (-2)) (by decide) ?_
  exact q_iret dX5_planAt_33 rfl (rfl) (q_le rfl) (q_le rfl)

set_option maxHeartbeats 4000000 in
set_option maxRecDepth 100000 in
theorem c_planAt_rng {f : q_Hp} {n o b cnt : Nat} {S : Nat → q_St} {ch : Nat → Int32} {cl : Nat} {sam : Nat → Int32} {len lost : Int32} {r1 r2 : Nat → Int32} {i : Nat} {bb ww ss : Int32} (ho : o + 7 ≤ b) (hcnt : cnt ≤ 8) (hcl : cl ≤ 8) (hi : i < cnt) (hx : x_isPlan bb ww = false) : Sp yX5_planAt uX5_planAt [.ref o, .int (nI i), .int bb, .int ww, .int ss] n (q_blk (stg f b cnt S) o (xE o cnt (xrf b cnt) ch cl sam len lost r1 r2)) (some (.int (-2)), n, (q_blk (stg f b cnt S) o (xE o cnt (xrf b cnt) ch cl sam len lost r1 r2))) := by
  refine Sp.ofF (by decide +kernel) rfl rfl (q_le rfl) ?_
  intro G d
  refine q_aload_n dX5_planAt_0 rfl ?_
  refine q_iload_n dX5_planAt_1 rfl ?_
  refine q_cW (c_find_ok ho hcnt hcl hi) dX5_planAt_2 kl_X5_51 rfl (q_blk_get (j := 0) rfl) rfl ⟨q_le rfl, q_le rfl⟩ (q_le rfl) (q_le rfl) (q_le rfl) ?_
  refine q_astore dX5_planAt_5 (q_le rfl) ?_
  refine q_aload dX5_planAt_7 rfl ?_
  refine q_ifnull dX5_planAt_9 ?_
  refine q_iload_n dX5_planAt_12 rfl ?_
  refine q_iload_n dX5_planAt_13 rfl ?_
  refine q_cS (c_X5_isPlan) dX5_planAt_14 kl_X5_84 rfl ⟨q_le rfl, q_le rfl⟩ (q_le rfl) (q_le rfl) (q_le rfl) ?_
  refine q_ifeq_b (tgt := 31) dX5_planAt_17 (by decide) (fun c_17 => ?_) (fun h_n => absurd (h_n.symm.trans (hx)) (by decide))
  refine q_bipush dX5_planAt_31 (v := (-2)) (by decide) ?_
  exact q_iret dX5_planAt_33 rfl (rfl) (q_le rfl) (q_le rfl)

set_option maxHeartbeats 4000000 in
set_option maxRecDepth 100000 in
theorem c_planAt_rng2 {f : q_Hp} {n o b cnt : Nat} {S : Nat → q_St} {ch : Nat → Int32} {cl : Nat} {sam : Nat → Int32} {len lost : Int32} {r1 r2 : Nat → Int32} {i : Nat} {bb ww ss : Int32} (ho : o + 7 ≤ b) (hcnt : cnt ≤ 8) (hcl : cl ≤ 8) (hi : i < cnt) (hx : x_isPlan bb ww = true) (hr : x_in ss 0 24 = false) : Sp yX5_planAt uX5_planAt [.ref o, .int (nI i), .int bb, .int ww, .int ss] n (q_blk (stg f b cnt S) o (xE o cnt (xrf b cnt) ch cl sam len lost r1 r2)) (some (.int (-2)), n, (q_blk (stg f b cnt S) o (xE o cnt (xrf b cnt) ch cl sam len lost r1 r2))) := by
  refine Sp.ofF (by decide +kernel) rfl rfl (q_le rfl) ?_
  intro G d
  refine q_aload_n dX5_planAt_0 rfl ?_
  refine q_iload_n dX5_planAt_1 rfl ?_
  refine q_cW (c_find_ok ho hcnt hcl hi) dX5_planAt_2 kl_X5_51 rfl (q_blk_get (j := 0) rfl) rfl ⟨q_le rfl, q_le rfl⟩ (q_le rfl) (q_le rfl) (q_le rfl) ?_
  refine q_astore dX5_planAt_5 (q_le rfl) ?_
  refine q_aload dX5_planAt_7 rfl ?_
  refine q_ifnull dX5_planAt_9 ?_
  refine q_iload_n dX5_planAt_12 rfl ?_
  refine q_iload_n dX5_planAt_13 rfl ?_
  refine q_cS (c_X5_isPlan) dX5_planAt_14 kl_X5_84 rfl ⟨q_le rfl, q_le rfl⟩ (q_le rfl) (q_le rfl) (q_le rfl) ?_
  refine q_ifeq_b (tgt := 31) dX5_planAt_17 (by decide) (fun h_n => absurd (h_n.symm.trans (hx)) (by decide)) (fun c_17 => ?_)
  refine q_iload dX5_planAt_20 rfl ?_
  refine q_iconst dX5_planAt_22 (v := 0) (by decide) ?_
  refine q_bipush dX5_planAt_23 (v := 24) (by decide) ?_
  refine q_cS (c_X5_within) dX5_planAt_25 kl_X5_40 rfl ⟨q_le rfl, q_le rfl⟩ (q_le rfl) (q_le rfl) (q_le rfl) ?_
  refine q_ifne_b (tgt := 34) dX5_planAt_28 (by decide) (fun h_n => absurd (h_n.symm.trans (hr)) (by decide)) (fun c_28 => ?_)
  refine q_bipush dX5_planAt_31 (v := (-2)) (by decide) ?_
  exact q_iret dX5_planAt_33 rfl (rfl) (q_le rfl) (q_le rfl)

set_option maxHeartbeats 4000000 in
set_option maxRecDepth 100000 in
theorem c_planAt_no {f : q_Hp} {n o b cnt : Nat} {S : Nat → q_St} {ch : Nat → Int32} {cl : Nat} {sam : Nat → Int32} {len lost : Int32} {r1 r2 : Nat → Int32} {i : Nat} {bb ww ss : Int32} (ho : o + 7 ≤ b) (hcnt : cnt ≤ 8) (hcl : cl ≤ 8) (hi : i < cnt) (hok : S_ok (S i)) (hx : x_isPlan bb ww = true) (hr : x_in ss 0 24 = true) (hs : S_safe bb ww ss (S i) = false) : Sp yX5_planAt uX5_planAt [.ref o, .int (nI i), .int bb, .int ww, .int ss] n (q_blk (stg f b cnt S) o (xE o cnt (xrf b cnt) ch cl sam len lost r1 r2)) (some (.int (-3)), n, (q_blk (stg f b cnt S) o (xE o cnt (xrf b cnt) ch cl sam len lost r1 r2))) := by
  refine Sp.ofF (by decide +kernel) rfl rfl (q_le rfl) ?_
  intro G d
  refine q_aload_n dX5_planAt_0 rfl ?_
  refine q_iload_n dX5_planAt_1 rfl ?_
  refine q_cW (c_find_ok ho hcnt hcl hi) dX5_planAt_2 kl_X5_51 rfl (q_blk_get (j := 0) rfl) rfl ⟨q_le rfl, q_le rfl⟩ (q_le rfl) (q_le rfl) (q_le rfl) ?_
  refine q_astore dX5_planAt_5 (q_le rfl) ?_
  refine q_aload dX5_planAt_7 rfl ?_
  refine q_ifnull dX5_planAt_9 ?_
  refine q_iload_n dX5_planAt_12 rfl ?_
  refine q_iload_n dX5_planAt_13 rfl ?_
  refine q_cS (c_X5_isPlan) dX5_planAt_14 kl_X5_84 rfl ⟨q_le rfl, q_le rfl⟩ (q_le rfl) (q_le rfl) (q_le rfl) ?_
  refine q_ifeq_b (tgt := 31) dX5_planAt_17 (by decide) (fun h_n => absurd (h_n.symm.trans (hx)) (by decide)) (fun c_17 => ?_)
  refine q_iload dX5_planAt_20 rfl ?_
  refine q_iconst dX5_planAt_22 (v := 0) (by decide) ?_
  refine q_bipush dX5_planAt_23 (v := 24) (by decide) ?_
  refine q_cS (c_X5_within) dX5_planAt_25 kl_X5_40 rfl ⟨q_le rfl, q_le rfl⟩ (q_le rfl) (q_le rfl) (q_le rfl) ?_
  refine q_ifne_b (tgt := 34) dX5_planAt_28 (by decide) (fun c_28 => ?_) (fun h_n => absurd (h_n.symm.trans (hr)) (by decide))
  refine q_aload dX5_planAt_34 rfl ?_
  refine q_iload_n dX5_planAt_36 rfl ?_
  refine q_iload_n dX5_planAt_37 rfl ?_
  refine q_iload dX5_planAt_38 rfl ?_
  refine q_cStr (w_isSafe hok) dX5_planAt_40 kl_X5_88 rfl hi ho rfl ⟨q_le rfl, q_le rfl⟩ (q_le rfl) (q_le rfl) (q_le rfl) ?_
  refine q_ifne_b (tgt := 49) dX5_planAt_43 (by decide) (fun h_n => absurd (h_n.symm.trans (hs)) (by decide)) (fun c_43 => ?_)
  refine q_bipush dX5_planAt_46 (v := (-3)) (by decide) ?_
  exact q_iret dX5_planAt_48 rfl (rfl) (q_le rfl) (q_le rfl)

set_option maxHeartbeats 4000000 in
set_option maxRecDepth 100000 in
theorem c_planAt_ok {f : q_Hp} {n o b cnt : Nat} {S : Nat → q_St} {ch : Nat → Int32} {cl : Nat} {sam : Nat → Int32} {len lost : Int32} {r1 r2 : Nat → Int32} {i : Nat} {bb ww ss : Int32} (ho : o + 7 ≤ b) (hcnt : cnt ≤ 8) (hcl : cl ≤ 8) (hi : i < cnt) (hok : S_ok (S i)) (hx : x_isPlan bb ww = true) (hr : x_in ss 0 24 = true) (hs : S_safe bb ww ss (S i) = true) : Sp yX5_planAt uX5_planAt [.ref o, .int (nI i), .int bb, .int ww, .int ss] n (q_blk (stg f b cnt S) o (xE o cnt (xrf b cnt) ch cl sam len lost r1 r2)) (some (.int ss), n, (q_blk (stg f b cnt (va_up S i (S_setPlan bb ww ss (S i)))) o (xE o cnt (xrf b cnt) ch cl sam len lost r1 r2))) := by
  refine Sp.ofF (by decide +kernel) rfl rfl (q_le rfl) ?_
  intro G d
  refine q_aload_n dX5_planAt_0 rfl ?_
  refine q_iload_n dX5_planAt_1 rfl ?_
  refine q_cW (c_find_ok ho hcnt hcl hi) dX5_planAt_2 kl_X5_51 rfl (q_blk_get (j := 0) rfl) rfl ⟨q_le rfl, q_le rfl⟩ (q_le rfl) (q_le rfl) (q_le rfl) ?_
  refine q_astore dX5_planAt_5 (q_le rfl) ?_
  refine q_aload dX5_planAt_7 rfl ?_
  refine q_ifnull dX5_planAt_9 ?_
  refine q_iload_n dX5_planAt_12 rfl ?_
  refine q_iload_n dX5_planAt_13 rfl ?_
  refine q_cS (c_X5_isPlan) dX5_planAt_14 kl_X5_84 rfl ⟨q_le rfl, q_le rfl⟩ (q_le rfl) (q_le rfl) (q_le rfl) ?_
  refine q_ifeq_b (tgt := 31) dX5_planAt_17 (by decide) (fun h_n => absurd (h_n.symm.trans (hx)) (by decide)) (fun c_17 => ?_)
  refine q_iload dX5_planAt_20 rfl ?_
  refine q_iconst dX5_planAt_22 (v := 0) (by decide) ?_
  refine q_bipush dX5_planAt_23 (v := 24) (by decide) ?_
  refine q_cS (c_X5_within) dX5_planAt_25 kl_X5_40 rfl ⟨q_le rfl, q_le rfl⟩ (q_le rfl) (q_le rfl) (q_le rfl) ?_
  refine q_ifne_b (tgt := 34) dX5_planAt_28 (by decide) (fun c_28 => ?_) (fun h_n => absurd (h_n.symm.trans (hr)) (by decide))
  refine q_aload dX5_planAt_34 rfl ?_
  refine q_iload_n dX5_planAt_36 rfl ?_
  refine q_iload_n dX5_planAt_37 rfl ?_
  refine q_iload dX5_planAt_38 rfl ?_
  refine q_cStr (w_isSafe hok) dX5_planAt_40 kl_X5_88 rfl hi ho rfl ⟨q_le rfl, q_le rfl⟩ (q_le rfl) (q_le rfl) (q_le rfl) ?_
  refine q_ifne_b (tgt := 49) dX5_planAt_43 (by decide) (fun c_43 => ?_) (fun h_n => absurd (h_n.symm.trans (hs)) (by decide))
  refine q_aload dX5_planAt_49 rfl ?_
  refine q_iload_n dX5_planAt_51 rfl ?_
  refine q_iload_n dX5_planAt_52 rfl ?_
  refine q_iload dX5_planAt_53 rfl ?_
  refine q_cSt (w_setPlan hok) dX5_planAt_55 kl_X5_91 rfl hi ho rfl ⟨q_le rfl, q_le rfl⟩ (q_le rfl) (q_le rfl) (q_le rfl) ?_
  refine q_iload dX5_planAt_58 rfl ?_
  exact q_iret dX5_planAt_60 rfl (rfl) (q_le rfl) (q_le rfl)

set_option maxHeartbeats 4000000 in
set_option maxRecDepth 100000 in
theorem c_coef_bad {f : q_Hp} {n o b cnt : Nat} {S : Nat → q_St} {ch : Nat → Int32} {cl : Nat} {sam : Nat → Int32} {len lost : Int32} {r1 r2 : Nat → Int32} {k k2 : Int32} (ho : o + 7 ≤ b) (hcnt : cnt ≤ 8) (hcl : cl ≤ 8) (hk : k < 0 ∨ nI cnt ≤ k) : Sp yX5_coefficient uX5_coefficient [.ref o, .int k, .int k2] n (q_blk (stg f b cnt S) o (xE o cnt (xrf b cnt) ch cl sam len lost r1 r2)) (some (.int 2000000000), n, (q_blk (stg f b cnt S) o (xE o cnt (xrf b cnt) ch cl sam len lost r1 r2))) := by
  refine Sp.ofF (by decide +kernel) rfl rfl (q_le rfl) ?_
  intro G d
  refine q_aload_n dX5_coefficient_0 rfl ?_
  refine q_iload_n dX5_coefficient_1 rfl ?_
  refine q_cW (c_find_no ho hcnt hcl hk) dX5_coefficient_2 kl_X5_51 rfl (q_blk_get (j := 0) rfl) rfl ⟨q_le rfl, q_le rfl⟩ (q_le rfl) (q_le rfl) (q_le rfl) ?_
  refine q_astore_nN dX5_coefficient_5 (q_le rfl) ?_
  refine q_aload_nN dX5_coefficient_6 rfl ?_
  refine q_ifnullN (tgt := 28) dX5_coefficient_7 (by decide) ?_
  refine q_ldc dX5_coefficient_28 cn_X5_69 ?_
  exact q_iret dX5_coefficient_30 rfl (rfl) (q_le rfl) (q_le rfl)

def x_coef (X : q_St) (k : Int32) : Int32 := if S_pst X = 0 then 2000000000 else bif s_ok (S_tc X) k then (bif k_in32 k then S_fac X k.toNatClampNeg else 0) else 2000000000
set_option maxHeartbeats 4000000 in
set_option maxRecDepth 100000 in
theorem c_coef_ok {f : q_Hp} {n o b cnt : Nat} {S : Nat → q_St} {ch : Nat → Int32} {cl : Nat} {sam : Nat → Int32} {len lost : Int32} {r1 r2 : Nat → Int32} {i : Nat} {k : Int32} (ho : o + 7 ≤ b) (hcnt : cnt ≤ 8) (hcl : cl ≤ 8) (hi : i < cnt) : Sp yX5_coefficient uX5_coefficient [.ref o, .int (nI i), .int k] n (q_blk (stg f b cnt S) o (xE o cnt (xrf b cnt) ch cl sam len lost r1 r2)) (some (.int (x_coef (S i) k)), n, (q_blk (stg f b cnt S) o (xE o cnt (xrf b cnt) ch cl sam len lost r1 r2))) := by
  refine Sp.ofF (by decide +kernel) rfl rfl (q_le rfl) ?_
  intro G d
  refine q_aload_n dX5_coefficient_0 rfl ?_
  refine q_iload_n dX5_coefficient_1 rfl ?_
  refine q_cW (c_find_ok ho hcnt hcl hi) dX5_coefficient_2 kl_X5_51 rfl (q_blk_get (j := 0) rfl) rfl ⟨q_le rfl, q_le rfl⟩ (q_le rfl) (q_le rfl) (q_le rfl) ?_
  refine q_astore_n dX5_coefficient_5 (q_le rfl) ?_
  refine q_aload_n dX5_coefficient_6 rfl ?_
  refine q_ifnull dX5_coefficient_7 ?_
  refine q_aload_n dX5_coefficient_10 rfl ?_
  refine q_getf dX5_coefficient_11 fl_X5_95 (xw_get hi ho (j := 0) rfl) rfl ?_
  refine q_getf dX5_coefficient_14 fl_X5_99 (xw_get hi ho (j := 2) rfl) rfl ?_
  refine q_if_eq (tgt := 28) dX5_coefficient_17 (by decide) (fun c_17 => ?_) (fun c_17 => ?_)
  · refine q_ldc dX5_coefficient_28 cn_X5_69 ?_
    exact q_iret dX5_coefficient_30 rfl (by unfold x_coef; rw [if_pos (show S_pst (S i) = 0 from c_17)]) (q_le rfl) (q_le rfl)
  · refine q_aload_n dX5_coefficient_20 rfl ?_
    refine q_iload_n dX5_coefficient_21 rfl ?_
    refine q_cStr (w_hasTap) dX5_coefficient_22 kl_X5_66 rfl hi ho rfl ⟨q_le rfl, q_le rfl⟩ (q_le rfl) (q_le rfl) (q_le rfl) ?_
    refine q_ifne_b (tgt := 31) dX5_coefficient_25 (by decide) (fun c_25 => ?_) (fun c_25 => ?_)
    · refine q_aload_n dX5_coefficient_31 rfl ?_
      refine q_getf dX5_coefficient_32 fl_X5_95 (xw_get hi ho (j := 0) rfl) rfl ?_
      refine q_iload_n dX5_coefficient_35 rfl ?_
      refine q_cSs (j := 2) (c_X1_factor) dX5_coefficient_36 kl_X5_104 rfl hi ho rfl rfl rfl ⟨q_le rfl, q_le rfl⟩ (q_le rfl) (q_le rfl) (q_le rfl) ?_
      exact q_iret dX5_coefficient_39 rfl (by unfold x_coef; rw [if_neg (show ¬ S_pst (S i) = 0 from c_17), c_25]; rfl) (q_le rfl) (q_le rfl)
    · refine q_ldc dX5_coefficient_28 cn_X5_69 ?_
      exact q_iret dX5_coefficient_30 rfl (by unfold x_coef; rw [if_neg (show ¬ S_pst (S i) = 0 from c_17), c_25]; rfl) (q_le rfl) (q_le rfl)

set_option maxHeartbeats 4000000 in
set_option maxRecDepth 100000 in
theorem c_norm_bad {f : q_Hp} {n o b cnt : Nat} {S : Nat → q_St} {ch : Nat → Int32} {cl : Nat} {sam : Nat → Int32} {len lost : Int32} {r1 r2 : Nat → Int32} {k : Int32} (ho : o + 7 ≤ b) (hcnt : cnt ≤ 8) (hcl : cl ≤ 8) (hk : k < 0 ∨ nI cnt ≤ k) : Sp yX5_norm uX5_norm [.ref o, .int k] n (q_blk (stg f b cnt S) o (xE o cnt (xrf b cnt) ch cl sam len lost r1 r2)) (some (.long (-2)), n, (q_blk (stg f b cnt S) o (xE o cnt (xrf b cnt) ch cl sam len lost r1 r2))) := by
  refine Sp.ofF (by decide +kernel) rfl rfl (q_le rfl) ?_
  intro G d
  refine q_aload_n dX5_norm_0 rfl ?_
  refine q_iload_n dX5_norm_1 rfl ?_
  refine q_cW (c_find_no ho hcnt hcl hk) dX5_norm_2 kl_X5_51 rfl (q_blk_get (j := 0) rfl) rfl ⟨q_le rfl, q_le rfl⟩ (q_le rfl) (q_le rfl) (q_le rfl) ?_
  refine q_astore_nN dX5_norm_5 (q_le rfl) ?_
  refine q_aload_nN dX5_norm_6 rfl ?_
  refine q_ifnullN (tgt := 20) dX5_norm_7 (by decide) ?_
  refine q_ldc2 dX5_norm_20 cn_X5_129 ?_
  exact q_lret dX5_norm_23 rfl (rfl) (q_le rfl) (q_le rfl)

set_option maxHeartbeats 4000000 in
set_option maxRecDepth 100000 in
theorem c_norm_ok {f : q_Hp} {n o b cnt : Nat} {S : Nat → q_St} {ch : Nat → Int32} {cl : Nat} {sam : Nat → Int32} {len lost : Int32} {r1 r2 : Nat → Int32} {i : Nat} (ho : o + 7 ≤ b) (hcnt : cnt ≤ 8) (hcl : cl ≤ 8) (hi : i < cnt) : Sp yX5_norm uX5_norm [.ref o, .int (nI i)] n (q_blk (stg f b cnt S) o (xE o cnt (xrf b cnt) ch cl sam len lost r1 r2)) (some (.long (if S_pst (S i) = 0 then -2 else S_psz (S i))), n, (q_blk (stg f b cnt S) o (xE o cnt (xrf b cnt) ch cl sam len lost r1 r2))) := by
  refine Sp.ofF (by decide +kernel) rfl rfl (q_le rfl) ?_
  intro G d
  refine q_aload_n dX5_norm_0 rfl ?_
  refine q_iload_n dX5_norm_1 rfl ?_
  refine q_cW (c_find_ok ho hcnt hcl hi) dX5_norm_2 kl_X5_51 rfl (q_blk_get (j := 0) rfl) rfl ⟨q_le rfl, q_le rfl⟩ (q_le rfl) (q_le rfl) (q_le rfl) ?_
  refine q_astore_n dX5_norm_5 (q_le rfl) ?_
  refine q_aload_n dX5_norm_6 rfl ?_
  refine q_ifnull dX5_norm_7 ?_
  refine q_aload_n dX5_norm_10 rfl ?_
  refine q_getf dX5_norm_11 fl_X5_95 (xw_get hi ho (j := 0) rfl) rfl ?_
  refine q_getf dX5_norm_14 fl_X5_99 (xw_get hi ho (j := 2) rfl) rfl ?_
  refine q_if_ne (tgt := 24) dX5_norm_17 (by decide) (fun c_17 => ?_) (fun c_17 => ?_)
  · refine q_aload_n dX5_norm_24 rfl ?_
    refine q_getf dX5_norm_25 fl_X5_95 (xw_get hi ho (j := 0) rfl) rfl ?_
    refine q_getf dX5_norm_28 fl_X5_131 (xw_get hi ho (j := 2) rfl) rfl ?_
    exact q_lret dX5_norm_31 rfl (by rw [if_neg (show ¬ S_pst (S i) = 0 from c_17)] <;> rfl) (q_le rfl) (q_le rfl)
  · refine q_ldc2 dX5_norm_20 cn_X5_129 ?_
    exact q_lret dX5_norm_23 rfl (by rw [if_pos (show S_pst (S i) = 0 from c_17)] <;> rfl) (q_le rfl) (q_le rfl)

def x_about (X : q_St) (pl : Int32) (v : Int32) : Int32 :=
  if v = 0 then S_tc X else if v = 1 then S_below X else if v = 2 then S_by X else if v = 3 then S_way X else if v = 4 then (if S_wr X = 0 then 0 else 1) else if v = 5 then (if S_pst X = 0 then -1 else S_shift X) else if v = 6 then (if S_pst X = 0 then -1 else S_bits X) else if v = 7 then (if S_pst X = 0 then -1 else S_word X) else if v = 8 then pl else if v = 9 then S_sym X else -2
def x_plc (ch : Nat → Int32) (cl i : Nat) : Int32 := (x_fd ch (nI i) cl 0).elim (-1) nI
set_option maxHeartbeats 4000000 in
set_option maxRecDepth 100000 in
theorem c_about_bad {f : q_Hp} {n o b cnt : Nat} {S : Nat → q_St} {ch : Nat → Int32} {cl : Nat} {sam : Nat → Int32} {len lost : Int32} {r1 r2 : Nat → Int32} {k v : Int32} (ho : o + 7 ≤ b) (hcnt : cnt ≤ 8) (hcl : cl ≤ 8) (hk : k < 0 ∨ nI cnt ≤ k) : Sp yX5_about uX5_about [.ref o, .int k, .int v] n (q_blk (stg f b cnt S) o (xE o cnt (xrf b cnt) ch cl sam len lost r1 r2)) (some (.int (-2)), n, (q_blk (stg f b cnt S) o (xE o cnt (xrf b cnt) ch cl sam len lost r1 r2))) := by
  refine Sp.ofF (by decide +kernel) rfl rfl (q_le rfl) ?_
  intro G d
  refine q_aload_n dX5_about_0 rfl ?_
  refine q_iload_n dX5_about_1 rfl ?_
  refine q_cW (c_find_no ho hcnt hcl hk) dX5_about_2 kl_X5_51 rfl (q_blk_get (j := 0) rfl) rfl ⟨q_le rfl, q_le rfl⟩ (q_le rfl) (q_le rfl) (q_le rfl) ?_
  refine q_astore_nN dX5_about_5 (q_le rfl) ?_
  refine q_aload_nN dX5_about_6 rfl ?_
  refine q_ifnonnullN dX5_about_7 ?_
  refine q_bipush dX5_about_10 (v := (-2)) (by decide) ?_
  exact q_iret dX5_about_12 rfl (rfl) (q_le rfl) (q_le rfl)

set_option maxHeartbeats 4000000 in
set_option maxRecDepth 100000 in
theorem c_about_ok {f : q_Hp} {n o b cnt : Nat} {S : Nat → q_St} {ch : Nat → Int32} {cl : Nat} {sam : Nat → Int32} {len lost : Int32} {r1 r2 : Nat → Int32} {i : Nat} {v : Int32} (ho : o + 7 ≤ b) (hcnt : cnt ≤ 8) (hcl : cl ≤ 8) (hi : i < cnt) (hok : S_ok (S i)) : Sp yX5_about uX5_about [.ref o, .int (nI i), .int v] n (q_blk (stg f b cnt S) o (xE o cnt (xrf b cnt) ch cl sam len lost r1 r2)) (some (.int (x_about (S i) (x_plc ch cl i) v)), n, (q_blk (stg f b cnt S) o (xE o cnt (xrf b cnt) ch cl sam len lost r1 r2))) := by
  refine Sp.ofF (by decide +kernel) rfl rfl (q_le rfl) ?_
  intro G d
  refine q_aload_n dX5_about_0 rfl ?_
  refine q_iload_n dX5_about_1 rfl ?_
  refine q_cW (c_find_ok ho hcnt hcl hi) dX5_about_2 kl_X5_51 rfl (q_blk_get (j := 0) rfl) rfl ⟨q_le rfl, q_le rfl⟩ (q_le rfl) (q_le rfl) (q_le rfl) ?_
  refine q_astore_n dX5_about_5 (q_le rfl) ?_
  refine q_aload_n dX5_about_6 rfl ?_
  refine q_ifnonnull (tgt := 13) dX5_about_7 (by decide) ?_
  refine q_aload_n dX5_about_13 rfl ?_
  refine q_getf dX5_about_14 fl_X5_95 (xw_get hi ho (j := 0) rfl) rfl ?_
  refine q_astore dX5_about_17 (q_le rfl) ?_
  refine q_iload_n dX5_about_19 rfl ?_
  by_cases s_20_0 : v = 0
  · refine q_tblIn (off := 56) (tgt := 76) dX5_about_20 (by rw [s_20_0]; decide) (by rw [s_20_0]; decide) (by rw [s_20_0]; rfl) (by decide) ?_
    refine q_aload_n dX5_about_76 rfl ?_
    refine q_getf dX5_about_77 fl_X5_63 (xw_get hi ho (j := 0) rfl) rfl ?_
    exact q_iret dX5_about_80 rfl (by unfold x_about; rw [if_pos s_20_0] <;> rfl) (q_le rfl) (q_le rfl)
  by_cases s_20_1 : v = 1
  · refine q_tblIn (off := 61) (tgt := 81) dX5_about_20 (by rw [s_20_1]; decide) (by rw [s_20_1]; decide) (by rw [s_20_1]; rfl) (by decide) ?_
    refine q_aload_n dX5_about_81 rfl ?_
    refine q_getf dX5_about_82 fl_X5_107 (xw_get hi ho (j := 0) rfl) rfl ?_
    exact q_iret dX5_about_85 rfl (by unfold x_about; rw [if_neg s_20_0, if_pos s_20_1] <;> rfl) (q_le rfl) (q_le rfl)
  by_cases s_20_2 : v = 2
  · refine q_tblIn (off := 66) (tgt := 86) dX5_about_20 (by rw [s_20_2]; decide) (by rw [s_20_2]; decide) (by rw [s_20_2]; rfl) (by decide) ?_
    refine q_aload_n dX5_about_86 rfl ?_
    refine q_getf dX5_about_87 fl_X5_110 (xw_get hi ho (j := 0) rfl) rfl ?_
    exact q_iret dX5_about_90 rfl (by unfold x_about; rw [if_neg s_20_0, if_neg s_20_1, if_pos s_20_2] <;> rfl) (q_le rfl) (q_le rfl)
  by_cases s_20_3 : v = 3
  · refine q_tblIn (off := 71) (tgt := 91) dX5_about_20 (by rw [s_20_3]; decide) (by rw [s_20_3]; decide) (by rw [s_20_3]; rfl) (by decide) ?_
    refine q_aload_n dX5_about_91 rfl ?_
    refine q_getf dX5_about_92 fl_X5_77 (xw_get hi ho (j := 0) rfl) rfl ?_
    exact q_iret dX5_about_95 rfl (by unfold x_about; rw [if_neg s_20_0, if_neg s_20_1, if_neg s_20_2, if_pos s_20_3] <;> rfl) (q_le rfl) (q_le rfl)
  by_cases s_20_4 : v = 4
  · refine q_tblIn (off := 76) (tgt := 96) dX5_about_20 (by rw [s_20_4]; decide) (by rw [s_20_4]; decide) (by rw [s_20_4]; rfl) (by decide) ?_
    refine q_aload_n dX5_about_96 rfl ?_
    refine q_getf dX5_about_97 fl_X5_80 (xw_get hi ho (j := 0) rfl) rfl ?_
    refine q_if_eq (tgt := 107) dX5_about_100 (by decide) (fun c_100 => ?_) (fun c_100 => ?_)
    · refine q_iconst dX5_about_107 (v := 0) (by decide) ?_
      exact q_iret dX5_about_108 rfl (by unfold x_about; rw [if_neg s_20_0, if_neg s_20_1, if_neg s_20_2, if_neg s_20_3, if_pos s_20_4, if_pos (show S_wr (S i) = 0 from c_100)] <;> rfl) (q_le rfl) (q_le rfl)
    · refine q_iconst dX5_about_103 (v := 1) (by decide) ?_
      refine q_goto (tgt := 108) dX5_about_104 (by decide) ?_
      exact q_iret dX5_about_108 rfl (by unfold x_about; rw [if_neg s_20_0, if_neg s_20_1, if_neg s_20_2, if_neg s_20_3, if_pos s_20_4, if_neg (show ¬ S_wr (S i) = 0 from c_100)] <;> rfl) (q_le rfl) (q_le rfl)
  by_cases s_20_5 : v = 5
  · refine q_tblIn (off := 89) (tgt := 109) dX5_about_20 (by rw [s_20_5]; decide) (by rw [s_20_5]; decide) (by rw [s_20_5]; rfl) (by decide) ?_
    refine q_aload dX5_about_109 rfl ?_
    refine q_getf dX5_about_111 fl_X5_99 (xw_get hi ho (j := 2) rfl) rfl ?_
    refine q_if_eq (tgt := 125) dX5_about_114 (by decide) (fun c_114 => ?_) (fun c_114 => ?_)
    · refine q_iconst dX5_about_125 (v := (-1)) (by decide) ?_
      exact q_iret dX5_about_126 rfl (by unfold x_about; rw [if_neg s_20_0, if_neg s_20_1, if_neg s_20_2, if_neg s_20_3, if_neg s_20_4, if_pos s_20_5, if_pos (show S_pst (S i) = 0 from c_114)] <;> rfl) (q_le rfl) (q_le rfl)
    · refine q_aload dX5_about_117 rfl ?_
      refine q_getf dX5_about_119 fl_X5_113 (xw_get hi ho (j := 2) rfl) rfl ?_
      refine q_goto (tgt := 126) dX5_about_122 (by decide) ?_
      exact q_iret dX5_about_126 rfl (by unfold x_about; rw [if_neg s_20_0, if_neg s_20_1, if_neg s_20_2, if_neg s_20_3, if_neg s_20_4, if_pos s_20_5, if_neg (show ¬ S_pst (S i) = 0 from c_114)] <;> rfl) (q_le rfl) (q_le rfl)
  by_cases s_20_6 : v = 6
  · refine q_tblIn (off := 107) (tgt := 127) dX5_about_20 (by rw [s_20_6]; decide) (by rw [s_20_6]; decide) (by rw [s_20_6]; rfl) (by decide) ?_
    refine q_aload dX5_about_127 rfl ?_
    refine q_getf dX5_about_129 fl_X5_99 (xw_get hi ho (j := 2) rfl) rfl ?_
    refine q_if_eq (tgt := 143) dX5_about_132 (by decide) (fun c_132 => ?_) (fun c_132 => ?_)
    · refine q_iconst dX5_about_143 (v := (-1)) (by decide) ?_
      exact q_iret dX5_about_144 rfl (by unfold x_about; rw [if_neg s_20_0, if_neg s_20_1, if_neg s_20_2, if_neg s_20_3, if_neg s_20_4, if_neg s_20_5, if_pos s_20_6, if_pos (show S_pst (S i) = 0 from c_132)] <;> rfl) (q_le rfl) (q_le rfl)
    · refine q_aload dX5_about_135 rfl ?_
      refine q_getf dX5_about_137 fl_X5_116 (xw_get hi ho (j := 2) rfl) rfl ?_
      refine q_goto (tgt := 144) dX5_about_140 (by decide) ?_
      exact q_iret dX5_about_144 rfl (by unfold x_about; rw [if_neg s_20_0, if_neg s_20_1, if_neg s_20_2, if_neg s_20_3, if_neg s_20_4, if_neg s_20_5, if_pos s_20_6, if_neg (show ¬ S_pst (S i) = 0 from c_132)] <;> rfl) (q_le rfl) (q_le rfl)
  by_cases s_20_7 : v = 7
  · refine q_tblIn (off := 125) (tgt := 145) dX5_about_20 (by rw [s_20_7]; decide) (by rw [s_20_7]; decide) (by rw [s_20_7]; rfl) (by decide) ?_
    refine q_aload dX5_about_145 rfl ?_
    refine q_getf dX5_about_147 fl_X5_99 (xw_get hi ho (j := 2) rfl) rfl ?_
    refine q_if_eq (tgt := 161) dX5_about_150 (by decide) (fun c_150 => ?_) (fun c_150 => ?_)
    · refine q_iconst dX5_about_161 (v := (-1)) (by decide) ?_
      exact q_iret dX5_about_162 rfl (by unfold x_about; rw [if_neg s_20_0, if_neg s_20_1, if_neg s_20_2, if_neg s_20_3, if_neg s_20_4, if_neg s_20_5, if_neg s_20_6, if_pos s_20_7, if_pos (show S_pst (S i) = 0 from c_150)] <;> rfl) (q_le rfl) (q_le rfl)
    · refine q_aload dX5_about_153 rfl ?_
      refine q_getf dX5_about_155 fl_X5_119 (xw_get hi ho (j := 2) rfl) rfl ?_
      refine q_goto (tgt := 162) dX5_about_158 (by decide) ?_
      exact q_iret dX5_about_162 rfl (by unfold x_about; rw [if_neg s_20_0, if_neg s_20_1, if_neg s_20_2, if_neg s_20_3, if_neg s_20_4, if_neg s_20_5, if_neg s_20_6, if_pos s_20_7, if_neg (show ¬ S_pst (S i) = 0 from c_150)] <;> rfl) (q_le rfl) (q_le rfl)
  by_cases s_20_8 : v = 8
  · refine q_tblIn (off := 143) (tgt := 163) dX5_about_20 (by rw [s_20_8]; decide) (by rw [s_20_8]; decide) (by rw [s_20_8]; rfl) (by decide) ?_
    refine q_aload_n dX5_about_163 rfl ?_
    refine q_iload_n dX5_about_164 rfl ?_
    refine q_cW (c_X5_placeOf ho hcnt hcl) dX5_about_165 kl_X5_122 rfl (q_blk_get (j := 0) rfl) rfl ⟨q_le rfl, q_le rfl⟩ (q_le rfl) (q_le rfl) (q_le rfl) ?_
    exact q_iret dX5_about_168 rfl (by unfold x_about; rw [if_neg s_20_0, if_neg s_20_1, if_neg s_20_2, if_neg s_20_3, if_neg s_20_4, if_neg s_20_5, if_neg s_20_6, if_neg s_20_7, if_pos s_20_8] <;> rfl) (q_le rfl) (q_le rfl)
  by_cases s_20_9 : v = 9
  · refine q_tblIn (off := 149) (tgt := 169) dX5_about_20 (by rw [s_20_9]; decide) (by rw [s_20_9]; decide) (by rw [s_20_9]; rfl) (by decide) ?_
    refine q_aload_n dX5_about_169 rfl ?_
    refine q_cStr (w_sym hok) dX5_about_170 kl_X5_125 rfl hi ho rfl ⟨q_le rfl, q_le rfl⟩ (q_le rfl) (q_le rfl) (q_le rfl) ?_
    exact q_iret dX5_about_173 rfl (by unfold x_about; rw [if_neg s_20_0, if_neg s_20_1, if_neg s_20_2, if_neg s_20_3, if_neg s_20_4, if_neg s_20_5, if_neg s_20_6, if_neg s_20_7, if_neg s_20_8, if_pos s_20_9] <;> rfl) (q_le rfl) (q_le rfl)
  have is_20_0 := q_ne s_20_0 (i := 0) (by decide)
  have is_20_1 := q_ne s_20_1 (i := 1) (by decide)
  have is_20_2 := q_ne s_20_2 (i := 2) (by decide)
  have is_20_3 := q_ne s_20_3 (i := 3) (by decide)
  have is_20_4 := q_ne s_20_4 (i := 4) (by decide)
  have is_20_5 := q_ne s_20_5 (i := 5) (by decide)
  have is_20_6 := q_ne s_20_6 (i := 6) (by decide)
  have is_20_7 := q_ne s_20_7 (i := 7) (by decide)
  have is_20_8 := q_ne s_20_8 (i := 8) (by decide)
  have is_20_9 := q_ne s_20_9 (i := 9) (by decide)
  refine q_tblOut (tgt := 174) dX5_about_20 (by omega) (by decide) ?_
  refine q_bipush dX5_about_174 (v := (-2)) (by decide) ?_
  exact q_iret dX5_about_176 rfl (by unfold x_about; rw [if_neg s_20_0, if_neg s_20_1, if_neg s_20_2, if_neg s_20_3, if_neg s_20_4, if_neg s_20_5, if_neg s_20_6, if_neg s_20_7, if_neg s_20_8, if_neg s_20_9] <;> rfl) (q_le rfl) (q_le rfl)

