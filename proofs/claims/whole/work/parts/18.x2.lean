def S_below : q_St → Int32 := fun (below, by_, tc, way, wr, thin, cin, hld, gst, taps, pst, bits, word, shift, psz, fac, lst, sum, ex, rnd, out, ssz, rby, wds, rhd) => below
def S_way : q_St → Int32 := fun (below, by_, tc, way, wr, thin, cin, hld, gst, taps, pst, bits, word, shift, psz, fac, lst, sum, ex, rnd, out, ssz, rby, wds, rhd) => way
def S_wr : q_St → Int32 := fun (below, by_, tc, way, wr, thin, cin, hld, gst, taps, pst, bits, word, shift, psz, fac, lst, sum, ex, rnd, out, ssz, rby, wds, rhd) => wr
def S_thin : q_St → Int32 := fun (below, by_, tc, way, wr, thin, cin, hld, gst, taps, pst, bits, word, shift, psz, fac, lst, sum, ex, rnd, out, ssz, rby, wds, rhd) => thin
def S_cin : q_St → Int64 := fun (below, by_, tc, way, wr, thin, cin, hld, gst, taps, pst, bits, word, shift, psz, fac, lst, sum, ex, rnd, out, ssz, rby, wds, rhd) => cin
def S_hld : q_St → Int64 := fun (below, by_, tc, way, wr, thin, cin, hld, gst, taps, pst, bits, word, shift, psz, fac, lst, sum, ex, rnd, out, ssz, rby, wds, rhd) => hld
def S_gst : q_St → Int64 := fun (below, by_, tc, way, wr, thin, cin, hld, gst, taps, pst, bits, word, shift, psz, fac, lst, sum, ex, rnd, out, ssz, rby, wds, rhd) => gst
def S_taps : q_St → Nat → Int32 := fun (below, by_, tc, way, wr, thin, cin, hld, gst, taps, pst, bits, word, shift, psz, fac, lst, sum, ex, rnd, out, ssz, rby, wds, rhd) => taps
def S_pst : q_St → Int32 := fun (below, by_, tc, way, wr, thin, cin, hld, gst, taps, pst, bits, word, shift, psz, fac, lst, sum, ex, rnd, out, ssz, rby, wds, rhd) => pst
def S_bits : q_St → Int32 := fun (below, by_, tc, way, wr, thin, cin, hld, gst, taps, pst, bits, word, shift, psz, fac, lst, sum, ex, rnd, out, ssz, rby, wds, rhd) => bits
def S_word : q_St → Int32 := fun (below, by_, tc, way, wr, thin, cin, hld, gst, taps, pst, bits, word, shift, psz, fac, lst, sum, ex, rnd, out, ssz, rby, wds, rhd) => word
def S_shift : q_St → Int32 := fun (below, by_, tc, way, wr, thin, cin, hld, gst, taps, pst, bits, word, shift, psz, fac, lst, sum, ex, rnd, out, ssz, rby, wds, rhd) => shift
def S_psz : q_St → Int64 := fun (below, by_, tc, way, wr, thin, cin, hld, gst, taps, pst, bits, word, shift, psz, fac, lst, sum, ex, rnd, out, ssz, rby, wds, rhd) => psz
def S_fac : q_St → Nat → Int32 := fun (below, by_, tc, way, wr, thin, cin, hld, gst, taps, pst, bits, word, shift, psz, fac, lst, sum, ex, rnd, out, ssz, rby, wds, rhd) => fac
def S_lst : q_St → Int32 := fun (below, by_, tc, way, wr, thin, cin, hld, gst, taps, pst, bits, word, shift, psz, fac, lst, sum, ex, rnd, out, ssz, rby, wds, rhd) => lst
def S_sum : q_St → Int64 := fun (below, by_, tc, way, wr, thin, cin, hld, gst, taps, pst, bits, word, shift, psz, fac, lst, sum, ex, rnd, out, ssz, rby, wds, rhd) => sum
def S_ex : q_St → Int64 := fun (below, by_, tc, way, wr, thin, cin, hld, gst, taps, pst, bits, word, shift, psz, fac, lst, sum, ex, rnd, out, ssz, rby, wds, rhd) => ex
def S_rnd : q_St → Int64 := fun (below, by_, tc, way, wr, thin, cin, hld, gst, taps, pst, bits, word, shift, psz, fac, lst, sum, ex, rnd, out, ssz, rby, wds, rhd) => rnd
def S_lout : q_St → Int32 := fun (below, by_, tc, way, wr, thin, cin, hld, gst, taps, pst, bits, word, shift, psz, fac, lst, sum, ex, rnd, out, ssz, rby, wds, rhd) => out
def S_ssz : q_St → Int64 := fun (below, by_, tc, way, wr, thin, cin, hld, gst, taps, pst, bits, word, shift, psz, fac, lst, sum, ex, rnd, out, ssz, rby, wds, rhd) => ssz
def S_rby : q_St → Int32 := fun (below, by_, tc, way, wr, thin, cin, hld, gst, taps, pst, bits, word, shift, psz, fac, lst, sum, ex, rnd, out, ssz, rby, wds, rhd) => rby
def S_wds : q_St → Nat → Int32 := fun (below, by_, tc, way, wr, thin, cin, hld, gst, taps, pst, bits, word, shift, psz, fac, lst, sum, ex, rnd, out, ssz, rby, wds, rhd) => wds
def S_rhd : q_St → Int32 := fun (below, by_, tc, way, wr, thin, cin, hld, gst, taps, pst, bits, word, shift, psz, fac, lst, sum, ex, rnd, out, ssz, rby, wds, rhd) => rhd
def S_setWay (w : Int32) : q_St → q_St := fun (below, by_, tc, way, wr, thin, cin, hld, gst, taps, pst, bits, word, shift, psz, fac, lst, sum, ex, rnd, out, ssz, rby, wds, rhd) => (below, by_, tc, w, wr, thin, cin, hld, gst, taps, pst, bits, word, shift, psz, fac, lst, sum, ex, rnd, out, ssz, rby, wds, rhd)
def S_setWr (w : Int32) : q_St → q_St := fun (below, by_, tc, way, wr, thin, cin, hld, gst, taps, pst, bits, word, shift, psz, fac, lst, sum, ex, rnd, out, ssz, rby, wds, rhd) => (below, by_, tc, way, w, thin, cin, hld, gst, taps, pst, bits, word, shift, psz, fac, lst, sum, ex, rnd, out, ssz, rby, wds, rhd)
theorem w_hasTap {f : q_Hp} {n p : Nat} {S : q_St} {k : Int32} : Sp yX4_hasTap uX4_hasTap [.ref p, .int k] n (q_blk f p (stE p S)) (some (.int (q_b (s_ok (S_tc S) k))), n, q_blk f p (stE p S)) := by
  obtain ⟨below, by_, tc, way, wr, thin, cin, hld, gst, taps, pst, bits, word, shift, psz, fac, lst, sum, ex, rnd, out, ssz, rby, wds, rhd⟩ := S
  exact c_X4_hasTap

theorem w_tapAt {f : q_Hp} {n p : Nat} {S : q_St} {k : Int32} : Sp yX4_tapAt uX4_tapAt [.ref p, .int k] n (q_blk f p (stE p S)) (some (.int (s_tap (S_tc S) (S_taps S) k)), n, q_blk f p (stE p S)) := by
  obtain ⟨below, by_, tc, way, wr, thin, cin, hld, gst, taps, pst, bits, word, shift, psz, fac, lst, sum, ex, rnd, out, ssz, rby, wds, rhd⟩ := S
  exact c_X4_tapAt

theorem xw_getX {f : q_Hp} {b cnt o : Nat} {S : Nat → q_St} {i : Nat} {es : List q_E} {X : q_St} {j : Nat} {e : q_E} (hi : i < cnt) (ho : o + es.length ≤ b) (hX : S i = X) (h : (stE (b + 7 * i) X)[j]? = some e) : q_blk (stg f b cnt S) o es (b + 7 * i + j) = some e := by
  subst hX
  exact xw_get hi ho h
theorem vu_self {α : Type} (S : Nat → α) (i : Nat) (X : α) : va_up S i X i = X := va_up_self ..
theorem S_ok_up {S : Nat → q_St} {i : Nat} {X : q_St} (h : S_ok X) : S_ok (va_up S i X i) := by rw [vu_self]; exact h
theorem x_dec (x : Int32) : x + Int32.ofInt (-1) = x - 1 := by rw [Int32.sub_eq_add_neg]; rfl
set_option maxHeartbeats 4000000 in
set_option maxRecDepth 100000 in
theorem c_tap_bad {f : q_Hp} {n o b cnt : Nat} {S : Nat → q_St} {ch : Nat → Int32} {cl : Nat} {sam : Nat → Int32} {len lost : Int32} {r1 r2 : q_Rw} {k t : Int32} (ho : o + 9 ≤ b) (hcnt : cnt ≤ 8) (hcl : cl ≤ 8) (hk : k < 0 ∨ nI cnt ≤ k) : Sp yX6_tap uX6_tap [.ref o, .int k, .int t] n (q_blk (stg f b cnt S) o (xE o cnt (xrf b cnt) ch cl sam len lost r1 r2)) (some (.int (-2)), n, (q_blk (stg f b cnt S) o (xE o cnt (xrf b cnt) ch cl sam len lost r1 r2))) := by
  refine Sp.ofF (by decide +kernel) rfl rfl (q_le rfl) ?_
  intro G d
  refine q_aload_n dX6_tap_0 rfl ?_
  refine q_iload_n dX6_tap_1 rfl ?_
  refine q_cW (c_find_no ho hcnt hcl hk) dX6_tap_2 kl_X6_55 rfl (q_blk_get (j := 0) rfl) rfl ⟨q_le rfl, q_le rfl⟩ (q_le rfl) (q_le rfl) (q_le rfl) ?_
  refine q_astore_nN dX6_tap_5 (q_le rfl) ?_
  refine q_aload_nN dX6_tap_6 rfl ?_
  refine q_ifnullN (tgt := 21) dX6_tap_7 (by decide) ?_
  refine q_bipush dX6_tap_21 (v := (-2)) (by decide) ?_
  exact q_iret dX6_tap_23 rfl (rfl) (q_le rfl) (q_le rfl)

set_option maxHeartbeats 4000000 in
set_option maxRecDepth 100000 in
theorem c_tap_rng {f : q_Hp} {n o b cnt : Nat} {S : Nat → q_St} {ch : Nat → Int32} {cl : Nat} {sam : Nat → Int32} {len lost : Int32} {r1 r2 : q_Rw} {i : Nat} {t : Int32} (ho : o + 9 ≤ b) (hcnt : cnt ≤ 8) (hcl : cl ≤ 8) (hi : i < cnt) (hx : x_in t (-1000000) 1000000 = false) : Sp yX6_tap uX6_tap [.ref o, .int (nI i), .int t] n (q_blk (stg f b cnt S) o (xE o cnt (xrf b cnt) ch cl sam len lost r1 r2)) (some (.int (-2)), n, (q_blk (stg f b cnt S) o (xE o cnt (xrf b cnt) ch cl sam len lost r1 r2))) := by
  refine Sp.ofF (by decide +kernel) rfl rfl (q_le rfl) ?_
  intro G d
  refine q_aload_n dX6_tap_0 rfl ?_
  refine q_iload_n dX6_tap_1 rfl ?_
  refine q_cW (c_find_ok ho hcnt hcl hi) dX6_tap_2 kl_X6_55 rfl (q_blk_get (j := 0) rfl) rfl ⟨q_le rfl, q_le rfl⟩ (q_le rfl) (q_le rfl) (q_le rfl) ?_
  refine q_astore_n dX6_tap_5 (q_le rfl) ?_
  refine q_aload_n dX6_tap_6 rfl ?_
  refine q_ifnull dX6_tap_7 ?_
  refine q_iload_n dX6_tap_10 rfl ?_
  refine q_ldc dX6_tap_11 cn_X6_59 ?_
  refine q_ldc dX6_tap_13 cn_X6_43 ?_
  refine q_cS (c_X6_within) dX6_tap_15 kl_X6_44 rfl ⟨q_le rfl, q_le rfl⟩ (q_le rfl) (q_le rfl) (q_le rfl) ?_
  refine q_ifne_b (tgt := 24) dX6_tap_18 (by decide) (fun h_n => absurd (h_n.symm.trans (hx)) (by decide)) (fun c_18 => ?_)
  refine q_bipush dX6_tap_21 (v := (-2)) (by decide) ?_
  exact q_iret dX6_tap_23 rfl (rfl) (q_le rfl) (q_le rfl)

set_option maxHeartbeats 4000000 in
set_option maxRecDepth 100000 in
theorem c_tap_full {f : q_Hp} {n o b cnt : Nat} {S : Nat → q_St} {ch : Nat → Int32} {cl : Nat} {sam : Nat → Int32} {len lost : Int32} {r1 r2 : q_Rw} {i : Nat} {t : Int32} (ho : o + 9 ≤ b) (hcnt : cnt ≤ 8) (hcl : cl ≤ 8) (hi : i < cnt) (hx : x_in t (-1000000) 1000000 = true) (hr : s_roomy (S_tc (S i)) = false) : Sp yX6_tap uX6_tap [.ref o, .int (nI i), .int t] n (q_blk (stg f b cnt S) o (xE o cnt (xrf b cnt) ch cl sam len lost r1 r2)) (some (.int (-4)), n, (q_blk (stg f b cnt (va_up S i (S_addTap t (S i)))) o (xE o cnt (xrf b cnt) ch cl sam len lost r1 r2))) := by
  refine Sp.ofF (by decide +kernel) rfl rfl (q_le rfl) ?_
  intro G d
  refine q_aload_n dX6_tap_0 rfl ?_
  refine q_iload_n dX6_tap_1 rfl ?_
  refine q_cW (c_find_ok ho hcnt hcl hi) dX6_tap_2 kl_X6_55 rfl (q_blk_get (j := 0) rfl) rfl ⟨q_le rfl, q_le rfl⟩ (q_le rfl) (q_le rfl) (q_le rfl) ?_
  refine q_astore_n dX6_tap_5 (q_le rfl) ?_
  refine q_aload_n dX6_tap_6 rfl ?_
  refine q_ifnull dX6_tap_7 ?_
  refine q_iload_n dX6_tap_10 rfl ?_
  refine q_ldc dX6_tap_11 cn_X6_59 ?_
  refine q_ldc dX6_tap_13 cn_X6_43 ?_
  refine q_cS (c_X6_within) dX6_tap_15 kl_X6_44 rfl ⟨q_le rfl, q_le rfl⟩ (q_le rfl) (q_le rfl) (q_le rfl) ?_
  refine q_ifne_b (tgt := 24) dX6_tap_18 (by decide) (fun c_18 => ?_) (fun h_n => absurd (h_n.symm.trans (hx)) (by decide))
  refine q_aload_n dX6_tap_24 rfl ?_
  refine q_iload_n dX6_tap_25 rfl ?_
  refine q_cSt (w_addTap) dX6_tap_26 kl_X6_60 rfl hi ho rfl ⟨q_le rfl, q_le rfl⟩ (q_le rfl) (q_le rfl) (q_le rfl) ?_
  refine q_ifne_b (tgt := 35) dX6_tap_29 (by decide) (fun h_n => absurd (h_n.symm.trans (hr)) (by decide)) (fun c_29 => ?_)
  refine q_bipush dX6_tap_32 (v := (-4)) (by decide) ?_
  exact q_iret dX6_tap_34 rfl (rfl) (q_le rfl) (q_le rfl)

set_option maxHeartbeats 4000000 in
set_option maxRecDepth 100000 in
theorem c_tap_ok {f : q_Hp} {n o b cnt : Nat} {S : Nat → q_St} {ch : Nat → Int32} {cl : Nat} {sam : Nat → Int32} {len lost : Int32} {r1 r2 : q_Rw} {i : Nat} {t : Int32} (ho : o + 9 ≤ b) (hcnt : cnt ≤ 8) (hcl : cl ≤ 8) (hi : i < cnt) (hx : x_in t (-1000000) 1000000 = true) (hr : s_roomy (S_tc (S i)) = true) : Sp yX6_tap uX6_tap [.ref o, .int (nI i), .int t] n (q_blk (stg f b cnt S) o (xE o cnt (xrf b cnt) ch cl sam len lost r1 r2)) (some (.int (S_tc (S_addTap t (S i)))), n, (q_blk (stg f b cnt (va_up S i (S_drop (S_addTap t (S i))))) o (xE o cnt (xrf b cnt) ((x_un ch cl (nI i)).1) ((x_un ch cl (nI i)).2) sam len lost r1 r2))) := by
  refine Sp.ofF (by decide +kernel) rfl rfl (q_le rfl) ?_
  intro G d
  refine q_aload_n dX6_tap_0 rfl ?_
  refine q_iload_n dX6_tap_1 rfl ?_
  refine q_cW (c_find_ok ho hcnt hcl hi) dX6_tap_2 kl_X6_55 rfl (q_blk_get (j := 0) rfl) rfl ⟨q_le rfl, q_le rfl⟩ (q_le rfl) (q_le rfl) (q_le rfl) ?_
  refine q_astore_n dX6_tap_5 (q_le rfl) ?_
  refine q_aload_n dX6_tap_6 rfl ?_
  refine q_ifnull dX6_tap_7 ?_
  refine q_iload_n dX6_tap_10 rfl ?_
  refine q_ldc dX6_tap_11 cn_X6_59 ?_
  refine q_ldc dX6_tap_13 cn_X6_43 ?_
  refine q_cS (c_X6_within) dX6_tap_15 kl_X6_44 rfl ⟨q_le rfl, q_le rfl⟩ (q_le rfl) (q_le rfl) (q_le rfl) ?_
  refine q_ifne_b (tgt := 24) dX6_tap_18 (by decide) (fun c_18 => ?_) (fun h_n => absurd (h_n.symm.trans (hx)) (by decide))
  refine q_aload_n dX6_tap_24 rfl ?_
  refine q_iload_n dX6_tap_25 rfl ?_
  refine q_cSt (w_addTap) dX6_tap_26 kl_X6_60 rfl hi ho rfl ⟨q_le rfl, q_le rfl⟩ (q_le rfl) (q_le rfl) (q_le rfl) ?_
  refine q_ifne_b (tgt := 35) dX6_tap_29 (by decide) (fun c_29 => ?_) (fun h_n => absurd (h_n.symm.trans (hr)) (by decide))
  refine q_aload_n dX6_tap_35 rfl ?_
  refine q_iload_n dX6_tap_36 rfl ?_
  refine q_aload_n dX6_tap_37 rfl ?_
  refine q_cW (c_X6_unplan ho hcnt hcl hi) dX6_tap_38 kl_X6_63 rfl (q_blk_get (j := 0) rfl) rfl ⟨q_le rfl, q_le rfl⟩ (q_le rfl) (q_le rfl) (q_le rfl) ?_
  refine q_aload_n dX6_tap_41 rfl ?_
  refine q_getf dX6_tap_42 fl_X6_67 (xw_getX (X := S_drop (S_addTap t (S i))) hi ho (by simp only [vu_self]) (j := 0) rfl) rfl ?_
  exact q_iret dX6_tap_45 rfl (by simp only [vu_self, bx_uu] <;> rfl) (q_le rfl) (q_le rfl)

set_option maxHeartbeats 4000000 in
set_option maxRecDepth 100000 in
theorem c_change_bad {f : q_Hp} {n o b cnt : Nat} {S : Nat → q_St} {ch : Nat → Int32} {cl : Nat} {sam : Nat → Int32} {len lost : Int32} {r1 r2 : q_Rw} {k k2 t : Int32} (ho : o + 9 ≤ b) (hcnt : cnt ≤ 8) (hcl : cl ≤ 8) (hk : k < 0 ∨ nI cnt ≤ k) : Sp yX6_change uX6_change [.ref o, .int k, .int k2, .int t] n (q_blk (stg f b cnt S) o (xE o cnt (xrf b cnt) ch cl sam len lost r1 r2)) (some (.int 2000000000), n, (q_blk (stg f b cnt S) o (xE o cnt (xrf b cnt) ch cl sam len lost r1 r2))) := by
  refine Sp.ofF (by decide +kernel) rfl rfl (q_le rfl) ?_
  intro G d
  refine q_aload_n dX6_change_0 rfl ?_
  refine q_iload_n dX6_change_1 rfl ?_
  refine q_cW (c_find_no ho hcnt hcl hk) dX6_change_2 kl_X6_55 rfl (q_blk_get (j := 0) rfl) rfl ⟨q_le rfl, q_le rfl⟩ (q_le rfl) (q_le rfl) (q_le rfl) ?_
  refine q_astoreN dX6_change_5 (q_le rfl) ?_
  refine q_aloadN dX6_change_7 rfl ?_
  refine q_ifnullN (tgt := 32) dX6_change_9 (by decide) ?_
  refine q_ldc dX6_change_32 cn_X6_73 ?_
  exact q_iret dX6_change_34 rfl (rfl) (q_le rfl) (q_le rfl)

set_option maxHeartbeats 4000000 in
set_option maxRecDepth 100000 in
theorem c_change_no {f : q_Hp} {n o b cnt : Nat} {S : Nat → q_St} {ch : Nat → Int32} {cl : Nat} {sam : Nat → Int32} {len lost : Int32} {r1 r2 : q_Rw} {i : Nat} {k t : Int32} (ho : o + 9 ≤ b) (hcnt : cnt ≤ 8) (hcl : cl ≤ 8) (hi : i < cnt) (hx : s_ok (S_tc (S i)) k = false) : Sp yX6_change uX6_change [.ref o, .int (nI i), .int k, .int t] n (q_blk (stg f b cnt S) o (xE o cnt (xrf b cnt) ch cl sam len lost r1 r2)) (some (.int 2000000000), n, (q_blk (stg f b cnt S) o (xE o cnt (xrf b cnt) ch cl sam len lost r1 r2))) := by
  refine Sp.ofF (by decide +kernel) rfl rfl (q_le rfl) ?_
  intro G d
  refine q_aload_n dX6_change_0 rfl ?_
  refine q_iload_n dX6_change_1 rfl ?_
  refine q_cW (c_find_ok ho hcnt hcl hi) dX6_change_2 kl_X6_55 rfl (q_blk_get (j := 0) rfl) rfl ⟨q_le rfl, q_le rfl⟩ (q_le rfl) (q_le rfl) (q_le rfl) ?_
  refine q_astore dX6_change_5 (q_le rfl) ?_
  refine q_aload dX6_change_7 rfl ?_
  refine q_ifnull dX6_change_9 ?_
  refine q_aload dX6_change_12 rfl ?_
  refine q_iload_n dX6_change_14 rfl ?_
  refine q_cStr (w_hasTap) dX6_change_15 kl_X6_70 rfl hi ho rfl ⟨q_le rfl, q_le rfl⟩ (q_le rfl) (q_le rfl) (q_le rfl) ?_
  refine q_ifeq_b (tgt := 32) dX6_change_18 (by decide) (fun c_18 => ?_) (fun h_n => absurd (h_n.symm.trans (hx)) (by decide))
  refine q_ldc dX6_change_32 cn_X6_73 ?_
  exact q_iret dX6_change_34 rfl (rfl) (q_le rfl) (q_le rfl)

set_option maxHeartbeats 4000000 in
set_option maxRecDepth 100000 in
theorem c_change_rng {f : q_Hp} {n o b cnt : Nat} {S : Nat → q_St} {ch : Nat → Int32} {cl : Nat} {sam : Nat → Int32} {len lost : Int32} {r1 r2 : q_Rw} {i : Nat} {k t : Int32} (ho : o + 9 ≤ b) (hcnt : cnt ≤ 8) (hcl : cl ≤ 8) (hi : i < cnt) (hx : s_ok (S_tc (S i)) k = true) (hr : x_in t (-1000000) 1000000 = false) : Sp yX6_change uX6_change [.ref o, .int (nI i), .int k, .int t] n (q_blk (stg f b cnt S) o (xE o cnt (xrf b cnt) ch cl sam len lost r1 r2)) (some (.int 2000000000), n, (q_blk (stg f b cnt S) o (xE o cnt (xrf b cnt) ch cl sam len lost r1 r2))) := by
  refine Sp.ofF (by decide +kernel) rfl rfl (q_le rfl) ?_
  intro G d
  refine q_aload_n dX6_change_0 rfl ?_
  refine q_iload_n dX6_change_1 rfl ?_
  refine q_cW (c_find_ok ho hcnt hcl hi) dX6_change_2 kl_X6_55 rfl (q_blk_get (j := 0) rfl) rfl ⟨q_le rfl, q_le rfl⟩ (q_le rfl) (q_le rfl) (q_le rfl) ?_
  refine q_astore dX6_change_5 (q_le rfl) ?_
  refine q_aload dX6_change_7 rfl ?_
  refine q_ifnull dX6_change_9 ?_
  refine q_aload dX6_change_12 rfl ?_
  refine q_iload_n dX6_change_14 rfl ?_
  refine q_cStr (w_hasTap) dX6_change_15 kl_X6_70 rfl hi ho rfl ⟨q_le rfl, q_le rfl⟩ (q_le rfl) (q_le rfl) (q_le rfl) ?_
  refine q_ifeq_b (tgt := 32) dX6_change_18 (by decide) (fun h_n => absurd (h_n.symm.trans (hx)) (by decide)) (fun c_18 => ?_)
  refine q_iload_n dX6_change_21 rfl ?_
  refine q_ldc dX6_change_22 cn_X6_59 ?_
  refine q_ldc dX6_change_24 cn_X6_43 ?_
  refine q_cS (c_X6_within) dX6_change_26 kl_X6_44 rfl ⟨q_le rfl, q_le rfl⟩ (q_le rfl) (q_le rfl) (q_le rfl) ?_
  refine q_ifne_b (tgt := 35) dX6_change_29 (by decide) (fun h_n => absurd (h_n.symm.trans (hr)) (by decide)) (fun c_29 => ?_)
  refine q_ldc dX6_change_32 cn_X6_73 ?_
  exact q_iret dX6_change_34 rfl (rfl) (q_le rfl) (q_le rfl)

set_option maxHeartbeats 4000000 in
set_option maxRecDepth 100000 in
theorem c_change_ok {f : q_Hp} {n o b cnt : Nat} {S : Nat → q_St} {ch : Nat → Int32} {cl : Nat} {sam : Nat → Int32} {len lost : Int32} {r1 r2 : q_Rw} {i : Nat} {k t : Int32} (ho : o + 9 ≤ b) (hcnt : cnt ≤ 8) (hcl : cl ≤ 8) (hi : i < cnt) (hx : s_ok (S_tc (S i)) k = true) (hr : x_in t (-1000000) 1000000 = true) : Sp yX6_change uX6_change [.ref o, .int (nI i), .int k, .int t] n (q_blk (stg f b cnt S) o (xE o cnt (xrf b cnt) ch cl sam len lost r1 r2)) (some (.int (s_tap (S_tc (S i)) (S_taps (S i)) k)), n, (q_blk (stg f b cnt (va_up S i (S_drop (S_setTap k t (S i))))) o (xE o cnt (xrf b cnt) ((x_un ch cl (nI i)).1) ((x_un ch cl (nI i)).2) sam len lost r1 r2))) := by
  refine Sp.ofF (by decide +kernel) rfl rfl (q_le rfl) ?_
  intro G d
  refine q_aload_n dX6_change_0 rfl ?_
  refine q_iload_n dX6_change_1 rfl ?_
  refine q_cW (c_find_ok ho hcnt hcl hi) dX6_change_2 kl_X6_55 rfl (q_blk_get (j := 0) rfl) rfl ⟨q_le rfl, q_le rfl⟩ (q_le rfl) (q_le rfl) (q_le rfl) ?_
  refine q_astore dX6_change_5 (q_le rfl) ?_
  refine q_aload dX6_change_7 rfl ?_
  refine q_ifnull dX6_change_9 ?_
  refine q_aload dX6_change_12 rfl ?_
  refine q_iload_n dX6_change_14 rfl ?_
  refine q_cStr (w_hasTap) dX6_change_15 kl_X6_70 rfl hi ho rfl ⟨q_le rfl, q_le rfl⟩ (q_le rfl) (q_le rfl) (q_le rfl) ?_
  refine q_ifeq_b (tgt := 32) dX6_change_18 (by decide) (fun h_n => absurd (h_n.symm.trans (hx)) (by decide)) (fun c_18 => ?_)
  refine q_iload_n dX6_change_21 rfl ?_
  refine q_ldc dX6_change_22 cn_X6_59 ?_
  refine q_ldc dX6_change_24 cn_X6_43 ?_
  refine q_cS (c_X6_within) dX6_change_26 kl_X6_44 rfl ⟨q_le rfl, q_le rfl⟩ (q_le rfl) (q_le rfl) (q_le rfl) ?_
  refine q_ifne_b (tgt := 35) dX6_change_29 (by decide) (fun c_29 => ?_) (fun h_n => absurd (h_n.symm.trans (hr)) (by decide))
  refine q_aload dX6_change_35 rfl ?_
  refine q_iload_n dX6_change_37 rfl ?_
  refine q_cStr (w_tapAt) dX6_change_38 kl_X6_74 rfl hi ho rfl ⟨q_le rfl, q_le rfl⟩ (q_le rfl) (q_le rfl) (q_le rfl) ?_
  refine q_istore dX6_change_41 (q_le rfl) ?_
  refine q_aload dX6_change_43 rfl ?_
  refine q_iload_n dX6_change_45 rfl ?_
  refine q_iload_n dX6_change_46 rfl ?_
  refine q_cSt (w_setTap) dX6_change_47 kl_X6_78 rfl hi ho rfl ⟨q_le rfl, q_le rfl⟩ (q_le rfl) (q_le rfl) (q_le rfl) ?_
  refine q_aload_n dX6_change_50 rfl ?_
  refine q_iload_n dX6_change_51 rfl ?_
  refine q_aload dX6_change_52 rfl ?_
  refine q_cW (c_X6_unplan ho hcnt hcl hi) dX6_change_54 kl_X6_63 rfl (q_blk_get (j := 0) rfl) rfl ⟨q_le rfl, q_le rfl⟩ (q_le rfl) (q_le rfl) (q_le rfl) ?_
  refine q_iload dX6_change_57 rfl ?_
  exact q_iret dX6_change_59 rfl (by simp only [vu_self, bx_uu] <;> rfl) (q_le rfl) (q_le rfl)

set_option maxHeartbeats 4000000 in
set_option maxRecDepth 100000 in
theorem c_way_bad {f : q_Hp} {n o b cnt : Nat} {S : Nat → q_St} {ch : Nat → Int32} {cl : Nat} {sam : Nat → Int32} {len lost : Int32} {r1 r2 : q_Rw} {k v w : Int32} (ho : o + 9 ≤ b) (hcnt : cnt ≤ 8) (hcl : cl ≤ 8) (hk : k < 0 ∨ nI cnt ≤ k) : Sp yX6_way uX6_way [.ref o, .int k, .int v, .int w] n (q_blk (stg f b cnt S) o (xE o cnt (xrf b cnt) ch cl sam len lost r1 r2)) (some (.int (-2)), n, (q_blk (stg f b cnt S) o (xE o cnt (xrf b cnt) ch cl sam len lost r1 r2))) := by
  refine Sp.ofF (by decide +kernel) rfl rfl (q_le rfl) ?_
  intro G d
  refine q_aload_n dX6_way_0 rfl ?_
  refine q_iload_n dX6_way_1 rfl ?_
  refine q_cW (c_find_no ho hcnt hcl hk) dX6_way_2 kl_X6_55 rfl (q_blk_get (j := 0) rfl) rfl ⟨q_le rfl, q_le rfl⟩ (q_le rfl) (q_le rfl) (q_le rfl) ?_
  refine q_astoreN dX6_way_5 (q_le rfl) ?_
  refine q_aloadN dX6_way_7 rfl ?_
  refine q_ifnullN (tgt := 21) dX6_way_9 (by decide) ?_
  refine q_bipush dX6_way_21 (v := (-2)) (by decide) ?_
  exact q_iret dX6_way_23 rfl (rfl) (q_le rfl) (q_le rfl)

set_option maxHeartbeats 4000000 in
set_option maxRecDepth 100000 in
theorem c_way_rng {f : q_Hp} {n o b cnt : Nat} {S : Nat → q_St} {ch : Nat → Int32} {cl : Nat} {sam : Nat → Int32} {len lost : Int32} {r1 r2 : q_Rw} {i : Nat} {v w : Int32} (ho : o + 9 ≤ b) (hcnt : cnt ≤ 8) (hcl : cl ≤ 8) (hi : i < cnt) (hx : x_in v 0 3 = false) : Sp yX6_way uX6_way [.ref o, .int (nI i), .int v, .int w] n (q_blk (stg f b cnt S) o (xE o cnt (xrf b cnt) ch cl sam len lost r1 r2)) (some (.int (-2)), n, (q_blk (stg f b cnt S) o (xE o cnt (xrf b cnt) ch cl sam len lost r1 r2))) := by
  refine Sp.ofF (by decide +kernel) rfl rfl (q_le rfl) ?_
  intro G d
  refine q_aload_n dX6_way_0 rfl ?_
  refine q_iload_n dX6_way_1 rfl ?_
  refine q_cW (c_find_ok ho hcnt hcl hi) dX6_way_2 kl_X6_55 rfl (q_blk_get (j := 0) rfl) rfl ⟨q_le rfl, q_le rfl⟩ (q_le rfl) (q_le rfl) (q_le rfl) ?_
  refine q_astore dX6_way_5 (q_le rfl) ?_
  refine q_aload dX6_way_7 rfl ?_
  refine q_ifnull dX6_way_9 ?_
  refine q_iload_n dX6_way_12 rfl ?_
  refine q_iconst dX6_way_13 (v := 0) (by decide) ?_
  refine q_iconst dX6_way_14 (v := 3) (by decide) ?_
  refine q_cS (c_X6_within) dX6_way_15 kl_X6_44 rfl ⟨q_le rfl, q_le rfl⟩ (q_le rfl) (q_le rfl) (q_le rfl) ?_
  refine q_ifne_b (tgt := 24) dX6_way_18 (by decide) (fun h_n => absurd (h_n.symm.trans (hx)) (by decide)) (fun c_18 => ?_)
  refine q_bipush dX6_way_21 (v := (-2)) (by decide) ?_
  exact q_iret dX6_way_23 rfl (rfl) (q_le rfl) (q_le rfl)

set_option maxHeartbeats 4000000 in
set_option maxRecDepth 100000 in
theorem c_way_ok {f : q_Hp} {n o b cnt : Nat} {S : Nat → q_St} {ch : Nat → Int32} {cl : Nat} {sam : Nat → Int32} {len lost : Int32} {r1 r2 : q_Rw} {i : Nat} {v w : Int32} (ho : o + 9 ≤ b) (hcnt : cnt ≤ 8) (hcl : cl ≤ 8) (hi : i < cnt) (hx : x_in v 0 3 = true) (hw : w = 0 ∨ w = 1) : Sp yX6_way uX6_way [.ref o, .int (nI i), .int v, .int w] n (q_blk (stg f b cnt S) o (xE o cnt (xrf b cnt) ch cl sam len lost r1 r2)) (some (.int (S_way (S i))), n, (q_blk (stg f b cnt (va_up S i (S_setWr w (S_setWay v (S i))))) o (xE o cnt (xrf b cnt) ch cl sam len lost r1 r2))) := by
  refine Sp.ofF (by decide +kernel) rfl rfl (q_le rfl) ?_
  intro G d
  refine q_aload_n dX6_way_0 rfl ?_
  refine q_iload_n dX6_way_1 rfl ?_
  refine q_cW (c_find_ok ho hcnt hcl hi) dX6_way_2 kl_X6_55 rfl (q_blk_get (j := 0) rfl) rfl ⟨q_le rfl, q_le rfl⟩ (q_le rfl) (q_le rfl) (q_le rfl) ?_
  refine q_astore dX6_way_5 (q_le rfl) ?_
  refine q_aload dX6_way_7 rfl ?_
  refine q_ifnull dX6_way_9 ?_
  refine q_iload_n dX6_way_12 rfl ?_
  refine q_iconst dX6_way_13 (v := 0) (by decide) ?_
  refine q_iconst dX6_way_14 (v := 3) (by decide) ?_
  refine q_cS (c_X6_within) dX6_way_15 kl_X6_44 rfl ⟨q_le rfl, q_le rfl⟩ (q_le rfl) (q_le rfl) (q_le rfl) ?_
  refine q_ifne_b (tgt := 24) dX6_way_18 (by decide) (fun c_18 => ?_) (fun h_n => absurd (h_n.symm.trans (hx)) (by decide))
  refine q_aload dX6_way_24 rfl ?_
  refine q_getf dX6_way_26 fl_X6_81 (xw_get hi ho (j := 0) rfl) rfl ?_
  refine q_istore dX6_way_29 (q_le rfl) ?_
  refine q_aload dX6_way_31 rfl ?_
  refine q_iload_n dX6_way_33 rfl ?_
  refine q_putf dX6_way_34 pl_X6_81 (xw_get hi ho (j := 0) rfl) (q_le rfl) rfl rfl ?_
  refine q_heap (xw_up (j := 0) (X := S_setWay v (S i)) hi ho (by decide) rfl) ?_
  refine q_aload dX6_way_37 rfl ?_
  refine q_iload_n dX6_way_39 rfl ?_
  refine q_putf dX6_way_40 pl_X6_84 (xw_get hi ho (j := 0) rfl) (q_le rfl) (by rcases hw with rfl | rfl <;> rfl) (by rcases hw with rfl | rfl <;> rfl) ?_
  refine q_heap (xw_up (j := 0) (X := S_setWr w (va_up S i (S_setWay v (S i)) i)) hi ho (by decide) rfl) ?_
  refine q_iload dX6_way_43 rfl ?_
  exact q_iret dX6_way_45 rfl (by simp only [vu_self, bx_uu] <;> rfl) (q_le rfl) (q_le rfl)

def x_sf (X : q_St) (bb ww : Int32) : Nat → Option Nat
  | 0 => none
  | j + 1 => if S_safe bb ww (nI j) X = true then some j else x_sf X bb ww j
set_option maxHeartbeats 4000000 in
set_option maxRecDepth 100000 in
theorem c_plan_bad {f : q_Hp} {n o b cnt : Nat} {S : Nat → q_St} {ch : Nat → Int32} {cl : Nat} {sam : Nat → Int32} {len lost : Int32} {r1 r2 : q_Rw} {k bb ww : Int32} (ho : o + 9 ≤ b) (hcnt : cnt ≤ 8) (hcl : cl ≤ 8) (hk : k < 0 ∨ nI cnt ≤ k) : Sp yX6_plan uX6_plan [.ref o, .int k, .int bb, .int ww] n (q_blk (stg f b cnt S) o (xE o cnt (xrf b cnt) ch cl sam len lost r1 r2)) (some (.int (-2)), n, (q_blk (stg f b cnt S) o (xE o cnt (xrf b cnt) ch cl sam len lost r1 r2))) := by
  refine Sp.ofF (by decide +kernel) rfl rfl (q_le rfl) ?_
  intro G d
  refine q_aload_n dX6_plan_0 rfl ?_
  refine q_iload_n dX6_plan_1 rfl ?_
  refine q_cW (c_find_no ho hcnt hcl hk) dX6_plan_2 kl_X6_55 rfl (q_blk_get (j := 0) rfl) rfl ⟨q_le rfl, q_le rfl⟩ (q_le rfl) (q_le rfl) (q_le rfl) ?_
  refine q_astoreN dX6_plan_5 (q_le rfl) ?_
  refine q_aloadN dX6_plan_7 rfl ?_
  refine q_ifnullN (tgt := 20) dX6_plan_9 (by decide) ?_
  refine q_bipush dX6_plan_20 (v := (-2)) (by decide) ?_
  exact q_iret dX6_plan_22 rfl (rfl) (q_le rfl) (q_le rfl)

set_option maxHeartbeats 4000000 in
set_option maxRecDepth 100000 in
theorem c_plan_rng {f : q_Hp} {n o b cnt : Nat} {S : Nat → q_St} {ch : Nat → Int32} {cl : Nat} {sam : Nat → Int32} {len lost : Int32} {r1 r2 : q_Rw} {i : Nat} {bb ww : Int32} (ho : o + 9 ≤ b) (hcnt : cnt ≤ 8) (hcl : cl ≤ 8) (hi : i < cnt) (hx : x_isPlan bb ww = false) : Sp yX6_plan uX6_plan [.ref o, .int (nI i), .int bb, .int ww] n (q_blk (stg f b cnt S) o (xE o cnt (xrf b cnt) ch cl sam len lost r1 r2)) (some (.int (-2)), n, (q_blk (stg f b cnt S) o (xE o cnt (xrf b cnt) ch cl sam len lost r1 r2))) := by
  refine Sp.ofF (by decide +kernel) rfl rfl (q_le rfl) ?_
  intro G d
  refine q_aload_n dX6_plan_0 rfl ?_
  refine q_iload_n dX6_plan_1 rfl ?_
  refine q_cW (c_find_ok ho hcnt hcl hi) dX6_plan_2 kl_X6_55 rfl (q_blk_get (j := 0) rfl) rfl ⟨q_le rfl, q_le rfl⟩ (q_le rfl) (q_le rfl) (q_le rfl) ?_
  refine q_astore dX6_plan_5 (q_le rfl) ?_
  refine q_aload dX6_plan_7 rfl ?_
  refine q_ifnull dX6_plan_9 ?_
  refine q_iload_n dX6_plan_12 rfl ?_
  refine q_iload_n dX6_plan_13 rfl ?_
  refine q_cS (c_X6_isPlan) dX6_plan_14 kl_X6_88 rfl ⟨q_le rfl, q_le rfl⟩ (q_le rfl) (q_le rfl) (q_le rfl) ?_
  refine q_ifne_b (tgt := 23) dX6_plan_17 (by decide) (fun h_n => absurd (h_n.symm.trans (hx)) (by decide)) (fun c_17 => ?_)
  refine q_bipush dX6_plan_20 (v := (-2)) (by decide) ?_
  exact q_iret dX6_plan_22 rfl (rfl) (q_le rfl) (q_le rfl)

set_option maxHeartbeats 4000000 in
set_option maxRecDepth 100000 in
theorem lp_X6_plan {G : q_G} {d : q_D} {f : q_Hp} {n o b cnt : Nat} {S : Nat → q_St} {ch : Nat → Int32} {cl : Nat} {sam : Nat → Int32} {len lost : Int32} {r1 r2 : q_Rw} {i : Nat} {bb ww : Int32} (ho : o + 9 ≤ b) (hcnt : cnt ≤ 8) (hcl : cl ≤ 8) (hi : i < cnt) (hok : S_ok (S i)) : ∀ (k : Nat), k ≤ 25 → J G d uX6_plan (some (.int ((x_sf (S i) bb ww k).elim (-3) nI)), n, q_blk (stg f b cnt ((x_sf (S i) bb ww k).elim S (fun j => va_up S i (S_setPlan bb ww (nI j) (S i))))) o (xE o cnt (xrf b cnt) ch cl sam len lost r1 r2)) 0 0 n 27 (q_l [(2, .int bb), (3, .int ww), (4, .ref (b + 7 * i)), (5, .int (nI k - 1))]) [] (q_blk (stg f b cnt S) o (xE o cnt (xrf b cnt) ch cl sam len lost r1 r2)) := by
  intro k
  induction k with
  | zero =>
    intro hk
    refine q_iload dX6_plan_27 rfl ?_
    refine q_if_lt (tgt := 62) dX6_plan_29 (by decide) (fun c_29 => ?_) (fun h_n => absurd ((by decide)) h_n)
    refine q_bipush dX6_plan_62 (v := (-3)) (by decide) ?_
    exact q_iret dX6_plan_64 rfl (rfl) (q_le rfl) (q_le rfl)
  | succ k ih =>
    intro hk
    rw [show nI (k + 1) - 1 = nI k from nI_pred k]
    refine q_iload dX6_plan_27 rfl ?_
    refine q_if_lt (tgt := 62) dX6_plan_29 (by decide) (fun h_n => absurd h_n ((nI_pos (by omega)))) (fun c_29 => ?_)
    refine q_aload dX6_plan_32 rfl ?_
    refine q_iload_n dX6_plan_34 rfl ?_
    refine q_iload_n dX6_plan_35 rfl ?_
    refine q_iload dX6_plan_36 rfl ?_
    refine q_cStr (w_isSafe hok) dX6_plan_38 kl_X6_92 rfl hi ho rfl ⟨q_le rfl, q_le rfl⟩ (q_le rfl) (q_le rfl) (q_le rfl) ?_
    refine q_ifeq_b (tgt := 56) dX6_plan_41 (by decide) (fun c_41 => ?_) (fun c_41 => ?_)
    · refine q_iinc dX6_plan_56 rfl (v := nI k - 1) (x_dec _) ?_
      refine q_goto (tgt := 27) dX6_plan_59 (by decide) ?_
      exact q_zz (z' := (some (.int ((x_sf (S i) bb ww k).elim (-3) nI)), n, q_blk (stg f b cnt ((x_sf (S i) bb ww k).elim S (fun j => va_up S i (S_setPlan bb ww (nI j) (S i))))) o (xE o cnt (xrf b cnt) ch cl sam len lost r1 r2))) (by simp [x_sf, c_41]) (q_lo [(2, .int bb), (3, .int ww), (4, .ref (b + 7 * i)), (5, .int (nI k - 1))] ⟨rfl, rfl, rfl, rfl, trivial⟩ (ih (by omega)))
    · refine q_aload dX6_plan_44 rfl ?_
      refine q_iload_n dX6_plan_46 rfl ?_
      refine q_iload_n dX6_plan_47 rfl ?_
      refine q_iload dX6_plan_48 rfl ?_
      refine q_cSt (w_setPlan hok) dX6_plan_50 kl_X6_95 rfl hi ho rfl ⟨q_le rfl, q_le rfl⟩ (q_le rfl) (q_le rfl) (q_le rfl) ?_
      refine q_iload dX6_plan_53 rfl ?_
      exact q_iret dX6_plan_55 rfl (by simp only [x_sf, c_41, if_true]; rfl) (q_le rfl) (q_le rfl)

set_option maxHeartbeats 4000000 in
set_option maxRecDepth 100000 in
theorem c_plan_ok {f : q_Hp} {n o b cnt : Nat} {S : Nat → q_St} {ch : Nat → Int32} {cl : Nat} {sam : Nat → Int32} {len lost : Int32} {r1 r2 : q_Rw} {i : Nat} {bb ww : Int32} (ho : o + 9 ≤ b) (hcnt : cnt ≤ 8) (hcl : cl ≤ 8) (hi : i < cnt) (hok : S_ok (S i)) (hx : x_isPlan bb ww = true) : Sp yX6_plan uX6_plan [.ref o, .int (nI i), .int bb, .int ww] n (q_blk (stg f b cnt S) o (xE o cnt (xrf b cnt) ch cl sam len lost r1 r2)) (some (.int ((x_sf (S i) bb ww 25).elim (-3) nI)), n, (q_blk (stg f b cnt ((x_sf (S i) bb ww 25).elim S (fun j => va_up S i (S_setPlan bb ww (nI j) (S i))))) o (xE o cnt (xrf b cnt) ch cl sam len lost r1 r2))) := by
  refine Sp.ofF (by decide +kernel) rfl rfl (q_le rfl) ?_
  intro G d
  refine q_aload_n dX6_plan_0 rfl ?_
  refine q_iload_n dX6_plan_1 rfl ?_
  refine q_cW (c_find_ok ho hcnt hcl hi) dX6_plan_2 kl_X6_55 rfl (q_blk_get (j := 0) rfl) rfl ⟨q_le rfl, q_le rfl⟩ (q_le rfl) (q_le rfl) (q_le rfl) ?_
  refine q_astore dX6_plan_5 (q_le rfl) ?_
  refine q_aload dX6_plan_7 rfl ?_
  refine q_ifnull dX6_plan_9 ?_
  refine q_iload_n dX6_plan_12 rfl ?_
  refine q_iload_n dX6_plan_13 rfl ?_
  refine q_cS (c_X6_isPlan) dX6_plan_14 kl_X6_88 rfl ⟨q_le rfl, q_le rfl⟩ (q_le rfl) (q_le rfl) (q_le rfl) ?_
  refine q_ifne_b (tgt := 23) dX6_plan_17 (by decide) (fun c_17 => ?_) (fun h_n => absurd (h_n.symm.trans (hx)) (by decide))
  refine q_bipush dX6_plan_23 (v := 24) (by decide) ?_
  refine q_istore dX6_plan_25 (q_le rfl) ?_
  exact q_lo [(2, .int bb), (3, .int ww), (4, .ref (b + 7 * i)), (5, .int (nI 25 - 1))] ⟨rfl, rfl, rfl, rfl, trivial⟩ (lp_X6_plan ho hcnt hcl hi hok 25 (by omega))

set_option maxHeartbeats 4000000 in
set_option maxRecDepth 100000 in
theorem c_planAt_bad {f : q_Hp} {n o b cnt : Nat} {S : Nat → q_St} {ch : Nat → Int32} {cl : Nat} {sam : Nat → Int32} {len lost : Int32} {r1 r2 : q_Rw} {k bb ww ss : Int32} (ho : o + 9 ≤ b) (hcnt : cnt ≤ 8) (hcl : cl ≤ 8) (hk : k < 0 ∨ nI cnt ≤ k) : Sp yX6_planAt uX6_planAt [.ref o, .int k, .int bb, .int ww, .int ss] n (q_blk (stg f b cnt S) o (xE o cnt (xrf b cnt) ch cl sam len lost r1 r2)) (some (.int (-2)), n, (q_blk (stg f b cnt S) o (xE o cnt (xrf b cnt) ch cl sam len lost r1 r2))) := by
  refine Sp.ofF (by decide +kernel) rfl rfl (q_le rfl) ?_
  intro G d
  refine q_aload_n dX6_planAt_0 rfl ?_
  refine q_iload_n dX6_planAt_1 rfl ?_
  refine q_cW (c_find_no ho hcnt hcl hk) dX6_planAt_2 kl_X6_55 rfl (q_blk_get (j := 0) rfl) rfl ⟨q_le rfl, q_le rfl⟩ (q_le rfl) (q_le rfl) (q_le rfl) ?_
  refine q_astoreN dX6_planAt_5 (q_le rfl) ?_
  refine q_aloadN dX6_planAt_7 rfl ?_
  refine q_ifnullN (tgt := 31) dX6_planAt_9 (by decide) ?_
  refine q_bipush dX6_planAt_31 (v := (-2)) (by decide) ?_
  exact q_iret dX6_planAt_33 rfl (rfl) (q_le rfl) (q_le rfl)

set_option maxHeartbeats 4000000 in
set_option maxRecDepth 100000 in
theorem c_planAt_rng {f : q_Hp} {n o b cnt : Nat} {S : Nat → q_St} {ch : Nat → Int32} {cl : Nat} {sam : Nat → Int32} {len lost : Int32} {r1 r2 : q_Rw} {i : Nat} {bb ww ss : Int32} (ho : o + 9 ≤ b) (hcnt : cnt ≤ 8) (hcl : cl ≤ 8) (hi : i < cnt) (hx : x_isPlan bb ww = false) : Sp yX6_planAt uX6_planAt [.ref o, .int (nI i), .int bb, .int ww, .int ss] n (q_blk (stg f b cnt S) o (xE o cnt (xrf b cnt) ch cl sam len lost r1 r2)) (some (.int (-2)), n, (q_blk (stg f b cnt S) o (xE o cnt (xrf b cnt) ch cl sam len lost r1 r2))) := by
  refine Sp.ofF (by decide +kernel) rfl rfl (q_le rfl) ?_
  intro G d
  refine q_aload_n dX6_planAt_0 rfl ?_
  refine q_iload_n dX6_planAt_1 rfl ?_
  refine q_cW (c_find_ok ho hcnt hcl hi) dX6_planAt_2 kl_X6_55 rfl (q_blk_get (j := 0) rfl) rfl ⟨q_le rfl, q_le rfl⟩ (q_le rfl) (q_le rfl) (q_le rfl) ?_
  refine q_astore dX6_planAt_5 (q_le rfl) ?_
  refine q_aload dX6_planAt_7 rfl ?_
  refine q_ifnull dX6_planAt_9 ?_
  refine q_iload_n dX6_planAt_12 rfl ?_
  refine q_iload_n dX6_planAt_13 rfl ?_
  refine q_cS (c_X6_isPlan) dX6_planAt_14 kl_X6_88 rfl ⟨q_le rfl, q_le rfl⟩ (q_le rfl) (q_le rfl) (q_le rfl) ?_
  refine q_ifeq_b (tgt := 31) dX6_planAt_17 (by decide) (fun c_17 => ?_) (fun h_n => absurd (h_n.symm.trans (hx)) (by decide))
  refine q_bipush dX6_planAt_31 (v := (-2)) (by decide) ?_
  exact q_iret dX6_planAt_33 rfl (rfl) (q_le rfl) (q_le rfl)

set_option maxHeartbeats 4000000 in
set_option maxRecDepth 100000 in
theorem c_planAt_rng2 {f : q_Hp} {n o b cnt : Nat} {S : Nat → q_St} {ch : Nat → Int32} {cl : Nat} {sam : Nat → Int32} {len lost : Int32} {r1 r2 : q_Rw} {i : Nat} {bb ww ss : Int32} (ho : o + 9 ≤ b) (hcnt : cnt ≤ 8) (hcl : cl ≤ 8) (hi : i < cnt) (hx : x_isPlan bb ww = true) (hr : x_in ss 0 24 = false) : Sp yX6_planAt uX6_planAt [.ref o, .int (nI i), .int bb, .int ww, .int ss] n (q_blk (stg f b cnt S) o (xE o cnt (xrf b cnt) ch cl sam len lost r1 r2)) (some (.int (-2)), n, (q_blk (stg f b cnt S) o (xE o cnt (xrf b cnt) ch cl sam len lost r1 r2))) := by
  refine Sp.ofF (by decide +kernel) rfl rfl (q_le rfl) ?_
  intro G d
  refine q_aload_n dX6_planAt_0 rfl ?_
  refine q_iload_n dX6_planAt_1 rfl ?_
  refine q_cW (c_find_ok ho hcnt hcl hi) dX6_planAt_2 kl_X6_55 rfl (q_blk_get (j := 0) rfl) rfl ⟨q_le rfl, q_le rfl⟩ (q_le rfl) (q_le rfl) (q_le rfl) ?_
  refine q_astore dX6_planAt_5 (q_le rfl) ?_
  refine q_aload dX6_planAt_7 rfl ?_
  refine q_ifnull dX6_planAt_9 ?_
  refine q_iload_n dX6_planAt_12 rfl ?_
  refine q_iload_n dX6_planAt_13 rfl ?_
  refine q_cS (c_X6_isPlan) dX6_planAt_14 kl_X6_88 rfl ⟨q_le rfl, q_le rfl⟩ (q_le rfl) (q_le rfl) (q_le rfl) ?_
  refine q_ifeq_b (tgt := 31) dX6_planAt_17 (by decide) (fun h_n => absurd (h_n.symm.trans (hx)) (by decide)) (fun c_17 => ?_)
  refine q_iload dX6_planAt_20 rfl ?_
  refine q_iconst dX6_planAt_22 (v := 0) (by decide) ?_
  refine q_bipush dX6_planAt_23 (v := 24) (by decide) ?_
  refine q_cS (c_X6_within) dX6_planAt_25 kl_X6_44 rfl ⟨q_le rfl, q_le rfl⟩ (q_le rfl) (q_le rfl) (q_le rfl) ?_
  refine q_ifne_b (tgt := 34) dX6_planAt_28 (by decide) (fun h_n => absurd (h_n.symm.trans (hr)) (by decide)) (fun c_28 => ?_)
  refine q_bipush dX6_planAt_31 (v := (-2)) (by decide) ?_
  exact q_iret dX6_planAt_33 rfl (rfl) (q_le rfl) (q_le rfl)

set_option maxHeartbeats 4000000 in
set_option maxRecDepth 100000 in
theorem c_planAt_no {f : q_Hp} {n o b cnt : Nat} {S : Nat → q_St} {ch : Nat → Int32} {cl : Nat} {sam : Nat → Int32} {len lost : Int32} {r1 r2 : q_Rw} {i : Nat} {bb ww ss : Int32} (ho : o + 9 ≤ b) (hcnt : cnt ≤ 8) (hcl : cl ≤ 8) (hi : i < cnt) (hok : S_ok (S i)) (hx : x_isPlan bb ww = true) (hr : x_in ss 0 24 = true) (hs : S_safe bb ww ss (S i) = false) : Sp yX6_planAt uX6_planAt [.ref o, .int (nI i), .int bb, .int ww, .int ss] n (q_blk (stg f b cnt S) o (xE o cnt (xrf b cnt) ch cl sam len lost r1 r2)) (some (.int (-3)), n, (q_blk (stg f b cnt S) o (xE o cnt (xrf b cnt) ch cl sam len lost r1 r2))) := by
  refine Sp.ofF (by decide +kernel) rfl rfl (q_le rfl) ?_
  intro G d
  refine q_aload_n dX6_planAt_0 rfl ?_
  refine q_iload_n dX6_planAt_1 rfl ?_
  refine q_cW (c_find_ok ho hcnt hcl hi) dX6_planAt_2 kl_X6_55 rfl (q_blk_get (j := 0) rfl) rfl ⟨q_le rfl, q_le rfl⟩ (q_le rfl) (q_le rfl) (q_le rfl) ?_
  refine q_astore dX6_planAt_5 (q_le rfl) ?_
  refine q_aload dX6_planAt_7 rfl ?_
  refine q_ifnull dX6_planAt_9 ?_
  refine q_iload_n dX6_planAt_12 rfl ?_
  refine q_iload_n dX6_planAt_13 rfl ?_
  refine q_cS (c_X6_isPlan) dX6_planAt_14 kl_X6_88 rfl ⟨q_le rfl, q_le rfl⟩ (q_le rfl) (q_le rfl) (q_le rfl) ?_
  refine q_ifeq_b (tgt := 31) dX6_planAt_17 (by decide) (fun h_n => absurd (h_n.symm.trans (hx)) (by decide)) (fun c_17 => ?_)
  refine q_iload dX6_planAt_20 rfl ?_
  refine q_iconst dX6_planAt_22 (v := 0) (by decide) ?_
  refine q_bipush dX6_planAt_23 (v := 24) (by decide) ?_
  refine q_cS (c_X6_within) dX6_planAt_25 kl_X6_44 rfl ⟨q_le rfl, q_le rfl⟩ (q_le rfl) (q_le rfl) (q_le rfl) ?_
  refine q_ifne_b (tgt := 34) dX6_planAt_28 (by decide) (fun c_28 => ?_) (fun h_n => absurd (h_n.symm.trans (hr)) (by decide))
  refine q_aload dX6_planAt_34 rfl ?_
  refine q_iload_n dX6_planAt_36 rfl ?_
  refine q_iload_n dX6_planAt_37 rfl ?_
  refine q_iload dX6_planAt_38 rfl ?_
  refine q_cStr (w_isSafe hok) dX6_planAt_40 kl_X6_92 rfl hi ho rfl ⟨q_le rfl, q_le rfl⟩ (q_le rfl) (q_le rfl) (q_le rfl) ?_
  refine q_ifne_b (tgt := 49) dX6_planAt_43 (by decide) (fun h_n => absurd (h_n.symm.trans (hs)) (by decide)) (fun c_43 => ?_)
  refine q_bipush dX6_planAt_46 (v := (-3)) (by decide) ?_
  exact q_iret dX6_planAt_48 rfl (rfl) (q_le rfl) (q_le rfl)

set_option maxHeartbeats 4000000 in
set_option maxRecDepth 100000 in
theorem c_planAt_ok {f : q_Hp} {n o b cnt : Nat} {S : Nat → q_St} {ch : Nat → Int32} {cl : Nat} {sam : Nat → Int32} {len lost : Int32} {r1 r2 : q_Rw} {i : Nat} {bb ww ss : Int32} (ho : o + 9 ≤ b) (hcnt : cnt ≤ 8) (hcl : cl ≤ 8) (hi : i < cnt) (hok : S_ok (S i)) (hx : x_isPlan bb ww = true) (hr : x_in ss 0 24 = true) (hs : S_safe bb ww ss (S i) = true) : Sp yX6_planAt uX6_planAt [.ref o, .int (nI i), .int bb, .int ww, .int ss] n (q_blk (stg f b cnt S) o (xE o cnt (xrf b cnt) ch cl sam len lost r1 r2)) (some (.int ss), n, (q_blk (stg f b cnt (va_up S i (S_setPlan bb ww ss (S i)))) o (xE o cnt (xrf b cnt) ch cl sam len lost r1 r2))) := by
  refine Sp.ofF (by decide +kernel) rfl rfl (q_le rfl) ?_
  intro G d
  refine q_aload_n dX6_planAt_0 rfl ?_
  refine q_iload_n dX6_planAt_1 rfl ?_
  refine q_cW (c_find_ok ho hcnt hcl hi) dX6_planAt_2 kl_X6_55 rfl (q_blk_get (j := 0) rfl) rfl ⟨q_le rfl, q_le rfl⟩ (q_le rfl) (q_le rfl) (q_le rfl) ?_
  refine q_astore dX6_planAt_5 (q_le rfl) ?_
  refine q_aload dX6_planAt_7 rfl ?_
  refine q_ifnull dX6_planAt_9 ?_
  refine q_iload_n dX6_planAt_12 rfl ?_
  refine q_iload_n dX6_planAt_13 rfl ?_
  refine q_cS (c_X6_isPlan) dX6_planAt_14 kl_X6_88 rfl ⟨q_le rfl, q_le rfl⟩ (q_le rfl) (q_le rfl) (q_le rfl) ?_
  refine q_ifeq_b (tgt := 31) dX6_planAt_17 (by decide) (fun h_n => absurd (h_n.symm.trans (hx)) (by decide)) (fun c_17 => ?_)
  refine q_iload dX6_planAt_20 rfl ?_
  refine q_iconst dX6_planAt_22 (v := 0) (by decide) ?_
  refine q_bipush dX6_planAt_23 (v := 24) (by decide) ?_
  refine q_cS (c_X6_within) dX6_planAt_25 kl_X6_44 rfl ⟨q_le rfl, q_le rfl⟩ (q_le rfl) (q_le rfl) (q_le rfl) ?_
  refine q_ifne_b (tgt := 34) dX6_planAt_28 (by decide) (fun c_28 => ?_) (fun h_n => absurd (h_n.symm.trans (hr)) (by decide))
  refine q_aload dX6_planAt_34 rfl ?_
  refine q_iload_n dX6_planAt_36 rfl ?_
  refine q_iload_n dX6_planAt_37 rfl ?_
  refine q_iload dX6_planAt_38 rfl ?_
  refine q_cStr (w_isSafe hok) dX6_planAt_40 kl_X6_92 rfl hi ho rfl ⟨q_le rfl, q_le rfl⟩ (q_le rfl) (q_le rfl) (q_le rfl) ?_
  refine q_ifne_b (tgt := 49) dX6_planAt_43 (by decide) (fun c_43 => ?_) (fun h_n => absurd (h_n.symm.trans (hs)) (by decide))
  refine q_aload dX6_planAt_49 rfl ?_
  refine q_iload_n dX6_planAt_51 rfl ?_
  refine q_iload_n dX6_planAt_52 rfl ?_
  refine q_iload dX6_planAt_53 rfl ?_
  refine q_cSt (w_setPlan hok) dX6_planAt_55 kl_X6_95 rfl hi ho rfl ⟨q_le rfl, q_le rfl⟩ (q_le rfl) (q_le rfl) (q_le rfl) ?_
  refine q_iload dX6_planAt_58 rfl ?_
  exact q_iret dX6_planAt_60 rfl (rfl) (q_le rfl) (q_le rfl)

set_option maxHeartbeats 4000000 in
set_option maxRecDepth 100000 in
theorem c_coef_bad {f : q_Hp} {n o b cnt : Nat} {S : Nat → q_St} {ch : Nat → Int32} {cl : Nat} {sam : Nat → Int32} {len lost : Int32} {r1 r2 : q_Rw} {k k2 : Int32} (ho : o + 9 ≤ b) (hcnt : cnt ≤ 8) (hcl : cl ≤ 8) (hk : k < 0 ∨ nI cnt ≤ k) : Sp yX6_coefficient uX6_coefficient [.ref o, .int k, .int k2] n (q_blk (stg f b cnt S) o (xE o cnt (xrf b cnt) ch cl sam len lost r1 r2)) (some (.int 2000000000), n, (q_blk (stg f b cnt S) o (xE o cnt (xrf b cnt) ch cl sam len lost r1 r2))) := by
  refine Sp.ofF (by decide +kernel) rfl rfl (q_le rfl) ?_
  intro G d
  refine q_aload_n dX6_coefficient_0 rfl ?_
  refine q_iload_n dX6_coefficient_1 rfl ?_
  refine q_cW (c_find_no ho hcnt hcl hk) dX6_coefficient_2 kl_X6_55 rfl (q_blk_get (j := 0) rfl) rfl ⟨q_le rfl, q_le rfl⟩ (q_le rfl) (q_le rfl) (q_le rfl) ?_
  refine q_astore_nN dX6_coefficient_5 (q_le rfl) ?_
  refine q_aload_nN dX6_coefficient_6 rfl ?_
  refine q_ifnullN (tgt := 28) dX6_coefficient_7 (by decide) ?_
  refine q_ldc dX6_coefficient_28 cn_X6_73 ?_
  exact q_iret dX6_coefficient_30 rfl (rfl) (q_le rfl) (q_le rfl)

def x_coef (X : q_St) (k : Int32) : Int32 := if S_pst X = 0 then 2000000000 else bif s_ok (S_tc X) k then (bif k_in32 k then S_fac X k.toNatClampNeg else 0) else 2000000000
set_option maxHeartbeats 4000000 in
set_option maxRecDepth 100000 in
theorem c_coef_ok {f : q_Hp} {n o b cnt : Nat} {S : Nat → q_St} {ch : Nat → Int32} {cl : Nat} {sam : Nat → Int32} {len lost : Int32} {r1 r2 : q_Rw} {i : Nat} {k : Int32} (ho : o + 9 ≤ b) (hcnt : cnt ≤ 8) (hcl : cl ≤ 8) (hi : i < cnt) : Sp yX6_coefficient uX6_coefficient [.ref o, .int (nI i), .int k] n (q_blk (stg f b cnt S) o (xE o cnt (xrf b cnt) ch cl sam len lost r1 r2)) (some (.int (x_coef (S i) k)), n, (q_blk (stg f b cnt S) o (xE o cnt (xrf b cnt) ch cl sam len lost r1 r2))) := by
  refine Sp.ofF (by decide +kernel) rfl rfl (q_le rfl) ?_
  intro G d
  refine q_aload_n dX6_coefficient_0 rfl ?_
  refine q_iload_n dX6_coefficient_1 rfl ?_
  refine q_cW (c_find_ok ho hcnt hcl hi) dX6_coefficient_2 kl_X6_55 rfl (q_blk_get (j := 0) rfl) rfl ⟨q_le rfl, q_le rfl⟩ (q_le rfl) (q_le rfl) (q_le rfl) ?_
  refine q_astore_n dX6_coefficient_5 (q_le rfl) ?_
  refine q_aload_n dX6_coefficient_6 rfl ?_
  refine q_ifnull dX6_coefficient_7 ?_
  refine q_aload_n dX6_coefficient_10 rfl ?_
  refine q_getf dX6_coefficient_11 fl_X6_99 (xw_get hi ho (j := 0) rfl) rfl ?_
  refine q_getf dX6_coefficient_14 fl_X6_103 (xw_get hi ho (j := 2) rfl) rfl ?_
  refine q_if_eq (tgt := 28) dX6_coefficient_17 (by decide) (fun c_17 => ?_) (fun c_17 => ?_)
  · refine q_ldc dX6_coefficient_28 cn_X6_73 ?_
    exact q_iret dX6_coefficient_30 rfl (by unfold x_coef; rw [if_pos (show S_pst (S i) = 0 from c_17)]) (q_le rfl) (q_le rfl)
  · refine q_aload_n dX6_coefficient_20 rfl ?_
    refine q_iload_n dX6_coefficient_21 rfl ?_
    refine q_cStr (w_hasTap) dX6_coefficient_22 kl_X6_70 rfl hi ho rfl ⟨q_le rfl, q_le rfl⟩ (q_le rfl) (q_le rfl) (q_le rfl) ?_
    refine q_ifne_b (tgt := 31) dX6_coefficient_25 (by decide) (fun c_25 => ?_) (fun c_25 => ?_)
    · refine q_aload_n dX6_coefficient_31 rfl ?_
      refine q_getf dX6_coefficient_32 fl_X6_99 (xw_get hi ho (j := 0) rfl) rfl ?_
      refine q_iload_n dX6_coefficient_35 rfl ?_
      refine q_cSs (j := 2) (c_X1_factor) dX6_coefficient_36 kl_X6_108 rfl hi ho rfl rfl rfl ⟨q_le rfl, q_le rfl⟩ (q_le rfl) (q_le rfl) (q_le rfl) ?_
      exact q_iret dX6_coefficient_39 rfl (by unfold x_coef; rw [if_neg (show ¬ S_pst (S i) = 0 from c_17), c_25]; rfl) (q_le rfl) (q_le rfl)
    · refine q_ldc dX6_coefficient_28 cn_X6_73 ?_
      exact q_iret dX6_coefficient_30 rfl (by unfold x_coef; rw [if_neg (show ¬ S_pst (S i) = 0 from c_17), c_25]; rfl) (q_le rfl) (q_le rfl)

set_option maxHeartbeats 4000000 in
set_option maxRecDepth 100000 in
theorem c_norm_bad {f : q_Hp} {n o b cnt : Nat} {S : Nat → q_St} {ch : Nat → Int32} {cl : Nat} {sam : Nat → Int32} {len lost : Int32} {r1 r2 : q_Rw} {k : Int32} (ho : o + 9 ≤ b) (hcnt : cnt ≤ 8) (hcl : cl ≤ 8) (hk : k < 0 ∨ nI cnt ≤ k) : Sp yX6_norm uX6_norm [.ref o, .int k] n (q_blk (stg f b cnt S) o (xE o cnt (xrf b cnt) ch cl sam len lost r1 r2)) (some (.long (-2)), n, (q_blk (stg f b cnt S) o (xE o cnt (xrf b cnt) ch cl sam len lost r1 r2))) := by
  refine Sp.ofF (by decide +kernel) rfl rfl (q_le rfl) ?_
  intro G d
  refine q_aload_n dX6_norm_0 rfl ?_
  refine q_iload_n dX6_norm_1 rfl ?_
  refine q_cW (c_find_no ho hcnt hcl hk) dX6_norm_2 kl_X6_55 rfl (q_blk_get (j := 0) rfl) rfl ⟨q_le rfl, q_le rfl⟩ (q_le rfl) (q_le rfl) (q_le rfl) ?_
  refine q_astore_nN dX6_norm_5 (q_le rfl) ?_
  refine q_aload_nN dX6_norm_6 rfl ?_
  refine q_ifnullN (tgt := 20) dX6_norm_7 (by decide) ?_
  refine q_ldc2 dX6_norm_20 cn_X6_133 ?_
  exact q_lret dX6_norm_23 rfl (rfl) (q_le rfl) (q_le rfl)

set_option maxHeartbeats 4000000 in
set_option maxRecDepth 100000 in
theorem c_norm_ok {f : q_Hp} {n o b cnt : Nat} {S : Nat → q_St} {ch : Nat → Int32} {cl : Nat} {sam : Nat → Int32} {len lost : Int32} {r1 r2 : q_Rw} {i : Nat} (ho : o + 9 ≤ b) (hcnt : cnt ≤ 8) (hcl : cl ≤ 8) (hi : i < cnt) : Sp yX6_norm uX6_norm [.ref o, .int (nI i)] n (q_blk (stg f b cnt S) o (xE o cnt (xrf b cnt) ch cl sam len lost r1 r2)) (some (.long (if S_pst (S i) = 0 then -2 else S_psz (S i))), n, (q_blk (stg f b cnt S) o (xE o cnt (xrf b cnt) ch cl sam len lost r1 r2))) := by
  refine Sp.ofF (by decide +kernel) rfl rfl (q_le rfl) ?_
  intro G d
  refine q_aload_n dX6_norm_0 rfl ?_
  refine q_iload_n dX6_norm_1 rfl ?_
  refine q_cW (c_find_ok ho hcnt hcl hi) dX6_norm_2 kl_X6_55 rfl (q_blk_get (j := 0) rfl) rfl ⟨q_le rfl, q_le rfl⟩ (q_le rfl) (q_le rfl) (q_le rfl) ?_
  refine q_astore_n dX6_norm_5 (q_le rfl) ?_
  refine q_aload_n dX6_norm_6 rfl ?_
  refine q_ifnull dX6_norm_7 ?_
  refine q_aload_n dX6_norm_10 rfl ?_
  refine q_getf dX6_norm_11 fl_X6_99 (xw_get hi ho (j := 0) rfl) rfl ?_
  refine q_getf dX6_norm_14 fl_X6_103 (xw_get hi ho (j := 2) rfl) rfl ?_
  refine q_if_ne (tgt := 24) dX6_norm_17 (by decide) (fun c_17 => ?_) (fun c_17 => ?_)
  · refine q_aload_n dX6_norm_24 rfl ?_
    refine q_getf dX6_norm_25 fl_X6_99 (xw_get hi ho (j := 0) rfl) rfl ?_
    refine q_getf dX6_norm_28 fl_X6_135 (xw_get hi ho (j := 2) rfl) rfl ?_
    exact q_lret dX6_norm_31 rfl (by rw [if_neg (show ¬ S_pst (S i) = 0 from c_17)] <;> rfl) (q_le rfl) (q_le rfl)
  · refine q_ldc2 dX6_norm_20 cn_X6_133 ?_
    exact q_lret dX6_norm_23 rfl (by rw [if_pos (show S_pst (S i) = 0 from c_17)] <;> rfl) (q_le rfl) (q_le rfl)

def x_about (X : q_St) (pl : Int32) (v : Int32) : Int32 :=
  if v = 0 then S_tc X else if v = 1 then S_below X else if v = 2 then S_by X else if v = 3 then S_way X else if v = 4 then (if S_wr X = 0 then 0 else 1) else if v = 5 then (if S_pst X = 0 then -1 else S_shift X) else if v = 6 then (if S_pst X = 0 then -1 else S_bits X) else if v = 7 then (if S_pst X = 0 then -1 else S_word X) else if v = 8 then pl else if v = 9 then S_sym X else -2
def x_plc (ch : Nat → Int32) (cl i : Nat) : Int32 := (x_fd ch (nI i) cl 0).elim (-1) nI
set_option maxHeartbeats 4000000 in
set_option maxRecDepth 100000 in
theorem c_about_bad {f : q_Hp} {n o b cnt : Nat} {S : Nat → q_St} {ch : Nat → Int32} {cl : Nat} {sam : Nat → Int32} {len lost : Int32} {r1 r2 : q_Rw} {k v : Int32} (ho : o + 9 ≤ b) (hcnt : cnt ≤ 8) (hcl : cl ≤ 8) (hk : k < 0 ∨ nI cnt ≤ k) : Sp yX6_about uX6_about [.ref o, .int k, .int v] n (q_blk (stg f b cnt S) o (xE o cnt (xrf b cnt) ch cl sam len lost r1 r2)) (some (.int (-2)), n, (q_blk (stg f b cnt S) o (xE o cnt (xrf b cnt) ch cl sam len lost r1 r2))) := by
  refine Sp.ofF (by decide +kernel) rfl rfl (q_le rfl) ?_
  intro G d
  refine q_aload_n dX6_about_0 rfl ?_
  refine q_iload_n dX6_about_1 rfl ?_
  refine q_cW (c_find_no ho hcnt hcl hk) dX6_about_2 kl_X6_55 rfl (q_blk_get (j := 0) rfl) rfl ⟨q_le rfl, q_le rfl⟩ (q_le rfl) (q_le rfl) (q_le rfl) ?_
  refine q_astore_nN dX6_about_5 (q_le rfl) ?_
  refine q_aload_nN dX6_about_6 rfl ?_
  refine q_ifnonnullN dX6_about_7 ?_
  refine q_bipush dX6_about_10 (v := (-2)) (by decide) ?_
  exact q_iret dX6_about_12 rfl (rfl) (q_le rfl) (q_le rfl)

set_option maxHeartbeats 4000000 in
set_option maxRecDepth 100000 in
theorem c_about_ok {f : q_Hp} {n o b cnt : Nat} {S : Nat → q_St} {ch : Nat → Int32} {cl : Nat} {sam : Nat → Int32} {len lost : Int32} {r1 r2 : q_Rw} {i : Nat} {v : Int32} (ho : o + 9 ≤ b) (hcnt : cnt ≤ 8) (hcl : cl ≤ 8) (hi : i < cnt) (hok : S_ok (S i)) : Sp yX6_about uX6_about [.ref o, .int (nI i), .int v] n (q_blk (stg f b cnt S) o (xE o cnt (xrf b cnt) ch cl sam len lost r1 r2)) (some (.int (x_about (S i) (x_plc ch cl i) v)), n, (q_blk (stg f b cnt S) o (xE o cnt (xrf b cnt) ch cl sam len lost r1 r2))) := by
  refine Sp.ofF (by decide +kernel) rfl rfl (q_le rfl) ?_
  intro G d
  refine q_aload_n dX6_about_0 rfl ?_
  refine q_iload_n dX6_about_1 rfl ?_
  refine q_cW (c_find_ok ho hcnt hcl hi) dX6_about_2 kl_X6_55 rfl (q_blk_get (j := 0) rfl) rfl ⟨q_le rfl, q_le rfl⟩ (q_le rfl) (q_le rfl) (q_le rfl) ?_
  refine q_astore_n dX6_about_5 (q_le rfl) ?_
  refine q_aload_n dX6_about_6 rfl ?_
  refine q_ifnonnull (tgt := 13) dX6_about_7 (by decide) ?_
  refine q_aload_n dX6_about_13 rfl ?_
  refine q_getf dX6_about_14 fl_X6_99 (xw_get hi ho (j := 0) rfl) rfl ?_
  refine q_astore dX6_about_17 (q_le rfl) ?_
  refine q_iload_n dX6_about_19 rfl ?_
  by_cases s_20_0 : v = 0
  · refine q_tblIn (off := 56) (tgt := 76) dX6_about_20 (by rw [s_20_0]; decide) (by rw [s_20_0]; decide) (by rw [s_20_0]; rfl) (by decide) ?_
    refine q_aload_n dX6_about_76 rfl ?_
    refine q_getf dX6_about_77 fl_X6_67 (xw_get hi ho (j := 0) rfl) rfl ?_
    exact q_iret dX6_about_80 rfl (by unfold x_about; rw [if_pos s_20_0] <;> rfl) (q_le rfl) (q_le rfl)
  by_cases s_20_1 : v = 1
  · refine q_tblIn (off := 61) (tgt := 81) dX6_about_20 (by rw [s_20_1]; decide) (by rw [s_20_1]; decide) (by rw [s_20_1]; rfl) (by decide) ?_
    refine q_aload_n dX6_about_81 rfl ?_
    refine q_getf dX6_about_82 fl_X6_111 (xw_get hi ho (j := 0) rfl) rfl ?_
    exact q_iret dX6_about_85 rfl (by unfold x_about; rw [if_neg s_20_0, if_pos s_20_1] <;> rfl) (q_le rfl) (q_le rfl)
  by_cases s_20_2 : v = 2
  · refine q_tblIn (off := 66) (tgt := 86) dX6_about_20 (by rw [s_20_2]; decide) (by rw [s_20_2]; decide) (by rw [s_20_2]; rfl) (by decide) ?_
    refine q_aload_n dX6_about_86 rfl ?_
    refine q_getf dX6_about_87 fl_X6_114 (xw_get hi ho (j := 0) rfl) rfl ?_
    exact q_iret dX6_about_90 rfl (by unfold x_about; rw [if_neg s_20_0, if_neg s_20_1, if_pos s_20_2] <;> rfl) (q_le rfl) (q_le rfl)
  by_cases s_20_3 : v = 3
  · refine q_tblIn (off := 71) (tgt := 91) dX6_about_20 (by rw [s_20_3]; decide) (by rw [s_20_3]; decide) (by rw [s_20_3]; rfl) (by decide) ?_
    refine q_aload_n dX6_about_91 rfl ?_
    refine q_getf dX6_about_92 fl_X6_81 (xw_get hi ho (j := 0) rfl) rfl ?_
    exact q_iret dX6_about_95 rfl (by unfold x_about; rw [if_neg s_20_0, if_neg s_20_1, if_neg s_20_2, if_pos s_20_3] <;> rfl) (q_le rfl) (q_le rfl)
  by_cases s_20_4 : v = 4
  · refine q_tblIn (off := 76) (tgt := 96) dX6_about_20 (by rw [s_20_4]; decide) (by rw [s_20_4]; decide) (by rw [s_20_4]; rfl) (by decide) ?_
    refine q_aload_n dX6_about_96 rfl ?_
    refine q_getf dX6_about_97 fl_X6_84 (xw_get hi ho (j := 0) rfl) rfl ?_
    refine q_if_eq (tgt := 107) dX6_about_100 (by decide) (fun c_100 => ?_) (fun c_100 => ?_)
    · refine q_iconst dX6_about_107 (v := 0) (by decide) ?_
      exact q_iret dX6_about_108 rfl (by unfold x_about; rw [if_neg s_20_0, if_neg s_20_1, if_neg s_20_2, if_neg s_20_3, if_pos s_20_4, if_pos (show S_wr (S i) = 0 from c_100)] <;> rfl) (q_le rfl) (q_le rfl)
    · refine q_iconst dX6_about_103 (v := 1) (by decide) ?_
      refine q_goto (tgt := 108) dX6_about_104 (by decide) ?_
      exact q_iret dX6_about_108 rfl (by unfold x_about; rw [if_neg s_20_0, if_neg s_20_1, if_neg s_20_2, if_neg s_20_3, if_pos s_20_4, if_neg (show ¬ S_wr (S i) = 0 from c_100)] <;> rfl) (q_le rfl) (q_le rfl)
  by_cases s_20_5 : v = 5
  · refine q_tblIn (off := 89) (tgt := 109) dX6_about_20 (by rw [s_20_5]; decide) (by rw [s_20_5]; decide) (by rw [s_20_5]; rfl) (by decide) ?_
    refine q_aload dX6_about_109 rfl ?_
    refine q_getf dX6_about_111 fl_X6_103 (xw_get hi ho (j := 2) rfl) rfl ?_
    refine q_if_eq (tgt := 125) dX6_about_114 (by decide) (fun c_114 => ?_) (fun c_114 => ?_)
    · refine q_iconst dX6_about_125 (v := (-1)) (by decide) ?_
      exact q_iret dX6_about_126 rfl (by unfold x_about; rw [if_neg s_20_0, if_neg s_20_1, if_neg s_20_2, if_neg s_20_3, if_neg s_20_4, if_pos s_20_5, if_pos (show S_pst (S i) = 0 from c_114)] <;> rfl) (q_le rfl) (q_le rfl)
    · refine q_aload dX6_about_117 rfl ?_
      refine q_getf dX6_about_119 fl_X6_117 (xw_get hi ho (j := 2) rfl) rfl ?_
      refine q_goto (tgt := 126) dX6_about_122 (by decide) ?_
      exact q_iret dX6_about_126 rfl (by unfold x_about; rw [if_neg s_20_0, if_neg s_20_1, if_neg s_20_2, if_neg s_20_3, if_neg s_20_4, if_pos s_20_5, if_neg (show ¬ S_pst (S i) = 0 from c_114)] <;> rfl) (q_le rfl) (q_le rfl)
  by_cases s_20_6 : v = 6
  · refine q_tblIn (off := 107) (tgt := 127) dX6_about_20 (by rw [s_20_6]; decide) (by rw [s_20_6]; decide) (by rw [s_20_6]; rfl) (by decide) ?_
    refine q_aload dX6_about_127 rfl ?_
    refine q_getf dX6_about_129 fl_X6_103 (xw_get hi ho (j := 2) rfl) rfl ?_
    refine q_if_eq (tgt := 143) dX6_about_132 (by decide) (fun c_132 => ?_) (fun c_132 => ?_)
    · refine q_iconst dX6_about_143 (v := (-1)) (by decide) ?_
      exact q_iret dX6_about_144 rfl (by unfold x_about; rw [if_neg s_20_0, if_neg s_20_1, if_neg s_20_2, if_neg s_20_3, if_neg s_20_4, if_neg s_20_5, if_pos s_20_6, if_pos (show S_pst (S i) = 0 from c_132)] <;> rfl) (q_le rfl) (q_le rfl)
    · refine q_aload dX6_about_135 rfl ?_
      refine q_getf dX6_about_137 fl_X6_120 (xw_get hi ho (j := 2) rfl) rfl ?_
      refine q_goto (tgt := 144) dX6_about_140 (by decide) ?_
      exact q_iret dX6_about_144 rfl (by unfold x_about; rw [if_neg s_20_0, if_neg s_20_1, if_neg s_20_2, if_neg s_20_3, if_neg s_20_4, if_neg s_20_5, if_pos s_20_6, if_neg (show ¬ S_pst (S i) = 0 from c_132)] <;> rfl) (q_le rfl) (q_le rfl)
  by_cases s_20_7 : v = 7
  · refine q_tblIn (off := 125) (tgt := 145) dX6_about_20 (by rw [s_20_7]; decide) (by rw [s_20_7]; decide) (by rw [s_20_7]; rfl) (by decide) ?_
    refine q_aload dX6_about_145 rfl ?_
    refine q_getf dX6_about_147 fl_X6_103 (xw_get hi ho (j := 2) rfl) rfl ?_
    refine q_if_eq (tgt := 161) dX6_about_150 (by decide) (fun c_150 => ?_) (fun c_150 => ?_)
    · refine q_iconst dX6_about_161 (v := (-1)) (by decide) ?_
      exact q_iret dX6_about_162 rfl (by unfold x_about; rw [if_neg s_20_0, if_neg s_20_1, if_neg s_20_2, if_neg s_20_3, if_neg s_20_4, if_neg s_20_5, if_neg s_20_6, if_pos s_20_7, if_pos (show S_pst (S i) = 0 from c_150)] <;> rfl) (q_le rfl) (q_le rfl)
    · refine q_aload dX6_about_153 rfl ?_
      refine q_getf dX6_about_155 fl_X6_123 (xw_get hi ho (j := 2) rfl) rfl ?_
      refine q_goto (tgt := 162) dX6_about_158 (by decide) ?_
      exact q_iret dX6_about_162 rfl (by unfold x_about; rw [if_neg s_20_0, if_neg s_20_1, if_neg s_20_2, if_neg s_20_3, if_neg s_20_4, if_neg s_20_5, if_neg s_20_6, if_pos s_20_7, if_neg (show ¬ S_pst (S i) = 0 from c_150)] <;> rfl) (q_le rfl) (q_le rfl)
  by_cases s_20_8 : v = 8
  · refine q_tblIn (off := 143) (tgt := 163) dX6_about_20 (by rw [s_20_8]; decide) (by rw [s_20_8]; decide) (by rw [s_20_8]; rfl) (by decide) ?_
    refine q_aload_n dX6_about_163 rfl ?_
    refine q_iload_n dX6_about_164 rfl ?_
    refine q_cW (c_X6_placeOf ho hcnt hcl) dX6_about_165 kl_X6_126 rfl (q_blk_get (j := 0) rfl) rfl ⟨q_le rfl, q_le rfl⟩ (q_le rfl) (q_le rfl) (q_le rfl) ?_
    exact q_iret dX6_about_168 rfl (by unfold x_about; rw [if_neg s_20_0, if_neg s_20_1, if_neg s_20_2, if_neg s_20_3, if_neg s_20_4, if_neg s_20_5, if_neg s_20_6, if_neg s_20_7, if_pos s_20_8] <;> rfl) (q_le rfl) (q_le rfl)
  by_cases s_20_9 : v = 9
  · refine q_tblIn (off := 149) (tgt := 169) dX6_about_20 (by rw [s_20_9]; decide) (by rw [s_20_9]; decide) (by rw [s_20_9]; rfl) (by decide) ?_
    refine q_aload_n dX6_about_169 rfl ?_
    refine q_cStr (w_sym hok) dX6_about_170 kl_X6_129 rfl hi ho rfl ⟨q_le rfl, q_le rfl⟩ (q_le rfl) (q_le rfl) (q_le rfl) ?_
    exact q_iret dX6_about_173 rfl (by unfold x_about; rw [if_neg s_20_0, if_neg s_20_1, if_neg s_20_2, if_neg s_20_3, if_neg s_20_4, if_neg s_20_5, if_neg s_20_6, if_neg s_20_7, if_neg s_20_8, if_pos s_20_9] <;> rfl) (q_le rfl) (q_le rfl)
  have is_20_0 := q_ne s_20_0 (i := 0) (by decide)
  have is_20_1 := q_ne s_20_1 (i := 1) (by decide)
  have is_20_2 := q_ne s_20_2 (i := 2) (by decide)
  have is_20_3 := q_ne s_20_3 (i := 3) (by decide)
  have is_20_4 := q_ne s_20_4 (i := 4) (by decide)
  have is_20_5 := q_ne s_20_5 (i := 5) (by decide)
  have is_20_6 := q_ne s_20_6 (i := 6) (by decide)
  have is_20_7 := q_ne s_20_7 (i := 7) (by decide)
  have is_20_8 := q_ne s_20_8 (i := 8) (by decide)
  have is_20_9 := q_ne s_20_9 (i := 9) (by decide)
  refine q_tblOut (tgt := 174) dX6_about_20 (by omega) (by decide) ?_
  refine q_bipush dX6_about_174 (v := (-2)) (by decide) ?_
  exact q_iret dX6_about_176 rfl (by unfold x_about; rw [if_neg s_20_0, if_neg s_20_1, if_neg s_20_2, if_neg s_20_3, if_neg s_20_4, if_neg s_20_5, if_neg s_20_6, if_neg s_20_7, if_neg s_20_8, if_neg s_20_9] <;> rfl) (q_le rfl) (q_le rfl)

