abbrev uLn (nm : String) : q_M := (cL_law, RL, 4, room_1, some .boolean, nm)
section LROWS
variable {G : q_G} {d : q_D} {u : q_M} {z : q_Z} {ce sl n pc : Nat} {ls : q_L} {st : List Value} {f : q_Hp}
/-- the script: L ints xs -/
def q_scr (G : q_G) (d : q_D) (L : Nat) (xs : Nat → Int32) : Prop := va_X d.2.2.2 L xs G.2.2.2.1 G.2.2.2.1.heap ∧ d.2.2.2 ≤ d.2.2.1 ∧ G.2.2.2.1.heap.size = d.2.2.1 + 1 ∧ L < 2 ^ 30
theorem q_sld {L k : Nat} {xs : Nat → Int32} {ix : Int32} (hX : q_scr G d L xs) (hd : decode u.1 pc = .ok (.iaload, 1)) (he : ix = nI k) (hk : k < L) (kk : J G d u z ce sl n (pc + 1) ls (.int (xs k) :: st) f) : J G d u z ce sl n pc ls (.int ix :: .ref 0 :: st) f := by
  subst he
  obtain ⟨x1, x2, x3, x4⟩ := hX
  intro X H locs arr h1 h2 h3 h4
  have h5 := h1.1
  have h6 := h1.2.1
  refine va_sld (A := fun q => d.2.2.1 < q) (H0 := G.2.2.2.1.heap) X.1 X.2.1 x1 (by omega) (by omega) ⟨by omega, fun q g1 g2 => h2 q (by omega), h3⟩ (vp_in_nI hk (by omega)) hd ?_
  rw [nI_clamp (by omega)]
  exact kk X H locs arr h1 h2 h3 h4
theorem q_slen {L : Nat} {xs : Nat → Int32} (hX : q_scr G d L xs) (hd : decode u.1 pc = .ok (.arraylength, 1)) (kk : J G d u z ce sl n (pc + 1) ls (.int (nI L) :: st) f) : J G d u z ce sl n pc ls (.ref 0 :: st) f := by
  obtain ⟨x1, x2, x3, x4⟩ := hX
  intro X H locs arr h1 h2 h3 h4
  have h5 := h1.1
  have h6 := h1.2.1
  have y1 : d.2.2.2 < G.2.2.2.1.heap.size := by omega
  have y2 : ¬ (d.2.2.1 < d.2.2.2) := by omega
  exact va_slen (A := fun q => d.2.2.1 < q) (H0 := G.2.2.2.1.heap) X.1 X.2.1 x1 y1 y2 ⟨by omega, fun q g1 g2 => h2 q (by omega), h3⟩ hd (kk X H locs arr h1 h2 h3 h4)
end LROWS
theorem l_sub5 {L i : Nat} (hL : L < 2 ^ 30) (hi : i < 2 ^ 30) : (nI L - 5 < nI i) ↔ L < i + 5 := by
  rw [Int32.lt_iff_toInt_lt, show (5 : Int32) = nI 5 from rfl, pk_sub_toInt hL (by decide), nI_toInt (by omega)]
  omega
set_option maxHeartbeats 4000000 in
set_option maxRecDepth 100000 in
theorem lc_stage {G : q_G} {d : q_D} {z : q_Z} {nm : String} {ce sl n n1 L i : Nat} {xs : Nat → Int32} {h h1 h2 : q_Hp} {f5 f6 : List Value} {r : Int32} (hX : q_scr G d L xs) (hL : L < 2 ^ 30) (hi : i + 5 ≤ L) (hv : xs i &&& 31 = 0) (e5 : h 1 = some (.inr (6, f5))) (e6 : h1 10 = some (.inr (7, f6))) (s1 : Sp yX6_stage uX6_stage [.ref 1, .int (xs (i + 1)), .int (xs (i + 2))] n h (some (.int r), n1, h1)) (s2 : Sp yX7_stage uX7_stage [.ref 10, .int (xs (i + 1)), .int (xs (i + 2))] n1 h1 (some (.int r), n1, h2)) (hce : ce + 7 ≤ 600000) (hsl : sl + 124 ≤ 7302250) (hx : J G d (uLn nm) z (ce + 7) (sl + 124) n1 802 (q_l [(0, .ref 0), (1, .ref 1), (2, .ref 10), (3, .int (nI i))]) [] h2) : J G d (uLn nm) z ce sl n 18 (q_l [(0, .ref 0), (1, .ref 1), (2, .ref 10), (3, .int (nI i))]) [] h := by
  refine q_iload_n dL_law_18 rfl ?_
  refine q_aload_n dL_law_19 rfl ?_
  refine q_slen hX dL_law_20 ?_
  refine q_iconst dL_law_21 (v := 5) (by decide) ?_
  refine q_isub dL_law_22 ?_
  refine q_icmp_gt (tgt := 808) dL_law_23 (by decide) (fun h_n => absurd ((l_sub5 hL (by omega)).mp h_n) (by omega)) (fun _ => ?_)
  refine q_aload_n dL_law_26 rfl ?_
  refine q_iload_n dL_law_27 rfl ?_
  refine q_sld hX dL_law_28 (k := i) rfl (by omega) ?_
  refine q_bipush dL_law_29 (v := 31) (by decide) ?_
  refine q_iand dL_law_31 ?_
  refine q_tblIn (off := 104) (tgt := 136) dL_law_32 (by rw [hv]; decide) (by rw [hv]; decide) (by rw [hv]; rfl) (by decide) ?_
  refine q_aload_n dL_law_136 rfl ?_
  refine q_aload_n dL_law_137 rfl ?_
  refine q_iload_n dL_law_138 rfl ?_
  refine q_iconst dL_law_139 (v := 1) (by decide) ?_
  refine q_iadd dL_law_140 ?_
  refine q_sld hX dL_law_141 (k := i + 1) (nI_add i 1) (by omega) ?_
  refine q_aload_n dL_law_142 rfl ?_
  refine q_iload_n dL_law_143 rfl ?_
  refine q_iconst dL_law_144 (v := 2) (by decide) ?_
  refine q_iadd dL_law_145 ?_
  refine q_sld hX dL_law_146 (k := i + 2) (nI_add i 2) (by omega) ?_
  refine q_cW s1 dL_law_147 kl_L_13 rfl e5 rfl ⟨q_le rfl, q_le rfl⟩ hce hsl (q_le rfl) ?_
  refine q_aload_n dL_law_150 rfl ?_
  refine q_aload_n dL_law_151 rfl ?_
  refine q_iload_n dL_law_152 rfl ?_
  refine q_iconst dL_law_153 (v := 1) (by decide) ?_
  refine q_iadd dL_law_154 ?_
  refine q_sld hX dL_law_155 (k := i + 1) (nI_add i 1) (by omega) ?_
  refine q_aload_n dL_law_156 rfl ?_
  refine q_iload_n dL_law_157 rfl ?_
  refine q_iconst dL_law_158 (v := 2) (by decide) ?_
  refine q_iadd dL_law_159 ?_
  refine q_sld hX dL_law_160 (k := i + 2) (nI_add i 2) (by omega) ?_
  refine q_cW s2 dL_law_161 kl_L_17 rfl e6 rfl ⟨q_le rfl, q_le rfl⟩ hce hsl (q_le rfl) ?_
  refine q_icmp_eq (tgt := 802) dL_law_164 (by decide) (fun _ => ?_) (fun h_n => absurd rfl h_n)
  exact q_lo [(0, .ref 0), (1, .ref 1), (2, .ref 10), (3, .int (nI i))] ⟨rfl, rfl, rfl, rfl, trivial⟩ hx

set_option maxHeartbeats 4000000 in
set_option maxRecDepth 100000 in
theorem lc_tap {G : q_G} {d : q_D} {z : q_Z} {nm : String} {ce sl n n1 L i : Nat} {xs : Nat → Int32} {h h1 h2 : q_Hp} {f5 f6 : List Value} {r : Int32} (hX : q_scr G d L xs) (hL : L < 2 ^ 30) (hi : i + 5 ≤ L) (hv : xs i &&& 31 = 1) (e5 : h 1 = some (.inr (6, f5))) (e6 : h1 10 = some (.inr (7, f6))) (s1 : Sp yX6_tap uX6_tap [.ref 1, .int (xs (i + 1)), .int (xs (i + 2))] n h (some (.int r), n1, h1)) (s2 : Sp yX7_tap uX7_tap [.ref 10, .int (xs (i + 1)), .int (xs (i + 2))] n1 h1 (some (.int r), n1, h2)) (hce : ce + 0 ≤ 600000) (hsl : sl + 0 ≤ 7302250) (hx : J G d (uLn nm) z (ce + 0) (sl + 0) n1 802 (q_l [(0, .ref 0), (1, .ref 1), (2, .ref 10), (3, .int (nI i))]) [] h2) : J G d (uLn nm) z ce sl n 18 (q_l [(0, .ref 0), (1, .ref 1), (2, .ref 10), (3, .int (nI i))]) [] h := by
  refine q_iload_n dL_law_18 rfl ?_
  refine q_aload_n dL_law_19 rfl ?_
  refine q_slen hX dL_law_20 ?_
  refine q_iconst dL_law_21 (v := 5) (by decide) ?_
  refine q_isub dL_law_22 ?_
  refine q_icmp_gt (tgt := 808) dL_law_23 (by decide) (fun h_n => absurd ((l_sub5 hL (by omega)).mp h_n) (by omega)) (fun _ => ?_)
  refine q_aload_n dL_law_26 rfl ?_
  refine q_iload_n dL_law_27 rfl ?_
  refine q_sld hX dL_law_28 (k := i) rfl (by omega) ?_
  refine q_bipush dL_law_29 (v := 31) (by decide) ?_
  refine q_iand dL_law_31 ?_
  refine q_tblIn (off := 137) (tgt := 169) dL_law_32 (by rw [hv]; decide) (by rw [hv]; decide) (by rw [hv]; rfl) (by decide) ?_
  refine q_aload_n dL_law_169 rfl ?_
  refine q_aload_n dL_law_170 rfl ?_
  refine q_iload_n dL_law_171 rfl ?_
  refine q_iconst dL_law_172 (v := 1) (by decide) ?_
  refine q_iadd dL_law_173 ?_
  refine q_sld hX dL_law_174 (k := i + 1) (nI_add i 1) (by omega) ?_
  refine q_aload_n dL_law_175 rfl ?_
  refine q_iload_n dL_law_176 rfl ?_
  refine q_iconst dL_law_177 (v := 2) (by decide) ?_
  refine q_iadd dL_law_178 ?_
  refine q_sld hX dL_law_179 (k := i + 2) (nI_add i 2) (by omega) ?_
  refine q_cW s1 dL_law_180 kl_L_18 rfl e5 rfl ⟨q_le rfl, q_le rfl⟩ hce hsl (q_le rfl) ?_
  refine q_aload_n dL_law_183 rfl ?_
  refine q_aload_n dL_law_184 rfl ?_
  refine q_iload_n dL_law_185 rfl ?_
  refine q_iconst dL_law_186 (v := 1) (by decide) ?_
  refine q_iadd dL_law_187 ?_
  refine q_sld hX dL_law_188 (k := i + 1) (nI_add i 1) (by omega) ?_
  refine q_aload_n dL_law_189 rfl ?_
  refine q_iload_n dL_law_190 rfl ?_
  refine q_iconst dL_law_191 (v := 2) (by decide) ?_
  refine q_iadd dL_law_192 ?_
  refine q_sld hX dL_law_193 (k := i + 2) (nI_add i 2) (by omega) ?_
  refine q_cW s2 dL_law_194 kl_L_21 rfl e6 rfl ⟨q_le rfl, q_le rfl⟩ hce hsl (q_le rfl) ?_
  refine q_icmp_eq (tgt := 802) dL_law_197 (by decide) (fun _ => ?_) (fun h_n => absurd rfl h_n)
  exact q_lo [(0, .ref 0), (1, .ref 1), (2, .ref 10), (3, .int (nI i))] ⟨rfl, rfl, rfl, rfl, trivial⟩ hx

set_option maxHeartbeats 4000000 in
set_option maxRecDepth 100000 in
theorem lc_change {G : q_G} {d : q_D} {z : q_Z} {nm : String} {ce sl n n1 L i : Nat} {xs : Nat → Int32} {h h1 h2 : q_Hp} {f5 f6 : List Value} {r : Int32} (hX : q_scr G d L xs) (hL : L < 2 ^ 30) (hi : i + 5 ≤ L) (hv : xs i &&& 31 = 2) (e5 : h 1 = some (.inr (6, f5))) (e6 : h1 10 = some (.inr (7, f6))) (s1 : Sp yX6_change uX6_change [.ref 1, .int (xs (i + 1)), .int (xs (i + 2)), .int (xs (i + 3))] n h (some (.int r), n1, h1)) (s2 : Sp yX7_change uX7_change [.ref 10, .int (xs (i + 1)), .int (xs (i + 2)), .int (xs (i + 3))] n1 h1 (some (.int r), n1, h2)) (hce : ce + 0 ≤ 600000) (hsl : sl + 0 ≤ 7302250) (hx : J G d (uLn nm) z (ce + 0) (sl + 0) n1 802 (q_l [(0, .ref 0), (1, .ref 1), (2, .ref 10), (3, .int (nI i))]) [] h2) : J G d (uLn nm) z ce sl n 18 (q_l [(0, .ref 0), (1, .ref 1), (2, .ref 10), (3, .int (nI i))]) [] h := by
  refine q_iload_n dL_law_18 rfl ?_
  refine q_aload_n dL_law_19 rfl ?_
  refine q_slen hX dL_law_20 ?_
  refine q_iconst dL_law_21 (v := 5) (by decide) ?_
  refine q_isub dL_law_22 ?_
  refine q_icmp_gt (tgt := 808) dL_law_23 (by decide) (fun h_n => absurd ((l_sub5 hL (by omega)).mp h_n) (by omega)) (fun _ => ?_)
  refine q_aload_n dL_law_26 rfl ?_
  refine q_iload_n dL_law_27 rfl ?_
  refine q_sld hX dL_law_28 (k := i) rfl (by omega) ?_
  refine q_bipush dL_law_29 (v := 31) (by decide) ?_
  refine q_iand dL_law_31 ?_
  refine q_tblIn (off := 170) (tgt := 202) dL_law_32 (by rw [hv]; decide) (by rw [hv]; decide) (by rw [hv]; rfl) (by decide) ?_
  refine q_aload_n dL_law_202 rfl ?_
  refine q_aload_n dL_law_203 rfl ?_
  refine q_iload_n dL_law_204 rfl ?_
  refine q_iconst dL_law_205 (v := 1) (by decide) ?_
  refine q_iadd dL_law_206 ?_
  refine q_sld hX dL_law_207 (k := i + 1) (nI_add i 1) (by omega) ?_
  refine q_aload_n dL_law_208 rfl ?_
  refine q_iload_n dL_law_209 rfl ?_
  refine q_iconst dL_law_210 (v := 2) (by decide) ?_
  refine q_iadd dL_law_211 ?_
  refine q_sld hX dL_law_212 (k := i + 2) (nI_add i 2) (by omega) ?_
  refine q_aload_n dL_law_213 rfl ?_
  refine q_iload_n dL_law_214 rfl ?_
  refine q_iconst dL_law_215 (v := 3) (by decide) ?_
  refine q_iadd dL_law_216 ?_
  refine q_sld hX dL_law_217 (k := i + 3) (nI_add i 3) (by omega) ?_
  refine q_cW s1 dL_law_218 kl_L_22 rfl e5 rfl ⟨q_le rfl, q_le rfl⟩ hce hsl (q_le rfl) ?_
  refine q_aload_n dL_law_221 rfl ?_
  refine q_aload_n dL_law_222 rfl ?_
  refine q_iload_n dL_law_223 rfl ?_
  refine q_iconst dL_law_224 (v := 1) (by decide) ?_
  refine q_iadd dL_law_225 ?_
  refine q_sld hX dL_law_226 (k := i + 1) (nI_add i 1) (by omega) ?_
  refine q_aload_n dL_law_227 rfl ?_
  refine q_iload_n dL_law_228 rfl ?_
  refine q_iconst dL_law_229 (v := 2) (by decide) ?_
  refine q_iadd dL_law_230 ?_
  refine q_sld hX dL_law_231 (k := i + 2) (nI_add i 2) (by omega) ?_
  refine q_aload_n dL_law_232 rfl ?_
  refine q_iload_n dL_law_233 rfl ?_
  refine q_iconst dL_law_234 (v := 3) (by decide) ?_
  refine q_iadd dL_law_235 ?_
  refine q_sld hX dL_law_236 (k := i + 3) (nI_add i 3) (by omega) ?_
  refine q_cW s2 dL_law_237 kl_L_26 rfl e6 rfl ⟨q_le rfl, q_le rfl⟩ hce hsl (q_le rfl) ?_
  refine q_icmp_eq (tgt := 802) dL_law_240 (by decide) (fun _ => ?_) (fun h_n => absurd rfl h_n)
  exact q_lo [(0, .ref 0), (1, .ref 1), (2, .ref 10), (3, .int (nI i))] ⟨rfl, rfl, rfl, rfl, trivial⟩ hx

set_option maxHeartbeats 4000000 in
set_option maxRecDepth 100000 in
theorem lc_way_z {G : q_G} {d : q_D} {z : q_Z} {nm : String} {ce sl n n1 L i : Nat} {xs : Nat → Int32} {h h1 h2 : q_Hp} {f5 f6 : List Value} {r : Int32} (hX : q_scr G d L xs) (hL : L < 2 ^ 30) (hi : i + 5 ≤ L) (hv : xs i &&& 31 = 3) (hz : xs (i + 3) = 0) (e5 : h 1 = some (.inr (6, f5))) (e6 : h1 10 = some (.inr (7, f6))) (s1 : Sp yX6_way uX6_way [.ref 1, .int (xs (i + 1)), .int (xs (i + 2)), .int 0] n h (some (.int r), n1, h1)) (s2 : Sp yX7_way uX7_way [.ref 10, .int (xs (i + 1)), .int (xs (i + 2)), .int 0] n1 h1 (some (.int r), n1, h2)) (hce : ce + 0 ≤ 600000) (hsl : sl + 0 ≤ 7302250) (hx : J G d (uLn nm) z (ce + 0) (sl + 0) n1 802 (q_l [(0, .ref 0), (1, .ref 1), (2, .ref 10), (3, .int (nI i))]) [] h2) : J G d (uLn nm) z ce sl n 18 (q_l [(0, .ref 0), (1, .ref 1), (2, .ref 10), (3, .int (nI i))]) [] h := by
  refine q_iload_n dL_law_18 rfl ?_
  refine q_aload_n dL_law_19 rfl ?_
  refine q_slen hX dL_law_20 ?_
  refine q_iconst dL_law_21 (v := 5) (by decide) ?_
  refine q_isub dL_law_22 ?_
  refine q_icmp_gt (tgt := 808) dL_law_23 (by decide) (fun h_n => absurd ((l_sub5 hL (by omega)).mp h_n) (by omega)) (fun _ => ?_)
  refine q_aload_n dL_law_26 rfl ?_
  refine q_iload_n dL_law_27 rfl ?_
  refine q_sld hX dL_law_28 (k := i) rfl (by omega) ?_
  refine q_bipush dL_law_29 (v := 31) (by decide) ?_
  refine q_iand dL_law_31 ?_
  refine q_tblIn (off := 213) (tgt := 245) dL_law_32 (by rw [hv]; decide) (by rw [hv]; decide) (by rw [hv]; rfl) (by decide) ?_
  refine q_aload_n dL_law_245 rfl ?_
  refine q_aload_n dL_law_246 rfl ?_
  refine q_iload_n dL_law_247 rfl ?_
  refine q_iconst dL_law_248 (v := 1) (by decide) ?_
  refine q_iadd dL_law_249 ?_
  refine q_sld hX dL_law_250 (k := i + 1) (nI_add i 1) (by omega) ?_
  refine q_aload_n dL_law_251 rfl ?_
  refine q_iload_n dL_law_252 rfl ?_
  refine q_iconst dL_law_253 (v := 2) (by decide) ?_
  refine q_iadd dL_law_254 ?_
  refine q_sld hX dL_law_255 (k := i + 2) (nI_add i 2) (by omega) ?_
  refine q_aload_n dL_law_256 rfl ?_
  refine q_iload_n dL_law_257 rfl ?_
  refine q_iconst dL_law_258 (v := 3) (by decide) ?_
  refine q_iadd dL_law_259 ?_
  refine q_sld hX dL_law_260 (k := i + 3) (nI_add i 3) (by omega) ?_
  refine q_if_eq (tgt := 268) dL_law_261 (by decide) (fun _ => ?_) (fun h_n => absurd hz h_n)
  refine q_iconst dL_law_268 (v := 0) (by decide) ?_
  refine q_cW s1 dL_law_269 kl_L_27 rfl e5 rfl ⟨q_le rfl, q_le rfl⟩ hce hsl (q_le rfl) ?_
  refine q_aload_n dL_law_272 rfl ?_
  refine q_aload_n dL_law_273 rfl ?_
  refine q_iload_n dL_law_274 rfl ?_
  refine q_iconst dL_law_275 (v := 1) (by decide) ?_
  refine q_iadd dL_law_276 ?_
  refine q_sld hX dL_law_277 (k := i + 1) (nI_add i 1) (by omega) ?_
  refine q_aload_n dL_law_278 rfl ?_
  refine q_iload_n dL_law_279 rfl ?_
  refine q_iconst dL_law_280 (v := 2) (by decide) ?_
  refine q_iadd dL_law_281 ?_
  refine q_sld hX dL_law_282 (k := i + 2) (nI_add i 2) (by omega) ?_
  refine q_aload_n dL_law_283 rfl ?_
  refine q_iload_n dL_law_284 rfl ?_
  refine q_iconst dL_law_285 (v := 3) (by decide) ?_
  refine q_iadd dL_law_286 ?_
  refine q_sld hX dL_law_287 (k := i + 3) (nI_add i 3) (by omega) ?_
  refine q_if_eq (tgt := 295) dL_law_288 (by decide) (fun _ => ?_) (fun h_n => absurd hz h_n)
  refine q_iconst dL_law_295 (v := 0) (by decide) ?_
  refine q_cW s2 dL_law_296 kl_L_31 rfl e6 rfl ⟨q_le rfl, q_le rfl⟩ hce hsl (q_le rfl) ?_
  refine q_icmp_eq (tgt := 802) dL_law_299 (by decide) (fun _ => ?_) (fun h_n => absurd rfl h_n)
  exact q_lo [(0, .ref 0), (1, .ref 1), (2, .ref 10), (3, .int (nI i))] ⟨rfl, rfl, rfl, rfl, trivial⟩ hx

set_option maxHeartbeats 4000000 in
set_option maxRecDepth 100000 in
theorem lc_way_o {G : q_G} {d : q_D} {z : q_Z} {nm : String} {ce sl n n1 L i : Nat} {xs : Nat → Int32} {h h1 h2 : q_Hp} {f5 f6 : List Value} {r : Int32} (hX : q_scr G d L xs) (hL : L < 2 ^ 30) (hi : i + 5 ≤ L) (hv : xs i &&& 31 = 3) (hz : ¬ xs (i + 3) = 0) (e5 : h 1 = some (.inr (6, f5))) (e6 : h1 10 = some (.inr (7, f6))) (s1 : Sp yX6_way uX6_way [.ref 1, .int (xs (i + 1)), .int (xs (i + 2)), .int 1] n h (some (.int r), n1, h1)) (s2 : Sp yX7_way uX7_way [.ref 10, .int (xs (i + 1)), .int (xs (i + 2)), .int 1] n1 h1 (some (.int r), n1, h2)) (hce : ce + 0 ≤ 600000) (hsl : sl + 0 ≤ 7302250) (hx : J G d (uLn nm) z (ce + 0) (sl + 0) n1 802 (q_l [(0, .ref 0), (1, .ref 1), (2, .ref 10), (3, .int (nI i))]) [] h2) : J G d (uLn nm) z ce sl n 18 (q_l [(0, .ref 0), (1, .ref 1), (2, .ref 10), (3, .int (nI i))]) [] h := by
  refine q_iload_n dL_law_18 rfl ?_
  refine q_aload_n dL_law_19 rfl ?_
  refine q_slen hX dL_law_20 ?_
  refine q_iconst dL_law_21 (v := 5) (by decide) ?_
  refine q_isub dL_law_22 ?_
  refine q_icmp_gt (tgt := 808) dL_law_23 (by decide) (fun h_n => absurd ((l_sub5 hL (by omega)).mp h_n) (by omega)) (fun _ => ?_)
  refine q_aload_n dL_law_26 rfl ?_
  refine q_iload_n dL_law_27 rfl ?_
  refine q_sld hX dL_law_28 (k := i) rfl (by omega) ?_
  refine q_bipush dL_law_29 (v := 31) (by decide) ?_
  refine q_iand dL_law_31 ?_
  refine q_tblIn (off := 213) (tgt := 245) dL_law_32 (by rw [hv]; decide) (by rw [hv]; decide) (by rw [hv]; rfl) (by decide) ?_
  refine q_aload_n dL_law_245 rfl ?_
  refine q_aload_n dL_law_246 rfl ?_
  refine q_iload_n dL_law_247 rfl ?_
  refine q_iconst dL_law_248 (v := 1) (by decide) ?_
  refine q_iadd dL_law_249 ?_
  refine q_sld hX dL_law_250 (k := i + 1) (nI_add i 1) (by omega) ?_
  refine q_aload_n dL_law_251 rfl ?_
  refine q_iload_n dL_law_252 rfl ?_
  refine q_iconst dL_law_253 (v := 2) (by decide) ?_
  refine q_iadd dL_law_254 ?_
  refine q_sld hX dL_law_255 (k := i + 2) (nI_add i 2) (by omega) ?_
  refine q_aload_n dL_law_256 rfl ?_
  refine q_iload_n dL_law_257 rfl ?_
  refine q_iconst dL_law_258 (v := 3) (by decide) ?_
  refine q_iadd dL_law_259 ?_
  refine q_sld hX dL_law_260 (k := i + 3) (nI_add i 3) (by omega) ?_
  refine q_if_eq (tgt := 268) dL_law_261 (by decide) (fun h_n => absurd h_n hz) (fun _ => ?_)
  refine q_iconst dL_law_264 (v := 1) (by decide) ?_
  refine q_goto (tgt := 269) dL_law_265 (by decide) ?_
  refine q_cW s1 dL_law_269 kl_L_27 rfl e5 rfl ⟨q_le rfl, q_le rfl⟩ hce hsl (q_le rfl) ?_
  refine q_aload_n dL_law_272 rfl ?_
  refine q_aload_n dL_law_273 rfl ?_
  refine q_iload_n dL_law_274 rfl ?_
  refine q_iconst dL_law_275 (v := 1) (by decide) ?_
  refine q_iadd dL_law_276 ?_
  refine q_sld hX dL_law_277 (k := i + 1) (nI_add i 1) (by omega) ?_
  refine q_aload_n dL_law_278 rfl ?_
  refine q_iload_n dL_law_279 rfl ?_
  refine q_iconst dL_law_280 (v := 2) (by decide) ?_
  refine q_iadd dL_law_281 ?_
  refine q_sld hX dL_law_282 (k := i + 2) (nI_add i 2) (by omega) ?_
  refine q_aload_n dL_law_283 rfl ?_
  refine q_iload_n dL_law_284 rfl ?_
  refine q_iconst dL_law_285 (v := 3) (by decide) ?_
  refine q_iadd dL_law_286 ?_
  refine q_sld hX dL_law_287 (k := i + 3) (nI_add i 3) (by omega) ?_
  refine q_if_eq (tgt := 295) dL_law_288 (by decide) (fun h_n => absurd h_n hz) (fun _ => ?_)
  refine q_iconst dL_law_291 (v := 1) (by decide) ?_
  refine q_goto (tgt := 296) dL_law_292 (by decide) ?_
  refine q_cW s2 dL_law_296 kl_L_31 rfl e6 rfl ⟨q_le rfl, q_le rfl⟩ hce hsl (q_le rfl) ?_
  refine q_icmp_eq (tgt := 802) dL_law_299 (by decide) (fun _ => ?_) (fun h_n => absurd rfl h_n)
  exact q_lo [(0, .ref 0), (1, .ref 1), (2, .ref 10), (3, .int (nI i))] ⟨rfl, rfl, rfl, rfl, trivial⟩ hx

set_option maxHeartbeats 4000000 in
set_option maxRecDepth 100000 in
theorem lc_plan {G : q_G} {d : q_D} {z : q_Z} {nm : String} {ce sl n n1 L i : Nat} {xs : Nat → Int32} {h h1 h2 : q_Hp} {f5 f6 : List Value} {r : Int32} (hX : q_scr G d L xs) (hL : L < 2 ^ 30) (hi : i + 5 ≤ L) (hv : xs i &&& 31 = 4) (e5 : h 1 = some (.inr (6, f5))) (e6 : h1 10 = some (.inr (7, f6))) (s1 : Sp yX6_plan uX6_plan [.ref 1, .int (xs (i + 1)), .int (xs (i + 2)), .int (xs (i + 3))] n h (some (.int r), n1, h1)) (s2 : Sp yX7_plan uX7_plan [.ref 10, .int (xs (i + 1)), .int (xs (i + 2)), .int (xs (i + 3))] n1 h1 (some (.int r), n1, h2)) (hce : ce + 0 ≤ 600000) (hsl : sl + 0 ≤ 7302250) (hx : J G d (uLn nm) z (ce + 0) (sl + 0) n1 802 (q_l [(0, .ref 0), (1, .ref 1), (2, .ref 10), (3, .int (nI i))]) [] h2) : J G d (uLn nm) z ce sl n 18 (q_l [(0, .ref 0), (1, .ref 1), (2, .ref 10), (3, .int (nI i))]) [] h := by
  refine q_iload_n dL_law_18 rfl ?_
  refine q_aload_n dL_law_19 rfl ?_
  refine q_slen hX dL_law_20 ?_
  refine q_iconst dL_law_21 (v := 5) (by decide) ?_
  refine q_isub dL_law_22 ?_
  refine q_icmp_gt (tgt := 808) dL_law_23 (by decide) (fun h_n => absurd ((l_sub5 hL (by omega)).mp h_n) (by omega)) (fun _ => ?_)
  refine q_aload_n dL_law_26 rfl ?_
  refine q_iload_n dL_law_27 rfl ?_
  refine q_sld hX dL_law_28 (k := i) rfl (by omega) ?_
  refine q_bipush dL_law_29 (v := 31) (by decide) ?_
  refine q_iand dL_law_31 ?_
  refine q_tblIn (off := 272) (tgt := 304) dL_law_32 (by rw [hv]; decide) (by rw [hv]; decide) (by rw [hv]; rfl) (by decide) ?_
  refine q_aload_n dL_law_304 rfl ?_
  refine q_aload_n dL_law_305 rfl ?_
  refine q_iload_n dL_law_306 rfl ?_
  refine q_iconst dL_law_307 (v := 1) (by decide) ?_
  refine q_iadd dL_law_308 ?_
  refine q_sld hX dL_law_309 (k := i + 1) (nI_add i 1) (by omega) ?_
  refine q_aload_n dL_law_310 rfl ?_
  refine q_iload_n dL_law_311 rfl ?_
  refine q_iconst dL_law_312 (v := 2) (by decide) ?_
  refine q_iadd dL_law_313 ?_
  refine q_sld hX dL_law_314 (k := i + 2) (nI_add i 2) (by omega) ?_
  refine q_aload_n dL_law_315 rfl ?_
  refine q_iload_n dL_law_316 rfl ?_
  refine q_iconst dL_law_317 (v := 3) (by decide) ?_
  refine q_iadd dL_law_318 ?_
  refine q_sld hX dL_law_319 (k := i + 3) (nI_add i 3) (by omega) ?_
  refine q_cW s1 dL_law_320 kl_L_32 rfl e5 rfl ⟨q_le rfl, q_le rfl⟩ hce hsl (q_le rfl) ?_
  refine q_aload_n dL_law_323 rfl ?_
  refine q_aload_n dL_law_324 rfl ?_
  refine q_iload_n dL_law_325 rfl ?_
  refine q_iconst dL_law_326 (v := 1) (by decide) ?_
  refine q_iadd dL_law_327 ?_
  refine q_sld hX dL_law_328 (k := i + 1) (nI_add i 1) (by omega) ?_
  refine q_aload_n dL_law_329 rfl ?_
  refine q_iload_n dL_law_330 rfl ?_
  refine q_iconst dL_law_331 (v := 2) (by decide) ?_
  refine q_iadd dL_law_332 ?_
  refine q_sld hX dL_law_333 (k := i + 2) (nI_add i 2) (by omega) ?_
  refine q_aload_n dL_law_334 rfl ?_
  refine q_iload_n dL_law_335 rfl ?_
  refine q_iconst dL_law_336 (v := 3) (by decide) ?_
  refine q_iadd dL_law_337 ?_
  refine q_sld hX dL_law_338 (k := i + 3) (nI_add i 3) (by omega) ?_
  refine q_cW s2 dL_law_339 kl_L_35 rfl e6 rfl ⟨q_le rfl, q_le rfl⟩ hce hsl (q_le rfl) ?_
  refine q_icmp_eq (tgt := 802) dL_law_342 (by decide) (fun _ => ?_) (fun h_n => absurd rfl h_n)
  exact q_lo [(0, .ref 0), (1, .ref 1), (2, .ref 10), (3, .int (nI i))] ⟨rfl, rfl, rfl, rfl, trivial⟩ hx

set_option maxHeartbeats 4000000 in
set_option maxRecDepth 100000 in
theorem lc_planAt {G : q_G} {d : q_D} {z : q_Z} {nm : String} {ce sl n n1 L i : Nat} {xs : Nat → Int32} {h h1 h2 : q_Hp} {f5 f6 : List Value} {r : Int32} (hX : q_scr G d L xs) (hL : L < 2 ^ 30) (hi : i + 5 ≤ L) (hv : xs i &&& 31 = 5) (e5 : h 1 = some (.inr (6, f5))) (e6 : h1 10 = some (.inr (7, f6))) (s1 : Sp yX6_planAt uX6_planAt [.ref 1, .int (xs (i + 1)), .int (xs (i + 2)), .int (xs (i + 3)), .int (xs (i + 4))] n h (some (.int r), n1, h1)) (s2 : Sp yX7_planAt uX7_planAt [.ref 10, .int (xs (i + 1)), .int (xs (i + 2)), .int (xs (i + 3)), .int (xs (i + 4))] n1 h1 (some (.int r), n1, h2)) (hce : ce + 0 ≤ 600000) (hsl : sl + 0 ≤ 7302250) (hx : J G d (uLn nm) z (ce + 0) (sl + 0) n1 802 (q_l [(0, .ref 0), (1, .ref 1), (2, .ref 10), (3, .int (nI i))]) [] h2) : J G d (uLn nm) z ce sl n 18 (q_l [(0, .ref 0), (1, .ref 1), (2, .ref 10), (3, .int (nI i))]) [] h := by
  refine q_iload_n dL_law_18 rfl ?_
  refine q_aload_n dL_law_19 rfl ?_
  refine q_slen hX dL_law_20 ?_
  refine q_iconst dL_law_21 (v := 5) (by decide) ?_
  refine q_isub dL_law_22 ?_
  refine q_icmp_gt (tgt := 808) dL_law_23 (by decide) (fun h_n => absurd ((l_sub5 hL (by omega)).mp h_n) (by omega)) (fun _ => ?_)
  refine q_aload_n dL_law_26 rfl ?_
  refine q_iload_n dL_law_27 rfl ?_
  refine q_sld hX dL_law_28 (k := i) rfl (by omega) ?_
  refine q_bipush dL_law_29 (v := 31) (by decide) ?_
  refine q_iand dL_law_31 ?_
  refine q_tblIn (off := 315) (tgt := 347) dL_law_32 (by rw [hv]; decide) (by rw [hv]; decide) (by rw [hv]; rfl) (by decide) ?_
  refine q_aload_n dL_law_347 rfl ?_
  refine q_aload_n dL_law_348 rfl ?_
  refine q_iload_n dL_law_349 rfl ?_
  refine q_iconst dL_law_350 (v := 1) (by decide) ?_
  refine q_iadd dL_law_351 ?_
  refine q_sld hX dL_law_352 (k := i + 1) (nI_add i 1) (by omega) ?_
  refine q_aload_n dL_law_353 rfl ?_
  refine q_iload_n dL_law_354 rfl ?_
  refine q_iconst dL_law_355 (v := 2) (by decide) ?_
  refine q_iadd dL_law_356 ?_
  refine q_sld hX dL_law_357 (k := i + 2) (nI_add i 2) (by omega) ?_
  refine q_aload_n dL_law_358 rfl ?_
  refine q_iload_n dL_law_359 rfl ?_
  refine q_iconst dL_law_360 (v := 3) (by decide) ?_
  refine q_iadd dL_law_361 ?_
  refine q_sld hX dL_law_362 (k := i + 3) (nI_add i 3) (by omega) ?_
  refine q_aload_n dL_law_363 rfl ?_
  refine q_iload_n dL_law_364 rfl ?_
  refine q_iconst dL_law_365 (v := 4) (by decide) ?_
  refine q_iadd dL_law_366 ?_
  refine q_sld hX dL_law_367 (k := i + 4) (nI_add i 4) (by omega) ?_
  refine q_cW s1 dL_law_368 kl_L_36 rfl e5 rfl ⟨q_le rfl, q_le rfl⟩ hce hsl (q_le rfl) ?_
  refine q_aload_n dL_law_371 rfl ?_
  refine q_aload_n dL_law_372 rfl ?_
  refine q_iload_n dL_law_373 rfl ?_
  refine q_iconst dL_law_374 (v := 1) (by decide) ?_
  refine q_iadd dL_law_375 ?_
  refine q_sld hX dL_law_376 (k := i + 1) (nI_add i 1) (by omega) ?_
  refine q_aload_n dL_law_377 rfl ?_
  refine q_iload_n dL_law_378 rfl ?_
  refine q_iconst dL_law_379 (v := 2) (by decide) ?_
  refine q_iadd dL_law_380 ?_
  refine q_sld hX dL_law_381 (k := i + 2) (nI_add i 2) (by omega) ?_
  refine q_aload_n dL_law_382 rfl ?_
  refine q_iload_n dL_law_383 rfl ?_
  refine q_iconst dL_law_384 (v := 3) (by decide) ?_
  refine q_iadd dL_law_385 ?_
  refine q_sld hX dL_law_386 (k := i + 3) (nI_add i 3) (by omega) ?_
  refine q_aload_n dL_law_387 rfl ?_
  refine q_iload_n dL_law_388 rfl ?_
  refine q_iconst dL_law_389 (v := 4) (by decide) ?_
  refine q_iadd dL_law_390 ?_
  refine q_sld hX dL_law_391 (k := i + 4) (nI_add i 4) (by omega) ?_
  refine q_cW s2 dL_law_392 kl_L_40 rfl e6 rfl ⟨q_le rfl, q_le rfl⟩ hce hsl (q_le rfl) ?_
  refine q_icmp_eq (tgt := 802) dL_law_395 (by decide) (fun _ => ?_) (fun h_n => absurd rfl h_n)
  exact q_lo [(0, .ref 0), (1, .ref 1), (2, .ref 10), (3, .int (nI i))] ⟨rfl, rfl, rfl, rfl, trivial⟩ hx

set_option maxHeartbeats 4000000 in
set_option maxRecDepth 100000 in
theorem lc_coefficient {G : q_G} {d : q_D} {z : q_Z} {nm : String} {ce sl n n1 L i : Nat} {xs : Nat → Int32} {h h1 h2 : q_Hp} {f5 f6 : List Value} {r : Int32} (hX : q_scr G d L xs) (hL : L < 2 ^ 30) (hi : i + 5 ≤ L) (hv : xs i &&& 31 = 6) (e5 : h 1 = some (.inr (6, f5))) (e6 : h1 10 = some (.inr (7, f6))) (s1 : Sp yX6_coefficient uX6_coefficient [.ref 1, .int (xs (i + 1)), .int (xs (i + 2))] n h (some (.int r), n1, h1)) (s2 : Sp yX7_coefficient uX7_coefficient [.ref 10, .int (xs (i + 1)), .int (xs (i + 2))] n1 h1 (some (.int r), n1, h2)) (hce : ce + 0 ≤ 600000) (hsl : sl + 0 ≤ 7302250) (hx : J G d (uLn nm) z (ce + 0) (sl + 0) n1 802 (q_l [(0, .ref 0), (1, .ref 1), (2, .ref 10), (3, .int (nI i))]) [] h2) : J G d (uLn nm) z ce sl n 18 (q_l [(0, .ref 0), (1, .ref 1), (2, .ref 10), (3, .int (nI i))]) [] h := by
  refine q_iload_n dL_law_18 rfl ?_
  refine q_aload_n dL_law_19 rfl ?_
  refine q_slen hX dL_law_20 ?_
  refine q_iconst dL_law_21 (v := 5) (by decide) ?_
  refine q_isub dL_law_22 ?_
  refine q_icmp_gt (tgt := 808) dL_law_23 (by decide) (fun h_n => absurd ((l_sub5 hL (by omega)).mp h_n) (by omega)) (fun _ => ?_)
  refine q_aload_n dL_law_26 rfl ?_
  refine q_iload_n dL_law_27 rfl ?_
  refine q_sld hX dL_law_28 (k := i) rfl (by omega) ?_
  refine q_bipush dL_law_29 (v := 31) (by decide) ?_
  refine q_iand dL_law_31 ?_
  refine q_tblIn (off := 368) (tgt := 400) dL_law_32 (by rw [hv]; decide) (by rw [hv]; decide) (by rw [hv]; rfl) (by decide) ?_
  refine q_aload_n dL_law_400 rfl ?_
  refine q_aload_n dL_law_401 rfl ?_
  refine q_iload_n dL_law_402 rfl ?_
  refine q_iconst dL_law_403 (v := 1) (by decide) ?_
  refine q_iadd dL_law_404 ?_
  refine q_sld hX dL_law_405 (k := i + 1) (nI_add i 1) (by omega) ?_
  refine q_aload_n dL_law_406 rfl ?_
  refine q_iload_n dL_law_407 rfl ?_
  refine q_iconst dL_law_408 (v := 2) (by decide) ?_
  refine q_iadd dL_law_409 ?_
  refine q_sld hX dL_law_410 (k := i + 2) (nI_add i 2) (by omega) ?_
  refine q_cW s1 dL_law_411 kl_L_41 rfl e5 rfl ⟨q_le rfl, q_le rfl⟩ hce hsl (q_le rfl) ?_
  refine q_aload_n dL_law_414 rfl ?_
  refine q_aload_n dL_law_415 rfl ?_
  refine q_iload_n dL_law_416 rfl ?_
  refine q_iconst dL_law_417 (v := 1) (by decide) ?_
  refine q_iadd dL_law_418 ?_
  refine q_sld hX dL_law_419 (k := i + 1) (nI_add i 1) (by omega) ?_
  refine q_aload_n dL_law_420 rfl ?_
  refine q_iload_n dL_law_421 rfl ?_
  refine q_iconst dL_law_422 (v := 2) (by decide) ?_
  refine q_iadd dL_law_423 ?_
  refine q_sld hX dL_law_424 (k := i + 2) (nI_add i 2) (by omega) ?_
  refine q_cW s2 dL_law_425 kl_L_44 rfl e6 rfl ⟨q_le rfl, q_le rfl⟩ hce hsl (q_le rfl) ?_
  refine q_icmp_eq (tgt := 802) dL_law_428 (by decide) (fun _ => ?_) (fun h_n => absurd rfl h_n)
  exact q_lo [(0, .ref 0), (1, .ref 1), (2, .ref 10), (3, .int (nI i))] ⟨rfl, rfl, rfl, rfl, trivial⟩ hx

set_option maxHeartbeats 4000000 in
set_option maxRecDepth 100000 in
theorem lc_about {G : q_G} {d : q_D} {z : q_Z} {nm : String} {ce sl n n1 L i : Nat} {xs : Nat → Int32} {h h1 h2 : q_Hp} {f5 f6 : List Value} {r : Int32} (hX : q_scr G d L xs) (hL : L < 2 ^ 30) (hi : i + 5 ≤ L) (hv : xs i &&& 31 = 7) (e5 : h 1 = some (.inr (6, f5))) (e6 : h1 10 = some (.inr (7, f6))) (s1 : Sp yX6_about uX6_about [.ref 1, .int (xs (i + 1)), .int (xs (i + 2))] n h (some (.int r), n1, h1)) (s2 : Sp yX7_about uX7_about [.ref 10, .int (xs (i + 1)), .int (xs (i + 2))] n1 h1 (some (.int r), n1, h2)) (hce : ce + 0 ≤ 600000) (hsl : sl + 0 ≤ 7302250) (hx : J G d (uLn nm) z (ce + 0) (sl + 0) n1 802 (q_l [(0, .ref 0), (1, .ref 1), (2, .ref 10), (3, .int (nI i))]) [] h2) : J G d (uLn nm) z ce sl n 18 (q_l [(0, .ref 0), (1, .ref 1), (2, .ref 10), (3, .int (nI i))]) [] h := by
  refine q_iload_n dL_law_18 rfl ?_
  refine q_aload_n dL_law_19 rfl ?_
  refine q_slen hX dL_law_20 ?_
  refine q_iconst dL_law_21 (v := 5) (by decide) ?_
  refine q_isub dL_law_22 ?_
  refine q_icmp_gt (tgt := 808) dL_law_23 (by decide) (fun h_n => absurd ((l_sub5 hL (by omega)).mp h_n) (by omega)) (fun _ => ?_)
  refine q_aload_n dL_law_26 rfl ?_
  refine q_iload_n dL_law_27 rfl ?_
  refine q_sld hX dL_law_28 (k := i) rfl (by omega) ?_
  refine q_bipush dL_law_29 (v := 31) (by decide) ?_
  refine q_iand dL_law_31 ?_
  refine q_tblIn (off := 401) (tgt := 433) dL_law_32 (by rw [hv]; decide) (by rw [hv]; decide) (by rw [hv]; rfl) (by decide) ?_
  refine q_aload_n dL_law_433 rfl ?_
  refine q_aload_n dL_law_434 rfl ?_
  refine q_iload_n dL_law_435 rfl ?_
  refine q_iconst dL_law_436 (v := 1) (by decide) ?_
  refine q_iadd dL_law_437 ?_
  refine q_sld hX dL_law_438 (k := i + 1) (nI_add i 1) (by omega) ?_
  refine q_aload_n dL_law_439 rfl ?_
  refine q_iload_n dL_law_440 rfl ?_
  refine q_iconst dL_law_441 (v := 2) (by decide) ?_
  refine q_iadd dL_law_442 ?_
  refine q_sld hX dL_law_443 (k := i + 2) (nI_add i 2) (by omega) ?_
  refine q_cW s1 dL_law_444 kl_L_45 rfl e5 rfl ⟨q_le rfl, q_le rfl⟩ hce hsl (q_le rfl) ?_
  refine q_aload_n dL_law_447 rfl ?_
  refine q_aload_n dL_law_448 rfl ?_
  refine q_iload_n dL_law_449 rfl ?_
  refine q_iconst dL_law_450 (v := 1) (by decide) ?_
  refine q_iadd dL_law_451 ?_
  refine q_sld hX dL_law_452 (k := i + 1) (nI_add i 1) (by omega) ?_
  refine q_aload_n dL_law_453 rfl ?_
  refine q_iload_n dL_law_454 rfl ?_
  refine q_iconst dL_law_455 (v := 2) (by decide) ?_
  refine q_iadd dL_law_456 ?_
  refine q_sld hX dL_law_457 (k := i + 2) (nI_add i 2) (by omega) ?_
  refine q_cW s2 dL_law_458 kl_L_48 rfl e6 rfl ⟨q_le rfl, q_le rfl⟩ hce hsl (q_le rfl) ?_
  refine q_icmp_eq (tgt := 802) dL_law_461 (by decide) (fun _ => ?_) (fun h_n => absurd rfl h_n)
  exact q_lo [(0, .ref 0), (1, .ref 1), (2, .ref 10), (3, .int (nI i))] ⟨rfl, rfl, rfl, rfl, trivial⟩ hx

set_option maxHeartbeats 4000000 in
set_option maxRecDepth 100000 in
theorem lc_norm {G : q_G} {d : q_D} {z : q_Z} {nm : String} {ce sl n n1 L i : Nat} {xs : Nat → Int32} {h h1 h2 : q_Hp} {f5 f6 : List Value} {r : Int64} (hX : q_scr G d L xs) (hL : L < 2 ^ 30) (hi : i + 5 ≤ L) (hv : xs i &&& 31 = 8) (e5 : h 1 = some (.inr (6, f5))) (e6 : h1 10 = some (.inr (7, f6))) (s1 : Sp yX6_norm uX6_norm [.ref 1, .int (xs (i + 1))] n h (some (.long r), n1, h1)) (s2 : Sp yX7_norm uX7_norm [.ref 10, .int (xs (i + 1))] n1 h1 (some (.long r), n1, h2)) (hce : ce + 0 ≤ 600000) (hsl : sl + 0 ≤ 7302250) (hx : J G d (uLn nm) z (ce + 0) (sl + 0) n1 802 (q_l [(0, .ref 0), (1, .ref 1), (2, .ref 10), (3, .int (nI i))]) [] h2) : J G d (uLn nm) z ce sl n 18 (q_l [(0, .ref 0), (1, .ref 1), (2, .ref 10), (3, .int (nI i))]) [] h := by
  refine q_iload_n dL_law_18 rfl ?_
  refine q_aload_n dL_law_19 rfl ?_
  refine q_slen hX dL_law_20 ?_
  refine q_iconst dL_law_21 (v := 5) (by decide) ?_
  refine q_isub dL_law_22 ?_
  refine q_icmp_gt (tgt := 808) dL_law_23 (by decide) (fun h_n => absurd ((l_sub5 hL (by omega)).mp h_n) (by omega)) (fun _ => ?_)
  refine q_aload_n dL_law_26 rfl ?_
  refine q_iload_n dL_law_27 rfl ?_
  refine q_sld hX dL_law_28 (k := i) rfl (by omega) ?_
  refine q_bipush dL_law_29 (v := 31) (by decide) ?_
  refine q_iand dL_law_31 ?_
  refine q_tblIn (off := 434) (tgt := 466) dL_law_32 (by rw [hv]; decide) (by rw [hv]; decide) (by rw [hv]; rfl) (by decide) ?_
  refine q_aload_n dL_law_466 rfl ?_
  refine q_aload_n dL_law_467 rfl ?_
  refine q_iload_n dL_law_468 rfl ?_
  refine q_iconst dL_law_469 (v := 1) (by decide) ?_
  refine q_iadd dL_law_470 ?_
  refine q_sld hX dL_law_471 (k := i + 1) (nI_add i 1) (by omega) ?_
  refine q_cW s1 dL_law_472 kl_L_49 rfl e5 rfl ⟨q_le rfl, q_le rfl⟩ hce hsl (q_le rfl) ?_
  refine q_aload_n dL_law_475 rfl ?_
  refine q_aload_n dL_law_476 rfl ?_
  refine q_iload_n dL_law_477 rfl ?_
  refine q_iconst dL_law_478 (v := 1) (by decide) ?_
  refine q_iadd dL_law_479 ?_
  refine q_sld hX dL_law_480 (k := i + 1) (nI_add i 1) (by omega) ?_
  refine q_cW s2 dL_law_481 kl_L_53 rfl e6 rfl ⟨q_le rfl, q_le rfl⟩ hce hsl (q_le rfl) ?_
  refine q_lcmp_eq (tgt := 802) dL_law_484 dL_law_485 (by decide) (fun _ => ?_) (fun h_n => absurd rfl h_n)
  exact q_lo [(0, .ref 0), (1, .ref 1), (2, .ref 10), (3, .int (nI i))] ⟨rfl, rfl, rfl, rfl, trivial⟩ hx

set_option maxHeartbeats 4000000 in
set_option maxRecDepth 100000 in
theorem lc_join {G : q_G} {d : q_D} {z : q_Z} {nm : String} {ce sl n n1 L i : Nat} {xs : Nat → Int32} {h h1 h2 : q_Hp} {f5 f6 : List Value} {r : Int32} (hX : q_scr G d L xs) (hL : L < 2 ^ 30) (hi : i + 5 ≤ L) (hv : xs i &&& 31 = 9) (e5 : h 1 = some (.inr (6, f5))) (e6 : h1 10 = some (.inr (7, f6))) (s1 : Sp yX6_join uX6_join [.ref 1, .int (xs (i + 1))] n h (some (.int r), n1, h1)) (s2 : Sp yX7_join uX7_join [.ref 10, .int (xs (i + 1))] n1 h1 (some (.int r), n1, h2)) (hce : ce + 0 ≤ 600000) (hsl : sl + 0 ≤ 7302250) (hx : J G d (uLn nm) z (ce + 0) (sl + 0) n1 802 (q_l [(0, .ref 0), (1, .ref 1), (2, .ref 10), (3, .int (nI i))]) [] h2) : J G d (uLn nm) z ce sl n 18 (q_l [(0, .ref 0), (1, .ref 1), (2, .ref 10), (3, .int (nI i))]) [] h := by
  refine q_iload_n dL_law_18 rfl ?_
  refine q_aload_n dL_law_19 rfl ?_
  refine q_slen hX dL_law_20 ?_
  refine q_iconst dL_law_21 (v := 5) (by decide) ?_
  refine q_isub dL_law_22 ?_
  refine q_icmp_gt (tgt := 808) dL_law_23 (by decide) (fun h_n => absurd ((l_sub5 hL (by omega)).mp h_n) (by omega)) (fun _ => ?_)
  refine q_aload_n dL_law_26 rfl ?_
  refine q_iload_n dL_law_27 rfl ?_
  refine q_sld hX dL_law_28 (k := i) rfl (by omega) ?_
  refine q_bipush dL_law_29 (v := 31) (by decide) ?_
  refine q_iand dL_law_31 ?_
  refine q_tblIn (off := 458) (tgt := 490) dL_law_32 (by rw [hv]; decide) (by rw [hv]; decide) (by rw [hv]; rfl) (by decide) ?_
  refine q_aload_n dL_law_490 rfl ?_
  refine q_aload_n dL_law_491 rfl ?_
  refine q_iload_n dL_law_492 rfl ?_
  refine q_iconst dL_law_493 (v := 1) (by decide) ?_
  refine q_iadd dL_law_494 ?_
  refine q_sld hX dL_law_495 (k := i + 1) (nI_add i 1) (by omega) ?_
  refine q_cW s1 dL_law_496 kl_L_54 rfl e5 rfl ⟨q_le rfl, q_le rfl⟩ hce hsl (q_le rfl) ?_
  refine q_aload_n dL_law_499 rfl ?_
  refine q_aload_n dL_law_500 rfl ?_
  refine q_iload_n dL_law_501 rfl ?_
  refine q_iconst dL_law_502 (v := 1) (by decide) ?_
  refine q_iadd dL_law_503 ?_
  refine q_sld hX dL_law_504 (k := i + 1) (nI_add i 1) (by omega) ?_
  refine q_cW s2 dL_law_505 kl_L_58 rfl e6 rfl ⟨q_le rfl, q_le rfl⟩ hce hsl (q_le rfl) ?_
  refine q_icmp_eq (tgt := 802) dL_law_508 (by decide) (fun _ => ?_) (fun h_n => absurd rfl h_n)
  exact q_lo [(0, .ref 0), (1, .ref 1), (2, .ref 10), (3, .int (nI i))] ⟨rfl, rfl, rfl, rfl, trivial⟩ hx

set_option maxHeartbeats 4000000 in
set_option maxRecDepth 100000 in
theorem lc_part {G : q_G} {d : q_D} {z : q_Z} {nm : String} {ce sl n n1 L i : Nat} {xs : Nat → Int32} {h h1 h2 : q_Hp} {f5 f6 : List Value} {r : Int32} (hX : q_scr G d L xs) (hL : L < 2 ^ 30) (hi : i + 5 ≤ L) (hv : xs i &&& 31 = 10) (e5 : h 1 = some (.inr (6, f5))) (e6 : h1 10 = some (.inr (7, f6))) (s1 : Sp yX6_part uX6_part [.ref 1] n h (some (.int r), n1, h1)) (s2 : Sp yX7_part uX7_part [.ref 10] n1 h1 (some (.int r), n1, h2)) (hce : ce + 0 ≤ 600000) (hsl : sl + 0 ≤ 7302250) (hx : J G d (uLn nm) z (ce + 0) (sl + 0) n1 802 (q_l [(0, .ref 0), (1, .ref 1), (2, .ref 10), (3, .int (nI i))]) [] h2) : J G d (uLn nm) z ce sl n 18 (q_l [(0, .ref 0), (1, .ref 1), (2, .ref 10), (3, .int (nI i))]) [] h := by
  refine q_iload_n dL_law_18 rfl ?_
  refine q_aload_n dL_law_19 rfl ?_
  refine q_slen hX dL_law_20 ?_
  refine q_iconst dL_law_21 (v := 5) (by decide) ?_
  refine q_isub dL_law_22 ?_
  refine q_icmp_gt (tgt := 808) dL_law_23 (by decide) (fun h_n => absurd ((l_sub5 hL (by omega)).mp h_n) (by omega)) (fun _ => ?_)
  refine q_aload_n dL_law_26 rfl ?_
  refine q_iload_n dL_law_27 rfl ?_
  refine q_sld hX dL_law_28 (k := i) rfl (by omega) ?_
  refine q_bipush dL_law_29 (v := 31) (by decide) ?_
  refine q_iand dL_law_31 ?_
  refine q_tblIn (off := 481) (tgt := 513) dL_law_32 (by rw [hv]; decide) (by rw [hv]; decide) (by rw [hv]; rfl) (by decide) ?_
  refine q_aload_n dL_law_513 rfl ?_
  refine q_cW s1 dL_law_514 kl_L_59 rfl e5 rfl ⟨q_le rfl, q_le rfl⟩ hce hsl (q_le rfl) ?_
  refine q_aload_n dL_law_517 rfl ?_
  refine q_cW s2 dL_law_518 kl_L_63 rfl e6 rfl ⟨q_le rfl, q_le rfl⟩ hce hsl (q_le rfl) ?_
  refine q_icmp_eq (tgt := 802) dL_law_521 (by decide) (fun _ => ?_) (fun h_n => absurd rfl h_n)
  exact q_lo [(0, .ref 0), (1, .ref 1), (2, .ref 10), (3, .int (nI i))] ⟨rfl, rfl, rfl, rfl, trivial⟩ hx

set_option maxHeartbeats 4000000 in
set_option maxRecDepth 100000 in
theorem lc_put {G : q_G} {d : q_D} {z : q_Z} {nm : String} {ce sl n n1 L i : Nat} {xs : Nat → Int32} {h h1 h2 : q_Hp} {f5 f6 : List Value} {r : Int32} (hX : q_scr G d L xs) (hL : L < 2 ^ 30) (hi : i + 5 ≤ L) (hv : xs i &&& 31 = 11) (e5 : h 1 = some (.inr (6, f5))) (e6 : h1 10 = some (.inr (7, f6))) (s1 : Sp yX6_put uX6_put [.ref 1, .int (xs (i + 1))] n h (some (.int r), n1, h1)) (s2 : Sp yX7_put uX7_put [.ref 10, .int (xs (i + 1))] n1 h1 (some (.int r), n1, h2)) (hce : ce + 0 ≤ 600000) (hsl : sl + 0 ≤ 7302250) (hx : J G d (uLn nm) z (ce + 0) (sl + 0) n1 802 (q_l [(0, .ref 0), (1, .ref 1), (2, .ref 10), (3, .int (nI i))]) [] h2) : J G d (uLn nm) z ce sl n 18 (q_l [(0, .ref 0), (1, .ref 1), (2, .ref 10), (3, .int (nI i))]) [] h := by
  refine q_iload_n dL_law_18 rfl ?_
  refine q_aload_n dL_law_19 rfl ?_
  refine q_slen hX dL_law_20 ?_
  refine q_iconst dL_law_21 (v := 5) (by decide) ?_
  refine q_isub dL_law_22 ?_
  refine q_icmp_gt (tgt := 808) dL_law_23 (by decide) (fun h_n => absurd ((l_sub5 hL (by omega)).mp h_n) (by omega)) (fun _ => ?_)
  refine q_aload_n dL_law_26 rfl ?_
  refine q_iload_n dL_law_27 rfl ?_
  refine q_sld hX dL_law_28 (k := i) rfl (by omega) ?_
  refine q_bipush dL_law_29 (v := 31) (by decide) ?_
  refine q_iand dL_law_31 ?_
  refine q_tblIn (off := 494) (tgt := 526) dL_law_32 (by rw [hv]; decide) (by rw [hv]; decide) (by rw [hv]; rfl) (by decide) ?_
  refine q_aload_n dL_law_526 rfl ?_
  refine q_aload_n dL_law_527 rfl ?_
  refine q_iload_n dL_law_528 rfl ?_
  refine q_iconst dL_law_529 (v := 1) (by decide) ?_
  refine q_iadd dL_law_530 ?_
  refine q_sld hX dL_law_531 (k := i + 1) (nI_add i 1) (by omega) ?_
  refine q_cW s1 dL_law_532 kl_L_64 rfl e5 rfl ⟨q_le rfl, q_le rfl⟩ hce hsl (q_le rfl) ?_
  refine q_aload_n dL_law_535 rfl ?_
  refine q_aload_n dL_law_536 rfl ?_
  refine q_iload_n dL_law_537 rfl ?_
  refine q_iconst dL_law_538 (v := 1) (by decide) ?_
  refine q_iadd dL_law_539 ?_
  refine q_sld hX dL_law_540 (k := i + 1) (nI_add i 1) (by omega) ?_
  refine q_cW s2 dL_law_541 kl_L_67 rfl e6 rfl ⟨q_le rfl, q_le rfl⟩ hce hsl (q_le rfl) ?_
  refine q_icmp_eq (tgt := 802) dL_law_544 (by decide) (fun _ => ?_) (fun h_n => absurd rfl h_n)
  exact q_lo [(0, .ref 0), (1, .ref 1), (2, .ref 10), (3, .int (nI i))] ⟨rfl, rfl, rfl, rfl, trivial⟩ hx

set_option maxHeartbeats 4000000 in
set_option maxRecDepth 100000 in
theorem lc_ramp {G : q_G} {d : q_D} {z : q_Z} {nm : String} {ce sl n n1 L i : Nat} {xs : Nat → Int32} {h h1 h2 : q_Hp} {f5 f6 : List Value} {r : Int32} (hX : q_scr G d L xs) (hL : L < 2 ^ 30) (hi : i + 5 ≤ L) (hv : xs i &&& 31 = 12) (e5 : h 1 = some (.inr (6, f5))) (e6 : h1 10 = some (.inr (7, f6))) (s1 : Sp yX6_ramp uX6_ramp [.ref 1, .int (xs (i + 1)), .int (xs (i + 2)), .int (xs (i + 3))] n h (some (.int r), n1, h1)) (s2 : Sp yX7_ramp uX7_ramp [.ref 10, .int (xs (i + 1)), .int (xs (i + 2)), .int (xs (i + 3))] n1 h1 (some (.int r), n1, h2)) (hce : ce + 0 ≤ 600000) (hsl : sl + 0 ≤ 7302250) (hx : J G d (uLn nm) z (ce + 0) (sl + 0) n1 802 (q_l [(0, .ref 0), (1, .ref 1), (2, .ref 10), (3, .int (nI i))]) [] h2) : J G d (uLn nm) z ce sl n 18 (q_l [(0, .ref 0), (1, .ref 1), (2, .ref 10), (3, .int (nI i))]) [] h := by
  refine q_iload_n dL_law_18 rfl ?_
  refine q_aload_n dL_law_19 rfl ?_
  refine q_slen hX dL_law_20 ?_
  refine q_iconst dL_law_21 (v := 5) (by decide) ?_
  refine q_isub dL_law_22 ?_
  refine q_icmp_gt (tgt := 808) dL_law_23 (by decide) (fun h_n => absurd ((l_sub5 hL (by omega)).mp h_n) (by omega)) (fun _ => ?_)
  refine q_aload_n dL_law_26 rfl ?_
  refine q_iload_n dL_law_27 rfl ?_
  refine q_sld hX dL_law_28 (k := i) rfl (by omega) ?_
  refine q_bipush dL_law_29 (v := 31) (by decide) ?_
  refine q_iand dL_law_31 ?_
  refine q_tblIn (off := 517) (tgt := 549) dL_law_32 (by rw [hv]; decide) (by rw [hv]; decide) (by rw [hv]; rfl) (by decide) ?_
  refine q_aload_n dL_law_549 rfl ?_
  refine q_aload_n dL_law_550 rfl ?_
  refine q_iload_n dL_law_551 rfl ?_
  refine q_iconst dL_law_552 (v := 1) (by decide) ?_
  refine q_iadd dL_law_553 ?_
  refine q_sld hX dL_law_554 (k := i + 1) (nI_add i 1) (by omega) ?_
  refine q_aload_n dL_law_555 rfl ?_
  refine q_iload_n dL_law_556 rfl ?_
  refine q_iconst dL_law_557 (v := 2) (by decide) ?_
  refine q_iadd dL_law_558 ?_
  refine q_sld hX dL_law_559 (k := i + 2) (nI_add i 2) (by omega) ?_
  refine q_aload_n dL_law_560 rfl ?_
  refine q_iload_n dL_law_561 rfl ?_
  refine q_iconst dL_law_562 (v := 3) (by decide) ?_
  refine q_iadd dL_law_563 ?_
  refine q_sld hX dL_law_564 (k := i + 3) (nI_add i 3) (by omega) ?_
  refine q_cW s1 dL_law_565 kl_L_68 rfl e5 rfl ⟨q_le rfl, q_le rfl⟩ hce hsl (q_le rfl) ?_
  refine q_aload_n dL_law_568 rfl ?_
  refine q_aload_n dL_law_569 rfl ?_
  refine q_iload_n dL_law_570 rfl ?_
  refine q_iconst dL_law_571 (v := 1) (by decide) ?_
  refine q_iadd dL_law_572 ?_
  refine q_sld hX dL_law_573 (k := i + 1) (nI_add i 1) (by omega) ?_
  refine q_aload_n dL_law_574 rfl ?_
  refine q_iload_n dL_law_575 rfl ?_
  refine q_iconst dL_law_576 (v := 2) (by decide) ?_
  refine q_iadd dL_law_577 ?_
  refine q_sld hX dL_law_578 (k := i + 2) (nI_add i 2) (by omega) ?_
  refine q_aload_n dL_law_579 rfl ?_
  refine q_iload_n dL_law_580 rfl ?_
  refine q_iconst dL_law_581 (v := 3) (by decide) ?_
  refine q_iadd dL_law_582 ?_
  refine q_sld hX dL_law_583 (k := i + 3) (nI_add i 3) (by omega) ?_
  refine q_cW s2 dL_law_584 kl_L_71 rfl e6 rfl ⟨q_le rfl, q_le rfl⟩ hce hsl (q_le rfl) ?_
  refine q_icmp_eq (tgt := 802) dL_law_587 (by decide) (fun _ => ?_) (fun h_n => absurd rfl h_n)
  exact q_lo [(0, .ref 0), (1, .ref 1), (2, .ref 10), (3, .int (nI i))] ⟨rfl, rfl, rfl, rfl, trivial⟩ hx

set_option maxHeartbeats 4000000 in
set_option maxRecDepth 100000 in
theorem lc_out {G : q_G} {d : q_D} {z : q_Z} {nm : String} {ce sl n n1 L i : Nat} {xs : Nat → Int32} {h h1 h2 : q_Hp} {f5 f6 : List Value} {r : Int32} (hX : q_scr G d L xs) (hL : L < 2 ^ 30) (hi : i + 5 ≤ L) (hv : xs i &&& 31 = 13) (e5 : h 1 = some (.inr (6, f5))) (e6 : h1 10 = some (.inr (7, f6))) (s1 : Sp yX6_out uX6_out [.ref 1, .int (xs (i + 1))] n h (some (.int r), n1, h1)) (s2 : Sp yX7_out uX7_out [.ref 10, .int (xs (i + 1))] n1 h1 (some (.int r), n1, h2)) (hce : ce + 0 ≤ 600000) (hsl : sl + 0 ≤ 7302250) (hx : J G d (uLn nm) z (ce + 0) (sl + 0) n1 802 (q_l [(0, .ref 0), (1, .ref 1), (2, .ref 10), (3, .int (nI i))]) [] h2) : J G d (uLn nm) z ce sl n 18 (q_l [(0, .ref 0), (1, .ref 1), (2, .ref 10), (3, .int (nI i))]) [] h := by
  refine q_iload_n dL_law_18 rfl ?_
  refine q_aload_n dL_law_19 rfl ?_
  refine q_slen hX dL_law_20 ?_
  refine q_iconst dL_law_21 (v := 5) (by decide) ?_
  refine q_isub dL_law_22 ?_
  refine q_icmp_gt (tgt := 808) dL_law_23 (by decide) (fun h_n => absurd ((l_sub5 hL (by omega)).mp h_n) (by omega)) (fun _ => ?_)
  refine q_aload_n dL_law_26 rfl ?_
  refine q_iload_n dL_law_27 rfl ?_
  refine q_sld hX dL_law_28 (k := i) rfl (by omega) ?_
  refine q_bipush dL_law_29 (v := 31) (by decide) ?_
  refine q_iand dL_law_31 ?_
  refine q_tblIn (off := 560) (tgt := 592) dL_law_32 (by rw [hv]; decide) (by rw [hv]; decide) (by rw [hv]; rfl) (by decide) ?_
  refine q_aload_n dL_law_592 rfl ?_
  refine q_aload_n dL_law_593 rfl ?_
  refine q_iload_n dL_law_594 rfl ?_
  refine q_iconst dL_law_595 (v := 1) (by decide) ?_
  refine q_iadd dL_law_596 ?_
  refine q_sld hX dL_law_597 (k := i + 1) (nI_add i 1) (by omega) ?_
  refine q_cW s1 dL_law_598 kl_L_72 rfl e5 rfl ⟨q_le rfl, q_le rfl⟩ hce hsl (q_le rfl) ?_
  refine q_aload_n dL_law_601 rfl ?_
  refine q_aload_n dL_law_602 rfl ?_
  refine q_iload_n dL_law_603 rfl ?_
  refine q_iconst dL_law_604 (v := 1) (by decide) ?_
  refine q_iadd dL_law_605 ?_
  refine q_sld hX dL_law_606 (k := i + 1) (nI_add i 1) (by omega) ?_
  refine q_cW s2 dL_law_607 kl_L_75 rfl e6 rfl ⟨q_le rfl, q_le rfl⟩ hce hsl (q_le rfl) ?_
  refine q_icmp_eq (tgt := 802) dL_law_610 (by decide) (fun _ => ?_) (fun h_n => absurd rfl h_n)
  exact q_lo [(0, .ref 0), (1, .ref 1), (2, .ref 10), (3, .int (nI i))] ⟨rfl, rfl, rfl, rfl, trivial⟩ hx

set_option maxHeartbeats 4000000 in
set_option maxRecDepth 100000 in
theorem lc_empty {G : q_G} {d : q_D} {z : q_Z} {nm : String} {ce sl n n1 L i : Nat} {xs : Nat → Int32} {h h1 h2 : q_Hp} {f5 f6 : List Value} {r : Int32} (hX : q_scr G d L xs) (hL : L < 2 ^ 30) (hi : i + 5 ≤ L) (hv : xs i &&& 31 = 14) (e5 : h 1 = some (.inr (6, f5))) (e6 : h1 10 = some (.inr (7, f6))) (s1 : Sp yX6_empty uX6_empty [.ref 1] n h (some (.int r), n1, h1)) (s2 : Sp yX7_empty uX7_empty [.ref 10] n1 h1 (some (.int r), n1, h2)) (hce : ce + 0 ≤ 600000) (hsl : sl + 0 ≤ 7302250) (hx : J G d (uLn nm) z (ce + 0) (sl + 0) n1 802 (q_l [(0, .ref 0), (1, .ref 1), (2, .ref 10), (3, .int (nI i))]) [] h2) : J G d (uLn nm) z ce sl n 18 (q_l [(0, .ref 0), (1, .ref 1), (2, .ref 10), (3, .int (nI i))]) [] h := by
  refine q_iload_n dL_law_18 rfl ?_
  refine q_aload_n dL_law_19 rfl ?_
  refine q_slen hX dL_law_20 ?_
  refine q_iconst dL_law_21 (v := 5) (by decide) ?_
  refine q_isub dL_law_22 ?_
  refine q_icmp_gt (tgt := 808) dL_law_23 (by decide) (fun h_n => absurd ((l_sub5 hL (by omega)).mp h_n) (by omega)) (fun _ => ?_)
  refine q_aload_n dL_law_26 rfl ?_
  refine q_iload_n dL_law_27 rfl ?_
  refine q_sld hX dL_law_28 (k := i) rfl (by omega) ?_
  refine q_bipush dL_law_29 (v := 31) (by decide) ?_
  refine q_iand dL_law_31 ?_
  refine q_tblIn (off := 583) (tgt := 615) dL_law_32 (by rw [hv]; decide) (by rw [hv]; decide) (by rw [hv]; rfl) (by decide) ?_
  refine q_aload_n dL_law_615 rfl ?_
  refine q_cW s1 dL_law_616 kl_L_76 rfl e5 rfl ⟨q_le rfl, q_le rfl⟩ hce hsl (q_le rfl) ?_
  refine q_aload_n dL_law_619 rfl ?_
  refine q_cW s2 dL_law_620 kl_L_79 rfl e6 rfl ⟨q_le rfl, q_le rfl⟩ hce hsl (q_le rfl) ?_
  refine q_icmp_eq (tgt := 802) dL_law_623 (by decide) (fun _ => ?_) (fun h_n => absurd rfl h_n)
  exact q_lo [(0, .ref 0), (1, .ref 1), (2, .ref 10), (3, .int (nI i))] ⟨rfl, rfl, rfl, rfl, trivial⟩ hx

set_option maxHeartbeats 4000000 in
set_option maxRecDepth 100000 in
theorem lc_reset {G : q_G} {d : q_D} {z : q_Z} {nm : String} {ce sl n n1 L i : Nat} {xs : Nat → Int32} {h h1 h2 : q_Hp} {f5 f6 : List Value} {r : Int32} (hX : q_scr G d L xs) (hL : L < 2 ^ 30) (hi : i + 5 ≤ L) (hv : xs i &&& 31 = 15) (e5 : h 1 = some (.inr (6, f5))) (e6 : h1 10 = some (.inr (7, f6))) (s1 : Sp yX6_reset uX6_reset [.ref 1] n h (some (.int r), n1, h1)) (s2 : Sp yX7_reset uX7_reset [.ref 10] n1 h1 (some (.int r), n1, h2)) (hce : ce + 0 ≤ 600000) (hsl : sl + 0 ≤ 7302250) (hx : J G d (uLn nm) z (ce + 0) (sl + 0) n1 802 (q_l [(0, .ref 0), (1, .ref 1), (2, .ref 10), (3, .int (nI i))]) [] h2) : J G d (uLn nm) z ce sl n 18 (q_l [(0, .ref 0), (1, .ref 1), (2, .ref 10), (3, .int (nI i))]) [] h := by
  refine q_iload_n dL_law_18 rfl ?_
  refine q_aload_n dL_law_19 rfl ?_
  refine q_slen hX dL_law_20 ?_
  refine q_iconst dL_law_21 (v := 5) (by decide) ?_
  refine q_isub dL_law_22 ?_
  refine q_icmp_gt (tgt := 808) dL_law_23 (by decide) (fun h_n => absurd ((l_sub5 hL (by omega)).mp h_n) (by omega)) (fun _ => ?_)
  refine q_aload_n dL_law_26 rfl ?_
  refine q_iload_n dL_law_27 rfl ?_
  refine q_sld hX dL_law_28 (k := i) rfl (by omega) ?_
  refine q_bipush dL_law_29 (v := 31) (by decide) ?_
  refine q_iand dL_law_31 ?_
  refine q_tblIn (off := 596) (tgt := 628) dL_law_32 (by rw [hv]; decide) (by rw [hv]; decide) (by rw [hv]; rfl) (by decide) ?_
  refine q_aload_n dL_law_628 rfl ?_
  refine q_cW s1 dL_law_629 kl_L_80 rfl e5 rfl ⟨q_le rfl, q_le rfl⟩ hce hsl (q_le rfl) ?_
  refine q_aload_n dL_law_632 rfl ?_
  refine q_cW s2 dL_law_633 kl_L_83 rfl e6 rfl ⟨q_le rfl, q_le rfl⟩ hce hsl (q_le rfl) ?_
  refine q_icmp_eq (tgt := 802) dL_law_636 (by decide) (fun _ => ?_) (fun h_n => absurd rfl h_n)
  exact q_lo [(0, .ref 0), (1, .ref 1), (2, .ref 10), (3, .int (nI i))] ⟨rfl, rfl, rfl, rfl, trivial⟩ hx

set_option maxHeartbeats 4000000 in
set_option maxRecDepth 100000 in
theorem lc_through {G : q_G} {d : q_D} {z : q_Z} {nm : String} {ce sl n n1 L i : Nat} {xs : Nat → Int32} {h h1 h2 : q_Hp} {f5 f6 : List Value} {r : Int32} (hX : q_scr G d L xs) (hL : L < 2 ^ 30) (hi : i + 5 ≤ L) (hv : xs i &&& 31 = 16) (e5 : h 1 = some (.inr (6, f5))) (e6 : h1 10 = some (.inr (7, f6))) (s1 : Sp yX6_through uX6_through [.ref 1, .int (xs (i + 1)), .int (xs (i + 2))] n h (some (.int r), n1, h1)) (s2 : Sp yX7_through uX7_through [.ref 10, .int (xs (i + 1)), .int (xs (i + 2))] n1 h1 (some (.int r), n1, h2)) (hce : ce + 0 ≤ 600000) (hsl : sl + 0 ≤ 7302250) (hx : J G d (uLn nm) z (ce + 0) (sl + 0) n1 802 (q_l [(0, .ref 0), (1, .ref 1), (2, .ref 10), (3, .int (nI i))]) [] h2) : J G d (uLn nm) z ce sl n 18 (q_l [(0, .ref 0), (1, .ref 1), (2, .ref 10), (3, .int (nI i))]) [] h := by
  refine q_iload_n dL_law_18 rfl ?_
  refine q_aload_n dL_law_19 rfl ?_
  refine q_slen hX dL_law_20 ?_
  refine q_iconst dL_law_21 (v := 5) (by decide) ?_
  refine q_isub dL_law_22 ?_
  refine q_icmp_gt (tgt := 808) dL_law_23 (by decide) (fun h_n => absurd ((l_sub5 hL (by omega)).mp h_n) (by omega)) (fun _ => ?_)
  refine q_aload_n dL_law_26 rfl ?_
  refine q_iload_n dL_law_27 rfl ?_
  refine q_sld hX dL_law_28 (k := i) rfl (by omega) ?_
  refine q_bipush dL_law_29 (v := 31) (by decide) ?_
  refine q_iand dL_law_31 ?_
  refine q_tblIn (off := 609) (tgt := 641) dL_law_32 (by rw [hv]; decide) (by rw [hv]; decide) (by rw [hv]; rfl) (by decide) ?_
  refine q_aload_n dL_law_641 rfl ?_
  refine q_aload_n dL_law_642 rfl ?_
  refine q_iload_n dL_law_643 rfl ?_
  refine q_iconst dL_law_644 (v := 1) (by decide) ?_
  refine q_iadd dL_law_645 ?_
  refine q_sld hX dL_law_646 (k := i + 1) (nI_add i 1) (by omega) ?_
  refine q_aload_n dL_law_647 rfl ?_
  refine q_iload_n dL_law_648 rfl ?_
  refine q_iconst dL_law_649 (v := 2) (by decide) ?_
  refine q_iadd dL_law_650 ?_
  refine q_sld hX dL_law_651 (k := i + 2) (nI_add i 2) (by omega) ?_
  refine q_cW s1 dL_law_652 kl_L_84 rfl e5 rfl ⟨q_le rfl, q_le rfl⟩ hce hsl (q_le rfl) ?_
  refine q_aload_n dL_law_655 rfl ?_
  refine q_aload_n dL_law_656 rfl ?_
  refine q_iload_n dL_law_657 rfl ?_
  refine q_iconst dL_law_658 (v := 1) (by decide) ?_
  refine q_iadd dL_law_659 ?_
  refine q_sld hX dL_law_660 (k := i + 1) (nI_add i 1) (by omega) ?_
  refine q_aload_n dL_law_661 rfl ?_
  refine q_iload_n dL_law_662 rfl ?_
  refine q_iconst dL_law_663 (v := 2) (by decide) ?_
  refine q_iadd dL_law_664 ?_
  refine q_sld hX dL_law_665 (k := i + 2) (nI_add i 2) (by omega) ?_
  refine q_cW s2 dL_law_666 kl_L_87 rfl e6 rfl ⟨q_le rfl, q_le rfl⟩ hce hsl (q_le rfl) ?_
  refine q_icmp_eq (tgt := 802) dL_law_669 (by decide) (fun _ => ?_) (fun h_n => absurd rfl h_n)
  exact q_lo [(0, .ref 0), (1, .ref 1), (2, .ref 10), (3, .int (nI i))] ⟨rfl, rfl, rfl, rfl, trivial⟩ hx

set_option maxHeartbeats 4000000 in
set_option maxRecDepth 100000 in
theorem lc_told {G : q_G} {d : q_D} {z : q_Z} {nm : String} {ce sl n n1 L i : Nat} {xs : Nat → Int32} {h h1 h2 : q_Hp} {f5 f6 : List Value} {r : Int64} (hX : q_scr G d L xs) (hL : L < 2 ^ 30) (hi : i + 5 ≤ L) (hv : xs i &&& 31 = 17) (e5 : h 1 = some (.inr (6, f5))) (e6 : h1 10 = some (.inr (7, f6))) (s1 : Sp yX6_told uX6_told [.ref 1, .int (xs (i + 1)), .int (xs (i + 2))] n h (some (.long r), n1, h1)) (s2 : Sp yX7_told uX7_told [.ref 10, .int (xs (i + 1)), .int (xs (i + 2))] n1 h1 (some (.long r), n1, h2)) (hce : ce + 0 ≤ 600000) (hsl : sl + 0 ≤ 7302250) (hx : J G d (uLn nm) z (ce + 0) (sl + 0) n1 802 (q_l [(0, .ref 0), (1, .ref 1), (2, .ref 10), (3, .int (nI i))]) [] h2) : J G d (uLn nm) z ce sl n 18 (q_l [(0, .ref 0), (1, .ref 1), (2, .ref 10), (3, .int (nI i))]) [] h := by
  refine q_iload_n dL_law_18 rfl ?_
  refine q_aload_n dL_law_19 rfl ?_
  refine q_slen hX dL_law_20 ?_
  refine q_iconst dL_law_21 (v := 5) (by decide) ?_
  refine q_isub dL_law_22 ?_
  refine q_icmp_gt (tgt := 808) dL_law_23 (by decide) (fun h_n => absurd ((l_sub5 hL (by omega)).mp h_n) (by omega)) (fun _ => ?_)
  refine q_aload_n dL_law_26 rfl ?_
  refine q_iload_n dL_law_27 rfl ?_
  refine q_sld hX dL_law_28 (k := i) rfl (by omega) ?_
  refine q_bipush dL_law_29 (v := 31) (by decide) ?_
  refine q_iand dL_law_31 ?_
  refine q_tblIn (off := 642) (tgt := 674) dL_law_32 (by rw [hv]; decide) (by rw [hv]; decide) (by rw [hv]; rfl) (by decide) ?_
  refine q_aload_n dL_law_674 rfl ?_
  refine q_aload_n dL_law_675 rfl ?_
  refine q_iload_n dL_law_676 rfl ?_
  refine q_iconst dL_law_677 (v := 1) (by decide) ?_
  refine q_iadd dL_law_678 ?_
  refine q_sld hX dL_law_679 (k := i + 1) (nI_add i 1) (by omega) ?_
  refine q_aload_n dL_law_680 rfl ?_
  refine q_iload_n dL_law_681 rfl ?_
  refine q_iconst dL_law_682 (v := 2) (by decide) ?_
  refine q_iadd dL_law_683 ?_
  refine q_sld hX dL_law_684 (k := i + 2) (nI_add i 2) (by omega) ?_
  refine q_cW s1 dL_law_685 kl_L_88 rfl e5 rfl ⟨q_le rfl, q_le rfl⟩ hce hsl (q_le rfl) ?_
  refine q_aload_n dL_law_688 rfl ?_
  refine q_aload_n dL_law_689 rfl ?_
  refine q_iload_n dL_law_690 rfl ?_
  refine q_iconst dL_law_691 (v := 1) (by decide) ?_
  refine q_iadd dL_law_692 ?_
  refine q_sld hX dL_law_693 (k := i + 1) (nI_add i 1) (by omega) ?_
  refine q_aload_n dL_law_694 rfl ?_
  refine q_iload_n dL_law_695 rfl ?_
  refine q_iconst dL_law_696 (v := 2) (by decide) ?_
  refine q_iadd dL_law_697 ?_
  refine q_sld hX dL_law_698 (k := i + 2) (nI_add i 2) (by omega) ?_
  refine q_cW s2 dL_law_699 kl_L_92 rfl e6 rfl ⟨q_le rfl, q_le rfl⟩ hce hsl (q_le rfl) ?_
  refine q_lcmp_eq (tgt := 802) dL_law_702 dL_law_703 (by decide) (fun _ => ?_) (fun h_n => absurd rfl h_n)
  exact q_lo [(0, .ref 0), (1, .ref 1), (2, .ref 10), (3, .int (nI i))] ⟨rfl, rfl, rfl, rfl, trivial⟩ hx

set_option maxHeartbeats 4000000 in
set_option maxRecDepth 100000 in
theorem lc_near {G : q_G} {d : q_D} {z : q_Z} {nm : String} {ce sl n n1 L i : Nat} {xs : Nat → Int32} {h h1 h2 : q_Hp} {f5 f6 : List Value} {r : Int32} (hX : q_scr G d L xs) (hL : L < 2 ^ 30) (hi : i + 5 ≤ L) (hv : xs i &&& 31 = 18) (e5 : h 1 = some (.inr (6, f5))) (e6 : h1 10 = some (.inr (7, f6))) (s1 : Sp yX6_near uX6_near [.ref 1, .int (xs (i + 1))] n h (some (.int r), n1, h1)) (s2 : Sp yX7_near uX7_near [.ref 10, .int (xs (i + 1))] n1 h1 (some (.int r), n1, h2)) (hce : ce + 0 ≤ 600000) (hsl : sl + 0 ≤ 7302250) (hx : J G d (uLn nm) z (ce + 0) (sl + 0) n1 802 (q_l [(0, .ref 0), (1, .ref 1), (2, .ref 10), (3, .int (nI i))]) [] h2) : J G d (uLn nm) z ce sl n 18 (q_l [(0, .ref 0), (1, .ref 1), (2, .ref 10), (3, .int (nI i))]) [] h := by
  refine q_iload_n dL_law_18 rfl ?_
  refine q_aload_n dL_law_19 rfl ?_
  refine q_slen hX dL_law_20 ?_
  refine q_iconst dL_law_21 (v := 5) (by decide) ?_
  refine q_isub dL_law_22 ?_
  refine q_icmp_gt (tgt := 808) dL_law_23 (by decide) (fun h_n => absurd ((l_sub5 hL (by omega)).mp h_n) (by omega)) (fun _ => ?_)
  refine q_aload_n dL_law_26 rfl ?_
  refine q_iload_n dL_law_27 rfl ?_
  refine q_sld hX dL_law_28 (k := i) rfl (by omega) ?_
  refine q_bipush dL_law_29 (v := 31) (by decide) ?_
  refine q_iand dL_law_31 ?_
  refine q_tblIn (off := 676) (tgt := 708) dL_law_32 (by rw [hv]; decide) (by rw [hv]; decide) (by rw [hv]; rfl) (by decide) ?_
  refine q_aload_n dL_law_708 rfl ?_
  refine q_aload_n dL_law_709 rfl ?_
  refine q_iload_n dL_law_710 rfl ?_
  refine q_iconst dL_law_711 (v := 1) (by decide) ?_
  refine q_iadd dL_law_712 ?_
  refine q_sld hX dL_law_713 (k := i + 1) (nI_add i 1) (by omega) ?_
  refine q_cW s1 dL_law_714 kl_L_93 rfl e5 rfl ⟨q_le rfl, q_le rfl⟩ hce hsl (q_le rfl) ?_
  refine q_aload_n dL_law_717 rfl ?_
  refine q_aload_n dL_law_718 rfl ?_
  refine q_iload_n dL_law_719 rfl ?_
  refine q_iconst dL_law_720 (v := 1) (by decide) ?_
  refine q_iadd dL_law_721 ?_
  refine q_sld hX dL_law_722 (k := i + 1) (nI_add i 1) (by omega) ?_
  refine q_cW s2 dL_law_723 kl_L_96 rfl e6 rfl ⟨q_le rfl, q_le rfl⟩ hce hsl (q_le rfl) ?_
  refine q_icmp_eq (tgt := 802) dL_law_726 (by decide) (fun _ => ?_) (fun h_n => absurd rfl h_n)
  exact q_lo [(0, .ref 0), (1, .ref 1), (2, .ref 10), (3, .int (nI i))] ⟨rfl, rfl, rfl, rfl, trivial⟩ hx

set_option maxHeartbeats 4000000 in
set_option maxRecDepth 100000 in
theorem lc_counted {G : q_G} {d : q_D} {z : q_Z} {nm : String} {ce sl n n1 L i : Nat} {xs : Nat → Int32} {h h1 h2 : q_Hp} {f5 f6 : List Value} {r : Int64} (hX : q_scr G d L xs) (hL : L < 2 ^ 30) (hi : i + 5 ≤ L) (hv : xs i &&& 31 = 19) (e5 : h 1 = some (.inr (6, f5))) (e6 : h1 10 = some (.inr (7, f6))) (s1 : Sp yX6_counted uX6_counted [.ref 1, .int (xs (i + 1)), .int (xs (i + 2))] n h (some (.long r), n1, h1)) (s2 : Sp yX7_counted uX7_counted [.ref 10, .int (xs (i + 1)), .int (xs (i + 2))] n1 h1 (some (.long r), n1, h2)) (hce : ce + 0 ≤ 600000) (hsl : sl + 0 ≤ 7302250) (hx : J G d (uLn nm) z (ce + 0) (sl + 0) n1 802 (q_l [(0, .ref 0), (1, .ref 1), (2, .ref 10), (3, .int (nI i))]) [] h2) : J G d (uLn nm) z ce sl n 18 (q_l [(0, .ref 0), (1, .ref 1), (2, .ref 10), (3, .int (nI i))]) [] h := by
  refine q_iload_n dL_law_18 rfl ?_
  refine q_aload_n dL_law_19 rfl ?_
  refine q_slen hX dL_law_20 ?_
  refine q_iconst dL_law_21 (v := 5) (by decide) ?_
  refine q_isub dL_law_22 ?_
  refine q_icmp_gt (tgt := 808) dL_law_23 (by decide) (fun h_n => absurd ((l_sub5 hL (by omega)).mp h_n) (by omega)) (fun _ => ?_)
  refine q_aload_n dL_law_26 rfl ?_
  refine q_iload_n dL_law_27 rfl ?_
  refine q_sld hX dL_law_28 (k := i) rfl (by omega) ?_
  refine q_bipush dL_law_29 (v := 31) (by decide) ?_
  refine q_iand dL_law_31 ?_
  refine q_tblIn (off := 699) (tgt := 731) dL_law_32 (by rw [hv]; decide) (by rw [hv]; decide) (by rw [hv]; rfl) (by decide) ?_
  refine q_aload_n dL_law_731 rfl ?_
  refine q_aload_n dL_law_732 rfl ?_
  refine q_iload_n dL_law_733 rfl ?_
  refine q_iconst dL_law_734 (v := 1) (by decide) ?_
  refine q_iadd dL_law_735 ?_
  refine q_sld hX dL_law_736 (k := i + 1) (nI_add i 1) (by omega) ?_
  refine q_aload_n dL_law_737 rfl ?_
  refine q_iload_n dL_law_738 rfl ?_
  refine q_iconst dL_law_739 (v := 2) (by decide) ?_
  refine q_iadd dL_law_740 ?_
  refine q_sld hX dL_law_741 (k := i + 2) (nI_add i 2) (by omega) ?_
  refine q_cW s1 dL_law_742 kl_L_97 rfl e5 rfl ⟨q_le rfl, q_le rfl⟩ hce hsl (q_le rfl) ?_
  refine q_aload_n dL_law_745 rfl ?_
  refine q_aload_n dL_law_746 rfl ?_
  refine q_iload_n dL_law_747 rfl ?_
  refine q_iconst dL_law_748 (v := 1) (by decide) ?_
  refine q_iadd dL_law_749 ?_
  refine q_sld hX dL_law_750 (k := i + 1) (nI_add i 1) (by omega) ?_
  refine q_aload_n dL_law_751 rfl ?_
  refine q_iload_n dL_law_752 rfl ?_
  refine q_iconst dL_law_753 (v := 2) (by decide) ?_
  refine q_iadd dL_law_754 ?_
  refine q_sld hX dL_law_755 (k := i + 2) (nI_add i 2) (by omega) ?_
  refine q_cW s2 dL_law_756 kl_L_100 rfl e6 rfl ⟨q_le rfl, q_le rfl⟩ hce hsl (q_le rfl) ?_
  refine q_lcmp_eq (tgt := 802) dL_law_759 dL_law_760 (by decide) (fun _ => ?_) (fun h_n => absurd rfl h_n)
  exact q_lo [(0, .ref 0), (1, .ref 1), (2, .ref 10), (3, .int (nI i))] ⟨rfl, rfl, rfl, rfl, trivial⟩ hx

set_option maxHeartbeats 4000000 in
set_option maxRecDepth 100000 in
theorem lc_count {G : q_G} {d : q_D} {z : q_Z} {nm : String} {ce sl n n1 L i : Nat} {xs : Nat → Int32} {h h1 h2 : q_Hp} {f5 f6 : List Value} {r : Int32} (hX : q_scr G d L xs) (hL : L < 2 ^ 30) (hi : i + 5 ≤ L) (hv : xs i &&& 31 = 20) (e5 : h 1 = some (.inr (6, f5))) (e6 : h1 10 = some (.inr (7, f6))) (s1 : Sp yX6_count uX6_count [.ref 1, .int (xs (i + 1))] n h (some (.int r), n1, h1)) (s2 : Sp yX7_count uX7_count [.ref 10, .int (xs (i + 1))] n1 h1 (some (.int r), n1, h2)) (hce : ce + 0 ≤ 600000) (hsl : sl + 0 ≤ 7302250) (hx : J G d (uLn nm) z (ce + 0) (sl + 0) n1 802 (q_l [(0, .ref 0), (1, .ref 1), (2, .ref 10), (3, .int (nI i))]) [] h2) : J G d (uLn nm) z ce sl n 18 (q_l [(0, .ref 0), (1, .ref 1), (2, .ref 10), (3, .int (nI i))]) [] h := by
  refine q_iload_n dL_law_18 rfl ?_
  refine q_aload_n dL_law_19 rfl ?_
  refine q_slen hX dL_law_20 ?_
  refine q_iconst dL_law_21 (v := 5) (by decide) ?_
  refine q_isub dL_law_22 ?_
  refine q_icmp_gt (tgt := 808) dL_law_23 (by decide) (fun h_n => absurd ((l_sub5 hL (by omega)).mp h_n) (by omega)) (fun _ => ?_)
  refine q_aload_n dL_law_26 rfl ?_
  refine q_iload_n dL_law_27 rfl ?_
  refine q_sld hX dL_law_28 (k := i) rfl (by omega) ?_
  refine q_bipush dL_law_29 (v := 31) (by decide) ?_
  refine q_iand dL_law_31 ?_
  refine q_tblIn (off := 733) (tgt := 765) dL_law_32 (by rw [hv]; decide) (by rw [hv]; decide) (by rw [hv]; rfl) (by decide) ?_
  refine q_aload_n dL_law_765 rfl ?_
  refine q_aload_n dL_law_766 rfl ?_
  refine q_iload_n dL_law_767 rfl ?_
  refine q_iconst dL_law_768 (v := 1) (by decide) ?_
  refine q_iadd dL_law_769 ?_
  refine q_sld hX dL_law_770 (k := i + 1) (nI_add i 1) (by omega) ?_
  refine q_cW s1 dL_law_771 kl_L_101 rfl e5 rfl ⟨q_le rfl, q_le rfl⟩ hce hsl (q_le rfl) ?_
  refine q_aload_n dL_law_774 rfl ?_
  refine q_aload_n dL_law_775 rfl ?_
  refine q_iload_n dL_law_776 rfl ?_
  refine q_iconst dL_law_777 (v := 1) (by decide) ?_
  refine q_iadd dL_law_778 ?_
  refine q_sld hX dL_law_779 (k := i + 1) (nI_add i 1) (by omega) ?_
  refine q_cW s2 dL_law_780 kl_L_104 rfl e6 rfl ⟨q_le rfl, q_le rfl⟩ hce hsl (q_le rfl) ?_
  refine q_icmp_eq (tgt := 802) dL_law_783 (by decide) (fun _ => ?_) (fun h_n => absurd rfl h_n)
  exact q_lo [(0, .ref 0), (1, .ref 1), (2, .ref 10), (3, .int (nI i))] ⟨rfl, rfl, rfl, rfl, trivial⟩ hx

set_option maxHeartbeats 4000000 in
set_option maxRecDepth 100000 in
theorem lc_digest {G : q_G} {d : q_D} {z : q_Z} {nm : String} {ce sl n n1 L i : Nat} {xs : Nat → Int32} {h h1 h2 : q_Hp} {f5 f6 : List Value} {r : Int64} (hX : q_scr G d L xs) (hL : L < 2 ^ 30) (hi : i + 5 ≤ L) (hv : xs i &&& 31 = 21) (e5 : h 1 = some (.inr (6, f5))) (e6 : h1 10 = some (.inr (7, f6))) (s1 : Sp yX6_digest uX6_digest [.ref 1] n h (some (.long r), n1, h1)) (s2 : Sp yX7_digest uX7_digest [.ref 10] n1 h1 (some (.long r), n1, h2)) (hce : ce + 0 ≤ 600000) (hsl : sl + 0 ≤ 7302250) (hx : J G d (uLn nm) z (ce + 0) (sl + 0) n1 802 (q_l [(0, .ref 0), (1, .ref 1), (2, .ref 10), (3, .int (nI i))]) [] h2) : J G d (uLn nm) z ce sl n 18 (q_l [(0, .ref 0), (1, .ref 1), (2, .ref 10), (3, .int (nI i))]) [] h := by
  refine q_iload_n dL_law_18 rfl ?_
  refine q_aload_n dL_law_19 rfl ?_
  refine q_slen hX dL_law_20 ?_
  refine q_iconst dL_law_21 (v := 5) (by decide) ?_
  refine q_isub dL_law_22 ?_
  refine q_icmp_gt (tgt := 808) dL_law_23 (by decide) (fun h_n => absurd ((l_sub5 hL (by omega)).mp h_n) (by omega)) (fun _ => ?_)
  refine q_aload_n dL_law_26 rfl ?_
  refine q_iload_n dL_law_27 rfl ?_
  refine q_sld hX dL_law_28 (k := i) rfl (by omega) ?_
  refine q_bipush dL_law_29 (v := 31) (by decide) ?_
  refine q_iand dL_law_31 ?_
  refine q_tblIn (off := 756) (tgt := 788) dL_law_32 (by rw [hv]; decide) (by rw [hv]; decide) (by rw [hv]; rfl) (by decide) ?_
  refine q_aload_n dL_law_788 rfl ?_
  refine q_cW s1 dL_law_789 kl_L_105 rfl e5 rfl ⟨q_le rfl, q_le rfl⟩ hce hsl (q_le rfl) ?_
  refine q_aload_n dL_law_792 rfl ?_
  refine q_cW s2 dL_law_793 kl_L_109 rfl e6 rfl ⟨q_le rfl, q_le rfl⟩ hce hsl (q_le rfl) ?_
  refine q_lcmp_eq (tgt := 802) dL_law_796 dL_law_797 (by decide) (fun _ => ?_) (fun h_n => absurd rfl h_n)
  exact q_lo [(0, .ref 0), (1, .ref 1), (2, .ref 10), (3, .int (nI i))] ⟨rfl, rfl, rfl, rfl, trivial⟩ hx

