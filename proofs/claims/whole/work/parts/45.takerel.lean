theorem hld_if (p : Prop) [Decidable p] (a : Int64) : (if p then a else a + 1) = a + (if p then 0 else 1) := by
  by_cases h : p
  · rw [if_pos h, if_pos h, Int64.add_zero]
  · rw [if_neg h, if_neg h]
/-- one sample into stage i, on both sides: what it told stays, what samples change goes alike -/
theorem take_rel {X : q_St} {D : q_Dy} {be by_ tc ta wa wr pl bi wo sh fa : Nat → Int32} {i : Nat} {x : Int32} (hx1 : -32768 ≤ x.toInt) (hx2 : x.toInt ≤ 32767) (hT : RSt i X be by_ tc ta wa wr pl bi wo sh fa) (hD : RSd i X by_ D) : S_out x X = D_out tc ta wa wr sh fa i x D ∧ RSt i (S_take x X) be by_ tc ta wa wr pl bi wo sh fa ∧ RSd i (S_take x X) by_ (D_comes tc ta wa wr sh fa i x D) := by
  obtain ⟨a1, a2, ⟨a3, c, hc, e2⟩, a4, ⟨a5, a5b⟩, ⟨a6, a6b⟩, a7, a8, ⟨a9, hh, hh1, e4⟩, a10⟩ := id hT
  obtain ⟨⟨r, hr, h1, h2⟩, h3, h4, ⟨h5, h6, h7⟩, h8, h9, h10, h11, h12, h13⟩ := id hD
  obtain ⟨o1, o2, o3⟩ := out_eq (ta := ta) (wr := wr) hx1 hx2 hr hc hh1 a3 e2 a9 e4 a5 a5b a6 h1 a10 h2 h3
  have hcl : (nI c).toNatClampNeg = c := nI_clamp (by omega)
  have ox : s_ex (S_tc X) (S_taps X) (r_psh (S_wds X) (S_rhd X) x) (r_ph (S_rhd X)) (S_tc X).toNatClampNeg = m_sum (upd (m_dn (D_ca D) i 31) (32 * i) x) ta i (tc i).toNatClampNeg := by
    rw [a3, e2, hcl, h1]
    exact ex_eq hc (fun k hk => (a4 k hk).1) (psh_words hr hx1 hx2 h2) c (Nat.le_refl c)
  have oz : s_sz (r_psh (S_wds X) (S_rhd X) x) (r_ph (S_rhd X)) (S_tc X).toNatClampNeg = m_szs (upd (m_dn (D_ca D) i 31) (32 * i) x) i (tc i).toNatClampNeg := by
    rw [a3, e2, hcl, h1]
    exact sz_eq (psh_words hr hx1 hx2 h2) c hc
  have o3' := o3
  obtain ⟨ca, ph, cm, km, gr, kp, su, ro, ou, ex, sz, ww⟩ := D
  refine ⟨o3, hT, ⟨(r + 31) % 32, by omega, ?_, fun k hk => ?_⟩, psh_rng hx1 hx2 h3, h4, ⟨?_, ?_, ?_⟩, ?_, ?_, ?_, ?_, ?_, ?_⟩
  · show r_ph (S_rhd X) = _
    rw [h1]
    exact r_ph_nI r hr
  · show r_psh (S_wds X) (S_rhd X) x (((r + 31) % 32 + k) % 32) = upd (m_dn ca i 31) (32 * i) x (32 * i + k)
    rw [h1]
    exact ring_push hr hx1 hx2 h2 k hk
  · show S_cin X + 1 = vp_updL cm i (cm i + 1) i
    rw [pk_uLs, h5]
    rfl
  · show (if (S_out x X).toInt64 = s_round (s_sum (S_fac X) (r_psh (S_wds X) (S_rhd X) x) (r_ph (S_rhd X)) (S_tc X).toNatClampNeg) (S_shift X) (S_way X) then S_hld X else S_hld X + 1) = vp_updL km i (km i + (if (D_out tc ta wa wr sh fa i x (ca, ph, cm, km, gr, kp, su, ro, ou, ex, sz, ww)).toInt64 = m_round (m_sum (upd (m_dn ca i 31) (32 * i) x) fa i (tc i).toNatClampNeg) (sh i) (wa i) then 0 else 1)) i
    rw [pk_uLs, o2, o3', h6]
    exact hld_if _ _
  · show m_max (S_gst X) (m_abs (s_sum (S_fac X) (r_psh (S_wds X) (S_rhd X) x) (r_ph (S_rhd X)) (S_tc X).toNatClampNeg)) = vp_updL gr i (if m_abs (m_sum (upd (m_dn ca i 31) (32 * i) x) fa i (tc i).toNatClampNeg) ≤ gr i then gr i else m_abs (m_sum (upd (m_dn ca i 31) (32 * i) x) fa i (tc i).toNatClampNeg)) i
    rw [pk_uLs, max_eq, o1, h7]
    rfl
  · exact o1.trans (pk_uLs (f := su)).symm
  · exact o2.trans (pk_uLs (f := ro)).symm
  · exact o3'.trans (pk_us (f := ou)).symm
  · exact ox.trans (pk_uLs (f := ex)).symm
  · exact oz.trans (pk_uLs (f := sz)).symm
  · exact a5.trans (pk_us (f := ww)).symm
