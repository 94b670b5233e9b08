/-! THE RELATION of a stage of the class (X) and stage i of the reference (arrays, and D: what samples change) -/
def D_cm : q_Dy → Nat → Int64 := fun (ca, ph, cm, km, gr, kp, su, ro, ou, ex, sz, ww) => cm
def D_km : q_Dy → Nat → Int64 := fun (ca, ph, cm, km, gr, kp, su, ro, ou, ex, sz, ww) => km
def D_gr : q_Dy → Nat → Int64 := fun (ca, ph, cm, km, gr, kp, su, ro, ou, ex, sz, ww) => gr
def D_kp : q_Dy → Nat → Int32 := fun (ca, ph, cm, km, gr, kp, su, ro, ou, ex, sz, ww) => kp
def D_su : q_Dy → Nat → Int64 := fun (ca, ph, cm, km, gr, kp, su, ro, ou, ex, sz, ww) => su
def D_ro : q_Dy → Nat → Int64 := fun (ca, ph, cm, km, gr, kp, su, ro, ou, ex, sz, ww) => ro
def D_ou : q_Dy → Nat → Int32 := fun (ca, ph, cm, km, gr, kp, su, ro, ou, ex, sz, ww) => ou
def D_ex : q_Dy → Nat → Int64 := fun (ca, ph, cm, km, gr, kp, su, ro, ou, ex, sz, ww) => ex
def D_sz : q_Dy → Nat → Int64 := fun (ca, ph, cm, km, gr, kp, su, ro, ou, ex, sz, ww) => sz
def D_ww : q_Dy → Nat → Int32 := fun (ca, ph, cm, km, gr, kp, su, ro, ou, ex, sz, ww) => ww
/-- what the user tells: below, by, taps, way, wraps, plan -/
def RSt (i : Nat) (X : q_St) (be by_ tc ta wa wr pl bi wo sh fa : Nat → Int32) : Prop :=
  (S_below X = be i ∧ 1 ≤ be i ∧ be i ≤ 1000000) ∧ (S_by X = by_ i ∧ x_isBy (by_ i) = true) ∧ (S_tc X = tc i ∧ ∃ c : Nat, c ≤ 32 ∧ tc i = nI c) ∧
  (∀ k : Nat, k < 32 → S_taps X k = ta (32 * i + k) ∧ x_in (ta (32 * i + k)) (-1000000) 1000000 = true) ∧ (S_way X = wa i ∧ (wa i = 0 ∨ wa i = 1 ∨ wa i = 2 ∨ wa i = 3)) ∧ (S_wr X = wr i ∧ (wr i = 0 ∨ wr i = 1)) ∧
  (S_pst X = pl i ∧ (pl i = 0 ∨ pl i = 1)) ∧ (S_bits X = bi i ∧ S_word X = wo i) ∧ (S_shift X = sh i ∧ ∃ h : Nat, h < 25 ∧ sh i = nI h) ∧ (∀ k : Nat, k < 32 → S_fac X k = fa (32 * i + k))
/-- what samples change -/
def RSd (i : Nat) (X : q_St) (by_ : Nat → Int32) (D : q_Dy) : Prop :=
  (∃ r : Nat, r < 32 ∧ S_rhd X = nI r ∧ ∀ k : Nat, k < 32 → S_wds X ((r + k) % 32) = D_ca D (32 * i + k)) ∧ (∀ k : Nat, k < 32 → -32768 ≤ (D_ca D (32 * i + k)).toInt ∧ (D_ca D (32 * i + k)).toInt ≤ 32767) ∧
  (∃ q m : Nat, m_thin (by_ i) = nI m ∧ m ≤ 4 ∧ q < m ∧ D_phv D i = nI q ∧ S_thin X = nI (if q = 0 then 0 else m - q)) ∧
  (S_cin X = D_cm D i ∧ S_hld X = D_km D i ∧ S_gst X = D_gr D i) ∧ (S_sum X = D_su D i ∧ S_rnd X = D_ro D i ∧ S_lout X = D_ou D i ∧ S_ex X = D_ex D i ∧ S_ssz X = D_sz D i ∧ S_rby X = D_ww D i)
theorem D_comes_other {tc ta wa wr sh fa : Nat → Int32} {i j : Nat} {x : Int32} {D : q_Dy} {X : q_St} {by_ : Nat → Int32} (hij : i ≠ j) (h : RSd j X by_ D) : RSd j X by_ (D_comes tc ta wa wr sh fa i x D) := by
  obtain ⟨ca, ph, cm, km, gr, kp, su, ro, ou, ex, sz, ww⟩ := D
  obtain ⟨⟨r, hr, h1, h2⟩, h3, h4, ⟨h5, h6, h7⟩, h8, h9, h10, h11, h12, h13⟩ := h
  have hu : ∀ k : Nat, k < 32 → upd (m_dn ca i 31) (32 * i) x (32 * j + k) = ca (32 * j + k) := fun k hk => dn_other (by omega)
  have hji : j ≠ i := fun e => hij e.symm
  refine ⟨⟨r, hr, h1, fun k hk => (h2 k hk).trans (hu k hk).symm⟩, fun k hk => ?_, h4, ⟨h5.trans (pk_uLn hji).symm, h6.trans (pk_uLn hji).symm, h7.trans (pk_uLn hji).symm⟩, h8.trans (pk_uLn hji).symm, h9.trans (pk_uLn hji).symm, h10.trans (pk_un hji).symm, h11.trans (pk_uLn hji).symm, h12.trans (pk_uLn hji).symm, h13.trans (pk_un hji).symm⟩
  show -32768 ≤ (upd (m_dn ca i 31) (32 * i) x (32 * j + k)).toInt ∧ (upd (m_dn ca i 31) (32 * i) x (32 * j + k)).toInt ≤ 32767
  rw [hu k hk]
  exact h3 k hk
