/-- what near and told need besides -/
def RX (i : Nat) (X : q_St) (be tc ta pl sh fa : Nat → Int32) (D : q_Dy) : Prop :=
  (S_lst X = 0 ↔ m_ht pl (D_kp D) i = false) ∧
  (¬ pl i = 0 → S_psz X = m_nrm fa i (tc i).toNatClampNeg ∧ ∀ k : Nat, k < (tc i).toNatClampNeg → (-32767 ≤ (fa (32 * i + k)).toInt ∧ (fa (32 * i + k)).toInt ≤ 32767) ∧ -((be i).toInt * 32768) ≤ (ta (32 * i + k)).toInt * 2 ^ (sh i).toNatClampNeg ∧ (ta (32 * i + k)).toInt * 2 ^ (sh i).toNatClampNeg ≤ (be i).toInt * 32768) ∧
  (m_ht pl (D_kp D) i = true → (-68719476736 ≤ (D_ro D i).toInt * 2 ^ (sh i).toNatClampNeg ∧ (D_ro D i).toInt * 2 ^ (sh i).toNatClampNeg ≤ 68719476736) ∧ (-((be i).toInt * 34359738368) ≤ (D_ex D i).toInt * 2 ^ (sh i).toNatClampNeg ∧ (D_ex D i).toInt * 2 ^ (sh i).toNatClampNeg ≤ (be i).toInt * 34359738368) ∧ (0 ≤ (D_sz D i).toInt ∧ (D_sz D i).toInt ≤ 1048576) ∧ (D_ww D i = 0 ∨ D_ww D i = 1 ∨ D_ww D i = 2 ∨ D_ww D i = 3))
theorem abs_K {r K N : Int} (hK : 1 ≤ K) (h1 : -N ≤ r * K) (h2 : r * K ≤ N) : -N ≤ r ∧ r ≤ N := by
  have e : r * (K - 1) = r * K - r := by rw [Int.mul_sub, Int.mul_one]
  by_cases h0 : 0 ≤ r
  · have k1 : 0 ≤ r * (K - 1) := Int.mul_nonneg h0 (by omega)
    omega
  · have k1 : 0 ≤ (-r) * (K - 1) := Int.mul_nonneg (by omega) (by omega)
    rw [Int.neg_mul] at k1
    omega
theorem be_rng {b : Int32} (h1 : 1 ≤ b) (h2 : b ≤ 1000000) : 1 ≤ b.toInt64.toInt ∧ b.toInt64.toInt ≤ 1000000 := by
  have e1 : (1 : Int32).toInt = 1 := by decide
  have e2 : (1000000 : Int32).toInt = 1000000 := by decide
  have g1 := Int32.le_iff_toInt_le.mp h1
  have g2 := Int32.le_iff_toInt_le.mp h2
  rw [Int32.toInt_toInt64]
  omega
theorem near_core {ro ex sz kk : Int64} {b : Int32} {h : Nat} (hh : h < 25) (hb1 : 1 ≤ b) (hb2 : b ≤ 1000000) (r1 : -68719476736 ≤ ro.toInt * 2 ^ h) (r2 : ro.toInt * 2 ^ h ≤ 68719476736) (x1 : -(b.toInt * 34359738368) ≤ ex.toInt * 2 ^ h) (x2 : ex.toInt * 2 ^ h ≤ b.toInt * 34359738368) (z1 : 0 ≤ sz.toInt) (z2 : sz.toInt ≤ 1048576) (k1 : 0 ≤ kk.toInt) (k2 : kk.toInt ≤ 33554432) :
    ((sz + kk) * b.toInt64 < m_abs (ro * b.toInt64 - ex) * (2 * m_one (nI h))) ↔ ((sz + kk) * b.toInt64 / (2 * m_one (nI h)) < m_abs (ro * b.toInt64 - ex)) := by
  obtain ⟨b1, b2⟩ := be_rng hb1 hb2
  rw [← Int32.toInt_toInt64 b] at x1 x2
  have e1 := one_toInt h hh
  obtain ⟨l1, l2⟩ := one_le h hh
  have t2 : (2 * m_one (nI h)).toInt = 2 * 2 ^ h := by rw [i2_mul _ (by rw [e1]; omega) (by rw [e1]; omega), e1]
  have s1 : (sz + kk).toInt = sz.toInt + kk.toInt := i_add (by omega) (by omega)
  have p1 := prod_ab (A := 34603008) (L := 1000000) (a := sz.toInt + kk.toInt) (y := b.toInt64.toInt) (by omega) (by omega) (by omega) (by omega)
  have A : ((sz + kk) * b.toInt64).toInt = (sz.toInt + kk.toInt) * b.toInt64.toInt := by
    rw [i_mul, s1] <;> rw [s1] <;> omega
  have A0 : 0 ≤ (sz.toInt + kk.toInt) * b.toInt64.toInt := Int.mul_nonneg (by omega) (by omega)
  obtain ⟨ra, rb⟩ := abs_K l1 r1 r2
  obtain ⟨xa, xb⟩ := abs_K l1 x1 x2
  have p2 := prod_ab (A := 68719476736) (L := 1000000) (a := ro.toInt) (y := b.toInt64.toInt) (by omega) (by omega) (by omega) (by omega)
  have m1 : (ro * b.toInt64).toInt = ro.toInt * b.toInt64.toInt := i_mul (by omega) (by omega)
  have T : (ro * b.toInt64 - ex).toInt = ro.toInt * b.toInt64.toInt - ex.toInt := by rw [i_sub, m1] <;> rw [m1] <;> omega
  have B := abs_toInt (x := ro * b.toInt64 - ex) (by rw [T]; omega)
  rw [T] at B
  have p3 := prod_ab (A := 68719476736) (L := 1000000) (a := ro.toInt * 2 ^ h) (y := b.toInt64.toInt) (by omega) (by omega) (by omega) (by omega)
  have q1 : (ro.toInt * b.toInt64.toInt - ex.toInt) * 2 ^ h = ro.toInt * 2 ^ h * b.toInt64.toInt - ex.toInt * 2 ^ h := by
    rw [Int.sub_mul, Int.mul_assoc, Int.mul_assoc, Int.mul_comm b.toInt64.toInt]
  have q2 : (m_abs (ro * b.toInt64 - ex)).toInt * (2 * 2 ^ h) = 2 * (if 0 ≤ ro.toInt * b.toInt64.toInt - ex.toInt then (ro.toInt * b.toInt64.toInt - ex.toInt) * 2 ^ h else -((ro.toInt * b.toInt64.toInt - ex.toInt) * 2 ^ h)) := by
    rw [B]
    split
    · rw [← Int.mul_assoc, Int.mul_comm _ 2, Int.mul_assoc]
    · rw [← Int.mul_assoc, Int.mul_comm _ 2, Int.mul_assoc, Int.neg_mul]
  have q3 : -2 ^ 60 ≤ (m_abs (ro * b.toInt64 - ex)).toInt * (2 * 2 ^ h) ∧ (m_abs (ro * b.toInt64 - ex)).toInt * (2 * 2 ^ h) ≤ 2 ^ 60 := by
    rw [q2, q1]
    split <;> omega
  have BM : (m_abs (ro * b.toInt64 - ex) * (2 * m_one (nI h))).toInt = (m_abs (ro * b.toInt64 - ex)).toInt * (2 * 2 ^ h) := by
    rw [i_mul, t2] <;> rw [t2] <;> omega
  rw [Int64.lt_iff_toInt_lt, Int64.lt_iff_toInt_lt, BM, i_div (by rw [t2]; omega), A, t2, Int.tdiv_eq_ediv_of_nonneg A0, Int.ediv_lt_iff_lt_mul (by omega)]
/-- near -/
theorem near_rel {X : q_St} {D : q_Dy} {be by_ tc ta wa wr pl bi wo sh fa : Nat → Int32} {i : Nat} (hT : RSt i X be by_ tc ta wa wr pl bi wo sh fa) (hD : RSd i X by_ D) (hX : RX i X be tc ta pl sh fa D) : x_near X = m_nr pl (D_kp D) sh be (D_ro D) (D_ex D) (D_sz D) (D_ww D) i := by
  obtain ⟨⟨b0, b1, b2⟩, _, _, _, _, _, _, _, ⟨a9, h, hh, e4⟩, _⟩ := hT
  obtain ⟨_, _, _, _, _, h9, _, h11, h12, h13⟩ := hD
  obtain ⟨x1, _, x3⟩ := hX
  unfold x_near m_nr
  cases hm : m_ht pl (D_kp D) i with
  | false => rw [if_pos (x1.mpr hm)] <;> rfl
  | true =>
    have hl : ¬ S_lst X = 0 := fun e => by
      have := x1.mp e
      rw [hm] at this
      exact absurd this (by decide)
    obtain ⟨⟨r1, r2⟩, ⟨y1, y2⟩, ⟨z1, z2⟩, hw⟩ := x3 hm
    rw [e4, nI_clamp (by omega)] at r1 r2 y1 y2
    have e1 := one_toInt h hh
    obtain ⟨l1, l2⟩ := one_le h hh
    have t2 : (2 * m_one (nI h)).toInt = 2 * 2 ^ h := by rw [i2_mul _ (by rw [e1]; omega) (by rw [e1]; omega), e1]
    rw [if_neg hl, cond_true, a9, b0, h9, h11, h12, h13, e4]
    unfold l_near
    have key : ∀ kk : Int64, kk = m_one (nI h) ∨ kk = 2 * m_one (nI h) → (bif !decide ((D_sz D i + kk) * (be i).toInt64 < m_abs (D_ro D i * (be i).toInt64 - D_ex D i) * (2 * m_one (nI h))) then (1 : Int32) else 0) = if (D_sz D i + kk) * (be i).toInt64 / (2 * m_one (nI h)) < m_abs (D_ro D i * (be i).toInt64 - D_ex D i) then 0 else 1 := by
      intro kk hk
      have hk2 : 0 ≤ kk.toInt ∧ kk.toInt ≤ 33554432 := by
        rcases hk with e | e
        · rw [e, e1]; omega
        · rw [e, t2]; omega
      have nc := near_core (ro := D_ro D i) (ex := D_ex D i) (sz := D_sz D i) (kk := kk) hh b1 b2 r1 r2 y1 y2 z1 z2 hk2.1 hk2.2
      by_cases hc : (D_sz D i + kk) * (be i).toInt64 < m_abs (D_ro D i * (be i).toInt64 - D_ex D i) * (2 * m_one (nI h))
      · rw [if_pos (nc.mp hc), decide_eq_true hc]
        rfl
      · rw [if_neg (fun e => hc (nc.mpr e)), decide_eq_false hc]
        rfl
    rcases hw with e | e | e | e <;> rw [e]
    · exact key (2 * m_one (nI h)) (Or.inr rfl)
    · exact key (2 * m_one (nI h)) (Or.inr rfl)
    · exact key (m_one (nI h)) (Or.inl rfl)
    · exact key (m_one (nI h)) (Or.inl rfl)
/-- told -/
theorem told_rel {X : q_St} {D : q_Dy} {be by_ tc ta wa wr pl bi wo sh fa : Nat → Int32} {i : Nat} {v : Int32} (hD : RSd i X by_ D) (hX : RX i X be tc ta pl sh fa D) : x_told X v = m_told tc fa pl (D_kp D) (D_su D) (D_ro D) (D_ou D) (D_ex D) i (tc i).toNatClampNeg v := by
  obtain ⟨_, _, _, _, h8, h9, h10, h11, h12, h13⟩ := hD
  obtain ⟨x1, x2, x3⟩ := hX
  unfold x_told m_told
  cases hm : m_ht pl (D_kp D) i with
  | false => rw [if_pos (x1.mpr hm)] <;> rfl
  | true =>
    have hl : ¬ S_lst X = 0 := fun e => by
      have := x1.mp e
      rw [hm] at this
      exact absurd this (by decide)
    have hp : ¬ pl i = 0 := fun e => by
      unfold m_ht at hm
      rw [e] at hm
      simp at hm
    rw [if_neg hl, cond_true, h8, h9, h10, h11, (x2 hp).1]
/-- one sample into a stage that is planned -/
theorem take_relX {X : q_St} {D : q_Dy} {be by_ tc ta wa wr pl bi wo sh fa : Nat → Int32} {i : Nat} {x : Int32} (hx1 : -32768 ≤ x.toInt) (hx2 : x.toInt ≤ 32767) (hp : ¬ pl i = 0) (hT : RSt i X be by_ tc ta wa wr pl bi wo sh fa) (hD : RSd i X by_ D) (hX : RX i X be tc ta pl sh fa D) : RX i (S_take x X) be tc ta pl sh fa (D_comes tc ta wa wr sh fa i x D) := by
  obtain ⟨a1, a2, ⟨a3, c, hc, e2⟩, a4, ⟨a5, a5b⟩, ⟨a6, a6b⟩, a7, a8, ⟨a9, h, hh, e4⟩, a10⟩ := id hT
  obtain ⟨_, h3, _⟩ := id hD
  obtain ⟨x1, x2, x3⟩ := hX
  have hcl : (nI c).toNatClampNeg = c := nI_clamp (by omega)
  have hhl : (nI h).toNatClampNeg = h := nI_clamp (by omega)
  obtain ⟨ca, ph, cm, km, gr, kp, su, ro, ou, ex, sz, ww⟩ := D
  have hk : m_ht pl (upd kp i 1) i = true := by
    unfold m_ht
    rw [pk_us]
    simp [hp]
  refine ⟨?_, x2, fun _ => ?_⟩
  · show (1 : Int32) = 0 ↔ m_ht pl (upd kp i 1) i = false
    rw [hk]
    exact ⟨fun e => absurd e (by decide), fun e => absurd e (by decide)⟩
  · obtain ⟨_, x2⟩ := x2 hp
    rw [e2, hcl, e4, hhl] at x2
    show (-68719476736 ≤ (vp_updL ro i (m_round (m_sum (upd (m_dn ca i 31) (32 * i) x) fa i (tc i).toNatClampNeg) (sh i) (wa i)) i).toInt * 2 ^ (sh i).toNatClampNeg ∧ (vp_updL ro i (m_round (m_sum (upd (m_dn ca i 31) (32 * i) x) fa i (tc i).toNatClampNeg) (sh i) (wa i)) i).toInt * 2 ^ (sh i).toNatClampNeg ≤ 68719476736) ∧ (-((be i).toInt * 34359738368) ≤ (vp_updL ex i (m_sum (upd (m_dn ca i 31) (32 * i) x) ta i (tc i).toNatClampNeg) i).toInt * 2 ^ (sh i).toNatClampNeg ∧ (vp_updL ex i (m_sum (upd (m_dn ca i 31) (32 * i) x) ta i (tc i).toNatClampNeg) i).toInt * 2 ^ (sh i).toNatClampNeg ≤ (be i).toInt * 34359738368) ∧ (0 ≤ (vp_updL sz i (m_szs (upd (m_dn ca i 31) (32 * i) x) i (tc i).toNatClampNeg) i).toInt ∧ (vp_updL sz i (m_szs (upd (m_dn ca i 31) (32 * i) x) i (tc i).toNatClampNeg) i).toInt ≤ 1048576) ∧ (upd ww i (wa i) i = 0 ∨ upd ww i (wa i) i = 1 ∨ upd ww i (wa i) i = 2 ∨ upd ww i (wa i) i = 3)
    rw [pk_uLs, pk_uLs, pk_uLs, pk_us, e2, hcl, e4, hhl]
    have hw := psh_rng (ca := ca) (i := i) hx1 hx2 h3
    have s6 := sum_60 (fa := fa) hw hc
    have rb := round_bd hh s6.1 s6.2 (way := wa i)
    have sb := sum_bdK (fa := fa) (K := 1) (L := 32767) hc hw (fun k hk => by rw [Int.mul_one]; exact (x2 k hk).1) c (Nat.le_refl c)
    rw [Int.mul_one] at sb
    have xb := sum_bdK (fa := ta) (K := 2 ^ h) (L := (be i).toInt * 32768) hc hw (fun k hk => (x2 k hk).2) c (Nat.le_refl c)
    have zb := szs_bd hw c hc
    obtain ⟨l1, l2⟩ := one_le h hh
    obtain ⟨_, b1, b2⟩ := a1
    have bb := be_rng b1 b2
    rw [Int32.toInt_toInt64] at bb
    have cl : (0 : Int) ≤ (c : Int) ∧ (c : Int) ≤ 32 := by omega
    have pc := prod_ab (A := 32) (L := 32768 * ((be i).toInt * 32768)) (a := (c : Int)) (y := 32768 * ((be i).toInt * 32768)) (by omega) (by omega) (by omega) (by omega)
    exact ⟨by omega, by omega, by omega, a5b⟩
