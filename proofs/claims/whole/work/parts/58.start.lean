/-! the start, and the walk -/
theorem thin_by {y : Int32} (h : x_isBy y = true) : ∃ m : Nat, m_thin y = nI m ∧ m ≤ 4 ∧ 0 < m := by
  rcases by_cases_ h with e | e | e | e | e | e | e <;> rw [e]
  · exact ⟨1, by decide, by decide, by decide⟩
  · exact ⟨2, by decide, by decide, by decide⟩
  · exact ⟨3, by decide, by decide, by decide⟩
  · exact ⟨4, by decide, by decide, by decide⟩
  · exact ⟨1, by decide, by decide, by decide⟩
  · exact ⟨1, by decide, by decide, by decide⟩
  · exact ⟨1, by decide, by decide, by decide⟩
theorem RA_new {j : Nat} {b0 y0 : Int32} (hb : x_in b0 1 1000000 = true) (hy : x_isBy y0 = true) : RA j (s_new b0 y0) (fun _ => b0) (fun _ => y0) (fun _ => 0) (fun _ => 0) (fun _ => 0) (fun _ => 0) (fun _ => 0) (fun _ => 0) (fun _ => 0) (fun _ => 0) (fun _ => 0) (fun _ => 0, fun _ => 0, fun _ => 0, fun _ => 0, fun _ => 0, fun _ => 0, fun _ => 0, fun _ => 0, fun _ => 0, fun _ => 0, fun _ => 0, fun _ => 0) := by
  obtain ⟨m, m1, m2, m3⟩ := thin_by hy
  have hb' := hb
  rw [x_in_iff] at hb'
  have z : -32768 ≤ (0 : Int32).toInt ∧ (0 : Int32).toInt ≤ 32767 := by decide
  refine ⟨⟨⟨rfl, Int32.le_iff_toInt_le.mpr hb'.1, Int32.le_iff_toInt_le.mpr hb'.2⟩, ⟨rfl, hy⟩, ⟨rfl, 0, by decide, rfl⟩, fun k hk => ⟨rfl, show x_in 0 (-1000000) 1000000 = true by decide⟩, ⟨rfl, Or.inl rfl⟩, ⟨rfl, Or.inl rfl⟩, ⟨rfl, Or.inl rfl⟩, ⟨rfl, rfl⟩, ⟨rfl, 0, by decide, rfl⟩, fun k hk => rfl⟩, ⟨⟨0, by decide, rfl, fun k hk => rfl⟩, fun k hk => z, ⟨0, m, m1, m2, m3, rfl, rfl⟩, ⟨rfl, rfl, rfl⟩, rfl, rfl, rfl, rfl, rfl, rfl⟩, ⟨fun _ => rfl, fun _ => rfl⟩, fun hn => absurd rfl hn, fun hm => ?_⟩
  exact absurd (show false = true from hm) (by decide)
set_option maxHeartbeats 1000000 in
theorem Rel_0 : Rel 38 (q_blk (q_blk (fun _ => none) 1 (xE 1 0 (fun _ => none) (fun _ => 0) 0 (fun _ => 0) 0 0 (fun _ => 0, 0) (fun _ => 0, 0))) 10 (mE 10 0 0 0 0 (fun _ => 0) (fun _ => 0) (fun _ => 0) (fun _ => 0) (fun _ => 0) (fun _ => 0) (fun _ => 0) (fun _ => 0) (fun _ => 0) (fun _ => 0) (fun _ => 0) (fun _ => 0) (fun _ => 0) (fun _ => 0) (fun _ => 0) (fun _ => 0) (fun _ => 0) (fun _ => 0) (fun _ => 0) (fun _ => 0) (fun _ => 0) (fun _ => 0) (fun _ => 0) (fun _ => 0) (fun _ => 0) (fun _ => 0) (fun _ => 0))) := by
  refine ⟨0, 0, 0, 0, fun _ => s_new 1 1, fun _ => 0, fun _ => 0, (fun _ => 0, 0), (fun _ => 0, 0), fun _ => 0, fun _ => 0, fun _ => 0, fun _ => 0, fun _ => 0, fun _ => 0, fun _ => 0, fun _ => 0, fun _ => 0, fun _ => 0, fun _ => 0, fun _ => 0, fun _ => 0, fun _ => 0, fun _ => 0, (fun _ => 0, fun _ => 0, fun _ => 0, fun _ => 0, fun _ => 0, fun _ => 0, fun _ => 0, fun _ => 0, fun _ => 0, fun _ => 0, fun _ => 0, fun _ => 0), rfl, ?_, by decide, by decide, ⟨fun i hi => absurd hi (Nat.not_lt_zero i), fun j _ b0 y0 hb hy => RA_new hb hy⟩, ⟨fun t ht => absurd ht (Nat.not_lt_zero t), fun s t _ ht => absurd ht (Nat.not_lt_zero t), show 1 ≤ 16 by decide⟩, rfl, Nat.zero_le _, rfl, fun q hq => absurd hq (Nat.not_lt_zero q)⟩
  rw [lW_0 (S := fun _ => s_new 1 1) rfl rfl, xrf_0 38]
  rfl
