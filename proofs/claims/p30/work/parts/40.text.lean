/-- one below the end -/
theorem zstep {x : Int32} {n : Nat} (hn : n + 1 < 2 ^ 31) (h : vp_in x (n + 1)) (c : ¬ nI n ≤ x) : vp_in x n ∧ vp_in (x + 1) (n + 1) ∧ (x + 1).toNatClampNeg = x.toNatClampNeg + 1 ∧ x.toNatClampNeg < n := by
  obtain ⟨j, hj, rfl⟩ := vp_in_of h hn
  have h2 : j < n := by
    rcases Nat.lt_or_ge j n with q | q
    · exact q
    · exact absurd (nI_le q (by omega)) c
  refine ⟨vp_in_nI h2 (by omega), ?_, ?_, ?_⟩
  · rw [nI_1]; exact vp_in_nI (by omega) hn
  · rw [nI_1, nI_clamp (by omega), nI_clamp (by omega)]
  · rw [nI_clamp (by omega)]; exact h2
theorem zrow1 {x : Int32} (h : vp_in x 101) (c : ¬ 100 ≤ x) : vp_in x 100 := (zstep (n := 100) (by decide) h c).1
