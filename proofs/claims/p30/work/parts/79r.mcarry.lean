theorem zps_at (days : Nat) : ∀ (n : Nat) (sm : Int32) (j : Nat) (M : Nat → Nat → Int32), days - j < n → zI M → zI (v_X5_passes_4 days n sm j M).2 ∧ ∀ k, k ≠ 0 → (v_X5_passes_4 days n sm j M).2 k = M k
  | 0, _, _, _, h, _ => absurd h (Nat.not_lt_zero _)
  | n + 1, sm, j, M, h, hI => by
    rw [v_X5_passes_4]
    by_cases c : days ≤ j
    · rw [if_pos c]; exact ⟨hI, fun _ _ => rfl⟩
    · rw [if_neg c]
      obtain ⟨a1, a2⟩ := zps_at days n (sm + (v_X5_dayPasses M).1) (j + 1) (v_X5_dayPasses M).2 (by omega) (zdp_I hI)
      exact ⟨a1, fun k hk => (a2 k hk).trans (zdp_f hI hk)⟩
theorem zps_I {M : Nat → Nat → Int32} {days : Nat} (h : zI M) (hd : days ≤ 50) : zI (v_X5_passes M days).2 ∧ ∀ k, k ≠ 0 → (v_X5_passes M days).2 k = M k := by
  unfold v_X5_passes; exact zps_at days 51 0 0 M (by omega) h
