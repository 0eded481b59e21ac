theorem zw50 {x : Int32} (h : v_X5_within x 1 50 = true) : vp_in x 51 := by
  obtain ⟨a, b⟩ := zwithin h
  have a2 := zle_toInt a
  have b2 := zle_toInt b
  have t1 : (1 : Int32).toInt = 1 := by decide
  have t50 : (50 : Int32).toInt = 50 := by decide
  exact vp_in_iff.mpr ⟨by omega, by omega⟩
theorem zdp_at : ∀ (n many i : Nat) (M : Nat → Nat → Int32), 1200 - i < n → i ≤ 1200 → zI M → zI ((v_X5_dayPasses_14 n many i M).2) ∧ ∀ k, k ≠ 0 → (v_X5_dayPasses_14 n many i M).2 k = M k
  | 0, _, _, _, h, _, _ => absurd h (Nat.not_lt_zero _)
  | n + 1, many, i, M, h, hi, hI => by
    rw [v_X5_dayPasses_14]
    have hB := (znat (zI_B hI)).2
    by_cases c : 150 * (Int32.toNatClampNeg (M 0 1)) ≤ i
    · rw [if_pos c]; exact ⟨hI, fun _ _ => rfl⟩
    · rw [if_neg c]
      have d2 : i % (Int32.toNatClampNeg (M 0 1)) < 8 := by
        have := Nat.mod_lt i (show 0 < Int32.toNatClampNeg (M 0 1) by omega)
        omega
      by_cases d : v_X5_eatsNow M (i / (Int32.toNatClampNeg (M 0 1))) (i % (Int32.toNatClampNeg (M 0 1))) ≤ 0
      · rw [if_pos d]; exact zdp_at n many (i + 1) M (by omega) (by omega) hI
      · rw [if_neg d]
        obtain ⟨a1, a2⟩ := zdp_at n (many + 1) (i + 1) _ (by omega) (by omega) (zI_put (k := 5) d2 (by decide) (zI_u2 hI (Nat.le_trans (by decide) (Nat.le_add_right 653 _)) (Nat.le_trans (by decide) (Nat.le_add_right 803 _))))
        refine ⟨a1, fun k hk => ?_⟩
        rw [a2 k hk]
        unfold v_X5_put
        rw [zU_n _ _ hk, zU_n _ _ hk]
theorem zdp_I {M : Nat → Nat → Int32} (h : zI M) : zI ((v_X5_dayPasses M).2) := by
  unfold v_X5_dayPasses; exact (zdp_at 1201 0 0 _ (by omega) (by omega) (zI_day h)).1
theorem zdp_f {M : Nat → Nat → Int32} (h : zI M) {k : Nat} (hk : k ≠ 0) : (v_X5_dayPasses M).2 k = M k := by
  unfold v_X5_dayPasses; rw [(zdp_at 1201 0 0 _ (by omega) (by omega) (zI_day h)).2 k hk, zU_n _ _ hk]
def v_X5_passes_4 (days : Nat) : Nat → Int32 → Nat → (Nat → Nat → Int32) → Int32 × (Nat → Nat → Int32)
  | 0, _, _, _ => (0, (fun _ _ => 0))
  | n + 1, sm, j, M1 => (if days ≤ j then (sm, M1) else v_X5_passes_4 days n (sm + ((v_X5_dayPasses M1).1)) (j + 1) ((v_X5_dayPasses M1).2))
def v_X5_passes (M : Nat → Nat → Int32) (days : Nat) : Int32 × (Nat → Nat → Int32) := v_X5_passes_4 days 51 0 0 M
def v_X5_pass (M : Nat → Nat → Int32) (dd : Int32) : Int32 × (Nat → Nat → Int32) := (if (v_X5_within dd 1 50) = true then (((v_X5_passes (v_X5_save (zU M 5 (fun _ => 0))) (Int32.toNatClampNeg dd)).1), (v_X5_passes (v_X5_save (zU M 5 (fun _ => 0))) (Int32.toNatClampNeg dd)).2) else (0, zU M 5 (fun _ => 1)))
