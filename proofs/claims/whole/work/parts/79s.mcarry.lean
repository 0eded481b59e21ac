/-- what a parsed command's number is bound by -/
def zNum (M : Nat → Nat → Int32) (p : Nat) : Prop := (M 7 (3 * p) = 100 → vp_in (M 7 (3 * p + 2)) 51) ∧ (M 7 (3 * p) = 43 ∨ M 7 (3 * p) = 45 → vp_in (M 7 (3 * p + 2)) 101) ∧ (¬ M 7 (3 * p) = 100 → ¬ M 7 (3 * p) = 43 → ¬ M 7 (3 * p) = 45 → ¬ M 7 (3 * p) = 120 → vp_in (M 7 (3 * p + 2)) 150)
theorem zcr_I {M : Nat → Nat → Int32} {p : Nat} (h : zI M) (q : zNum M p) : zI (v_X5_carries M p).2 ∧ ∀ k, k ≠ 0 → (v_X5_carries M p).2 k = M k := by
  rw [zCr_eq]
  unfold zCr
  have same : zI M ∧ ∀ k, k ≠ 0 → M k = M k := ⟨h, fun _ _ => rfl⟩
  by_cases a : M 7 (3 * p) = 100
  · rw [if_pos a]; exact zps_I h (Nat.le_of_lt_succ (znat (q.1 a)).2)
  · rw [if_neg a]
    by_cases b : v_X5_isBread M (M 7 (3 * p + 1)) = true
    · rw [if_pos b]
      have hb := (znat (zmb b (zI_B h))).2
      have hbr := zmb2 b (zI_B h)
      by_cases c : M 7 (3 * p) = 43
      · rw [if_pos c]
        by_cases o : v_X5_canRaise M (Int32.toNatClampNeg (M 7 (3 * p + 1))) (nI (Int32.toNatClampNeg (M 7 (3 * p + 2)))) = true
        · rw [if_pos o]
          have s := zssc hb h hbr (Nat.le_of_lt_succ (znat (q.2.1 (Or.inl c))).2) (Or.inl o)
          exact ⟨s.2.2.2.2, s.1⟩
        · rw [if_neg o]; exact same
      · rw [if_neg c]
        by_cases d : M 7 (3 * p) = 45
        · rw [if_pos d]
          by_cases o : v_X5_canLower M (Int32.toNatClampNeg (M 7 (3 * p + 1))) (nI (Int32.toNatClampNeg (M 7 (3 * p + 2)))) = true
          · rw [if_pos o]
            have s := zssc hb h hbr (Nat.le_of_lt_succ (znat (q.2.1 (Or.inr d))).2) (Or.inr o)
            exact ⟨s.2.2.2.2, s.1⟩
          · rw [if_neg o]; exact same
        · rw [if_neg d]
          by_cases o : v_X5_isOpen M (Int32.toNatClampNeg (M 7 (3 * p + 1))) = true
          · rw [if_pos o]
            by_cases x : M 7 (3 * p) = 120
            · rw [if_pos x]; exact zen_I hb h hbr
            · rw [if_neg x]
              by_cases i : M 7 (3 * p) = 105
              · rw [if_pos i]; exact ⟨zI_holds hb h, fun k hk => by dsimp only; unfold v_X5_holds; rw [zU_n _ _ hk]⟩
              · rw [if_neg i]; exact ⟨zI_holds hb h, fun k hk => by dsimp only; unfold v_X5_holds; rw [zU_n _ _ hk]⟩
          · rw [if_neg o]; exact same
    · rw [if_neg b]; exact same
