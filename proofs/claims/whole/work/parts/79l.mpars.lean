/-! the parser's steps: which fields they change -/
theorem zbg (M : Nat → Nat → Int32) (c : Int32) : ∃ d : Int32, (d = 1 ∨ d = 4 ∨ d = 5 ∨ d = 3) ∧ (v_X5_begins M c).2 = zU (zU (zU M 7 (upd (M 7) (3 * (Int32.toNatClampNeg (M 8 0))) c)) 9 (fun _ => (-1))) 10 (fun _ => d) := by
  unfold v_X5_begins
  by_cases h1 : c = 43
  · refine ⟨1, Or.inl rfl, ?_⟩
    simp only [if_pos h1]
  · by_cases h2 : c = 45
    · refine ⟨1, Or.inl rfl, ?_⟩
      simp only [if_neg h1, if_pos h2]
    · by_cases h3 : c = 105
      · refine ⟨4, Or.inr (Or.inl rfl), ?_⟩
        simp only [if_neg h1, if_neg h2, if_pos h3]
      · by_cases h4 : c = 111
        · refine ⟨4, Or.inr (Or.inl rfl), ?_⟩
          simp only [if_neg h1, if_neg h2, if_neg h3, if_pos h4]
        · by_cases h5 : c = 120
          · refine ⟨5, Or.inr (Or.inr (Or.inl rfl)), ?_⟩
            simp only [if_neg h1, if_neg h2, if_neg h3, if_neg h4, if_pos h5]
          · refine ⟨3, Or.inr (Or.inr (Or.inr rfl)), ?_⟩
            simp only [if_neg h1, if_neg h2, if_neg h3, if_neg h4, if_neg h5]
            by_cases h6 : c = 100
            · rw [if_pos h6]
            · rw [if_neg h6]
theorem ztd (M : Nat → Nat → Int32) (c : Int32) : ∃ v : Int32, (v_X5_takesDigit M c).2 = zU (zU M 9 (fun _ => v)) 7 (upd (M 7) (3 * (Int32.toNatClampNeg (M 8 0)) + 2) v) := by
  unfold v_X5_takesDigit
  (repeat' split) <;> exact ⟨_, by with_reducible rfl⟩
