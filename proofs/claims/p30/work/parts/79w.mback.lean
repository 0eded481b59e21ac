/-! what looks ahead puts the row back -/
theorem zsf_put {M N : Nat → Nat → Int32} {b : Nat} (h0 : ∀ j, j ≠ 5 + 6 * b + 2 → N 0 j = M 0 j) (x : Int32) : ∀ j, j ≠ 5 + 6 * b + 2 → v_X5_put N b 2 x 0 j = M 0 j := fun j hj => by
  unfold v_X5_put; rw [zU_s, zupd_n _ _ hj]; exact h0 j hj
theorem zsf_pk {M N : Nat → Nat → Int32} {b : Nat} (hk : ∀ k, k ≠ 0 → N k = M k) (x : Int32) : ∀ k, k ≠ 0 → v_X5_put N b 2 x k = M k := fun k h => by
  unfold v_X5_put; rw [zU_n _ _ h]; exact hk k h
theorem zsf_at (M : Nat → Nat → Int32) (b sal : Nat) : ∀ (n : Nat) (best most : Int32) (x : Nat) (N : Nat → Nat → Int32), sal + 20 - x < n → (∀ k, k ≠ 0 → N k = M k) → (∀ j, j ≠ 5 + 6 * b + 2 → N 0 j = M 0 j) →
    (v_X5_saltFor_26 M b sal n best most x N).2 0 = M 0 ∧ ∀ k, k ≠ 0 → (v_X5_saltFor_26 M b sal n best most x N).2 k = M k
  | 0, _, _, _, _, h, _, _ => absurd h (Nat.not_lt_zero _)
  | n + 1, best, most, x, N, h, hk, h0 => by
    have back : v_X5_put N b 2 (v_X5_of M b 2) 0 = M 0 ∧ ∀ k, k ≠ 0 → v_X5_put N b 2 (v_X5_of M b 2) k = M k := by
      refine ⟨funext fun j => ?_, zsf_pk hk _⟩
      by_cases q : j = 5 + 6 * b + 2
      · unfold v_X5_put v_X5_of; rw [zU_s, q, zupd_s]
      · exact zsf_put h0 _ j q
    rw [v_X5_saltFor_26]
    by_cases c : sal + 20 ≤ x
    · rw [if_pos c]; (dsimp only; exact back)
    · rw [if_neg c]
      have ih := fun best most => zsf_at M b sal n best most (x + 1) (v_X5_put N b 2 (nI x)) (by omega) (zsf_pk hk _) (zsf_put h0 _)
      by_cases d : v_X5_isSalt (nI x) = true
      · rw [if_pos d]
        by_cases f : v_X5_eaters (v_X5_put N b 2 (nI x)) b ≤ most
        · rw [if_pos f, if_pos f]; exact ih _ _
        · rw [if_neg f, if_neg f]; exact ih _ _
      · rw [if_neg d]; (dsimp only; exact back)
theorem zsf (M : Nat → Nat → Int32) (b sal : Nat) : (v_X5_saltFor M b sal).2 0 = M 0 ∧ ∀ k, k ≠ 0 → (v_X5_saltFor M b sal).2 k = M k := by
  unfold v_X5_saltFor
  by_cases c : v_X5_hasOwnSalt M b = true
  · rw [if_pos c]; exact zsf_at M b sal 21 (-1) (-1) sal M (by omega) (fun _ _ => rfl) (fun _ _ => rfl)
  · rw [if_neg c]; exact ⟨rfl, fun _ _ => rfl⟩
