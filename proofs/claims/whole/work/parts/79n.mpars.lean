def zph (M : Nat → Nat → Int32) : Nat := if M 10 0 = 0 then 0 else if v_X5_isEnded M = true then 2 else 1
theorem zph_le (M : Nat → Nat → Int32) : zph M ≤ 2 := by
  unfold zph
  by_cases a : M 10 0 = 0
  · rw [if_pos a]; decide
  · rw [if_neg a]
    by_cases b : v_X5_isEnded M = true
    · rw [if_pos b]; decide
    · rw [if_neg b]; decide
theorem zph_pos {M : Nat → Nat → Int32} (a : M 10 0 ≠ 0) : 1 ≤ zph M := by
  unfold zph
  rw [if_neg a]
  by_cases b : v_X5_isEnded M = true
  · rw [if_pos b]; decide
  · rw [if_neg b]; decide
theorem zph_0 {M : Nat → Nat → Int32} (a : M 10 0 = 0) : zph M = 0 := by unfold zph; rw [if_pos a]
theorem zph_bg (M : Nat → Nat → Int32) (c : Int32) : zph (v_X5_begins M c).2 ≤ 1 := by
  obtain ⟨d, hd, e⟩ := zbg M c
  rw [e]
  unfold zph v_X5_isEnded
  rw [zU_s, zU_n _ _ (by decide), zU_s]
  have h6 : d ≠ 6 := by rcases hd with q | q | q | q <;> rw [q] <;> decide
  by_cases a : d = 0
  · rw [if_pos a]; decide
  · rw [if_neg a, if_neg h6]
    by_cases b : d = 3
    · rw [if_pos b, if_pos rfl, if_neg (by decide)]; decide
    · rw [if_neg b, if_neg (by decide)]; decide
theorem ztk_f (M : Nat → Nat → Int32) (code : Int32) {k : Nat} (h7 : k ≠ 7) (h8 : k ≠ 8) (h9 : k ≠ 9) (h10 : k ≠ 10) : (zTk M code).2 k = M k := by
  rcases zTk_of M code with ⟨_, q⟩ | ⟨_, q | ⟨nx, q⟩ | ⟨d, q⟩ | q⟩
  · obtain ⟨d, _, e⟩ := zbg M code
    rw [q, e, zU_n _ _ h10, zU_n _ _ h9, zU_n _ _ h7]
  · obtain ⟨v, e⟩ := ztd M (code - 48)
    rw [q, e, zU_n _ _ h7, zU_n _ _ h9]
  · rw [q]; unfold v_X5_takesBread; dsimp only; rw [zU_n _ _ h10, zU_n _ _ h7]
  · rw [q, zU_n _ _ h10]
  · rw [q]
theorem ztk_8 (M : Nat → Nat → Int32) (code : Int32) : (zTk M code).2 8 = M 8 := by
  rcases zTk_of M code with ⟨_, q⟩ | ⟨_, q | ⟨nx, q⟩ | ⟨d, q⟩ | q⟩
  · obtain ⟨d, _, e⟩ := zbg M code
    rw [q, e, zU_n _ _ (by decide), zU_n _ _ (by decide), zU_n _ _ (by decide)]
  · obtain ⟨v, e⟩ := ztd M (code - 48)
    rw [q, e, zU_n _ _ (by decide), zU_n _ _ (by decide)]
  · rw [q]; unfold v_X5_takesBread; dsimp only; rw [zU_n _ _ (by decide), zU_n _ _ (by decide)]
  · rw [q, zU_n _ _ (by decide)]
  · rw [q]
theorem ztk_ph (M : Nat → Nat → Int32) (code : Int32) : zph (zTk M code).2 ≤ zph M + 1 := by
  rcases zTk_of M code with ⟨a, q⟩ | ⟨a, _⟩
  · rw [q]; exact Nat.le_trans (zph_bg M code) (Nat.le_add_left 1 _)
  · have h1 := zph_le (zTk M code).2
    have h2 := zph_pos a
    omega
theorem ztakes (M : Nat → Nat → Int32) (code : Int32) (hr : vp_in (M 8 0) 23) : (∀ k, k ≠ 7 → k ≠ 8 → k ≠ 9 → k ≠ 10 → (v_X5_takes M code).2 k = M k) ∧ vp_in ((v_X5_takes M code).2 8 0) 24 ∧
    3 * ((v_X5_takes M code).2 8 0).toNatClampNeg + zph (v_X5_takes M code).2 ≤ 3 * (M 8 0).toNatClampNeg + zph M + 1 := by
  have other : v_X5_takes M code = zTk M code → (∀ k, k ≠ 7 → k ≠ 8 → k ≠ 9 → k ≠ 10 → (v_X5_takes M code).2 k = M k) ∧ vp_in ((v_X5_takes M code).2 8 0) 24 ∧ 3 * ((v_X5_takes M code).2 8 0).toNatClampNeg + zph (v_X5_takes M code).2 ≤ 3 * (M 8 0).toNatClampNeg + zph M + 1 := by
    intro e
    rw [e, ztk_8]
    have := ztk_ph M code
    exact ⟨fun k h7 h8 h9 h10 => ztk_f M code h7 h8 h9 h10, zrd23 hr, by omega⟩
  have eq := zTk_eq M code
  by_cases a : code = 59
  · by_cases b : v_X5_isEnded M = true
    · rw [if_pos a, if_pos b] at eq
      have e2 : (v_X5_takes M code).2 = zU (zU M 8 (fun _ => ((M 8 0) + 1))) 10 (fun _ => 0) := by rw [eq]
      rw [e2]
      obtain ⟨j, hj, e⟩ := vp_in_of hr (by decide)
      have e8 : zU (zU M 8 (fun _ => ((M 8 0) + 1))) 10 (fun _ => 0) 8 0 = nI (j + 1) := by rw [zU_n _ _ (by decide), zU_s, e]; exact nI_1 j
      rw [e8, e, nI_nat (by omega), nI_nat (by omega)]
      refine ⟨fun k h7 h8 h9 h10 => by rw [zU_n _ _ h10, zU_n _ _ h8], vp_in_nI (by omega) (by decide), ?_⟩
      have hp : zph (zU (zU M 8 (fun _ => ((M 8 0) + 1))) 10 (fun _ => 0)) = 0 := zph_0 (by rw [zU_s])
      have hm : zph M = 2 := by
        unfold zph
        have hd : ¬ M 10 0 = 0 := fun z => by
          unfold v_X5_isEnded at b
          rw [z, if_neg (by decide), if_neg (by decide)] at b; cases b
        rw [if_neg hd, if_pos b]
      rw [← e, hp, hm]; omega
    · rw [if_pos a, if_neg b] at eq; exact other eq
  · rw [if_neg a] at eq; exact other eq
