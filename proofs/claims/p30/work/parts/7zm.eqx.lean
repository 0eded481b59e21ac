/-! the two worlds at the start -/
theorem zsu_z : ∀ k i : Nat, zsu (fun _ => (0 : Int32)) k i = 0
  | 0, _ => rfl
  | k + 1, i => by show (0 : Int32) + zsu (fun _ => (0 : Int32)) k (i + 1) = 0; rw [zsu_z k (i + 1)]; rfl
theorem zM0_x (j : Nat) : zM0 0 j = if j = 2 then 11 else if j = 3 then 22 else if j = 4 then 33 else if 53 ≤ j ∧ j < 353 then -1 else 0 := by unfold zM0; rw [if_pos rfl]
theorem zinv0 : zInv zO0 zT0 zT0 zT0 zT0 zT0 zT0 zT0 zO0 zM0 := by
  have z : ∀ j, (j < 2 ∨ (5 ≤ j ∧ j < 53) ∨ 353 ≤ j) → zM0 0 j = 0 := fun j hj => by rw [zM0_x, if_neg (by omega), if_neg (by omega), if_neg (by omega), if_neg (by omega)]
  have t0 : ∀ f k, f ≠ 9 → f ≠ 10 → zT0 f k = 0 := fun f k h h' => by unfold zT0; rw [if_neg h, if_neg h']
  refine ⟨⟨⟨?_, ?_, ?_⟩, fun g hg => ?_, fun k hk => ?_, fun p hp => ?_, fun b hb => ?_, ?_, fun b hb h => ?_⟩, ⟨?_, fun b hb => ?_, fun k hk => ?_⟩, ⟨?_, rfl, ?_, fun i hi => ?_⟩, ⟨?_, rfl, fun i hi => ?_⟩⟩
  · rw [t0 _ _ (by decide) (by decide), z 1 (by omega)]
  · rw [t0 _ _ (by decide) (by decide), z 0 (by omega)]
  · rw [t0 _ _ (by decide) (by decide), zsu_cong (h := fun _ => (0 : Int32)) 150 0 (fun p _ hp => z _ (by omega)), zsu_z]
  · rw [zM0_x]
    have : g = 0 ∨ g = 1 ∨ g = 2 := by omega
    rcases this with h | h | h <;> subst h <;> rfl
  · rw [zM0_x, if_neg (by omega), if_neg (by omega), if_neg (by omega), if_pos (by omega)]; rfl
  · rw [t0 _ _ (by decide) (by decide), t0 _ _ (by decide) (by decide), t0 _ _ (by decide) (by decide), t0 _ _ (by decide) (by decide), z _ (by omega), z _ (by omega), z _ (by omega), z _ (by omega)]
    exact ⟨⟨rfl, rfl, rfl, rfl⟩, zm8_0, zm8_0, zm8_0⟩
  · rw [t0 _ _ (by decide) (by decide), t0 _ _ (by decide) (by decide), t0 _ _ (by decide) (by decide), t0 _ _ (by decide) (by decide), t0 _ _ (by decide) (by decide), t0 _ _ (by decide) (by decide), z _ (by omega), z _ (by omega), z _ (by omega), z _ (by omega), z _ (by omega), z _ (by omega), b_0]
    exact ⟨rfl, rfl, rfl, rfl, rfl, rfl⟩
  · rw [t0 _ _ (by decide) (by decide)]; exact zm8_0
  · rw [t0 _ _ (by decide) (by decide)]; exact b_0 b
  · rw [z 1 (by omega)]; exact (vp_in_nI (by decide) (by decide) : vp_in (nI 0) 9)
  · rw [z _ (by omega), z _ (by omega)]
    refine ⟨Or.inr (vp_in_nI (by decide) (by decide) : vp_in (nI 0) 3), (vp_in_nI (by decide) (by decide) : vp_in (nI 0) 101), fun _ => ?_⟩
    have e0 : (0 : Int32).toNatClampNeg = 0 := rfl
    rw [e0]
    have zz : zct (zM0 0) (nI b) (53 + 100 * 0) 100 = 0 := by
      rcases Nat.eq_zero_or_pos (zct (zM0 0) (nI b) (53 + 100 * 0) 100) with q | q
      · exact q
      · obtain ⟨k, hk, e⟩ := zct_pos _ _ _ _ q
        rw [zM0_x, if_neg (by omega), if_neg (by omega), if_neg (by omega), if_pos (by omega)] at e
        exact absurd e.symm (nI_ne1 hb)
    exact zz.symm
  · left; rw [zM0_x, if_neg (by omega), if_neg (by omega), if_neg (by omega), if_pos (by omega)]
  · exact (vp_in_nI (by decide) (by decide) : vp_in (nI 0) 7)
  · exact (vp_in_nI (by decide) (by decide) : vp_in (nI 0) 6)
  · exact absurd hi (Nat.not_lt_zero _)
  · exact (vp_in_nI (by decide) (by decide) : vp_in (nI 0) 61)
  · exact absurd hi (Nat.not_lt_zero _)
