/-! the rows at the start -/
def zI0 : Nat → Nat → Int32 := fun k => if k = 0 then upd (upd (upd (fun _ => 0) 4 11) 5 22) 6 33 else fun _ => 0
def zQ0L : Nat → Nat → Int64 := fun _ _ => 0
theorem zPI0 : zPI zO0 zT0 zM0 zI0 zQ0L := by
  have V := zinv0
  have z : ∀ j, (j < 2 ∨ (5 ≤ j ∧ j < 53) ∨ 353 ≤ j) → zM0 0 j = 0 := fun j hj => by rw [zM0_x, if_neg (by omega), if_neg (by omega), if_neg (by omega), if_neg (by omega)]
  have b0 : ∀ f w b k, zLb zQ0L f w b k = false := fun f w b k => lb_0 _
  have i0 : zI0 0 0 = 0 := rfl
  have n0 : (zI0 0 0).toNatClampNeg = 0 := rfl
  refine ⟨V.tw, V.ro, ⟨⟨by rw [i0]; exact (vp_in_nI (n := 0) (N := 6) (by decide) (by decide)), by rw [z 1 (by omega)]; rfl, by rw [z 0 (by omega)]; rfl, ?_, fun g hg => ?_⟩, ?_, ?_, ?_, ?_, ?_⟩, ?_, ?_, rfl⟩
  · rw [zsu_cong (h := fun _ => (0 : Int32)) 150 0 (fun p _ hp => z _ (by omega)), zsu_z]; rfl
  · rw [zM0_x]
    have : g = 0 ∨ g = 1 ∨ g = 2 := by omega
    rcases this with h | h | h <;> subst h <;> rfl
  · intro b hb; rw [n0] at hb; exact absurd hb (Nat.not_lt_zero _)
  · intro b hb; rw [n0] at hb; exact absurd hb (Nat.not_lt_zero _)
  · intro b hb p hp
    rw [b0, b0, b0, z _ (by omega), z _ (by omega), z _ (by omega), b_0]; exact ⟨rfl, rfl, rfl⟩
  · intro b _ _
    exact ⟨⟨rfl, rfl⟩, fun k _ => b0 _ _ _ _, fun p _ => ⟨b0 _ _ _ _, b0 _ _ _ _, b0 _ _ _ _⟩⟩
  · intro g hg k hk b hb; rw [n0] at hb; exact absurd hb (Nat.not_lt_zero _)
  · exact (vp_in_nI (n := 0) (N := 7) (by decide) (by decide))
  · exact (vp_in_nI (n := 0) (N := 6) (by decide) (by decide))
