/-- a carried command, its roads in order -/
def zCr (M : Nat → Nat → Int32) (p : Nat) : Bool × (Nat → Nat → Int32) := if M 7 (3 * p) = 100 then (true, (v_X5_passes M (Int32.toNatClampNeg (M 7 (3 * p + 2)))).2) else if v_X5_isBread M (M 7 (3 * p + 1)) = true then
  (if M 7 (3 * p) = 43 then (if v_X5_canRaise M (Int32.toNatClampNeg (M 7 (3 * p + 1))) (nI (Int32.toNatClampNeg (M 7 (3 * p + 2)))) = true then (true, v_X5_setShare M (Int32.toNatClampNeg (M 7 (3 * p + 1))) (Int32.toNatClampNeg (M 7 (3 * p + 2)))) else (false, M))
   else if M 7 (3 * p) = 45 then (if v_X5_canLower M (Int32.toNatClampNeg (M 7 (3 * p + 1))) (nI (Int32.toNatClampNeg (M 7 (3 * p + 2)))) = true then (true, v_X5_setShare M (Int32.toNatClampNeg (M 7 (3 * p + 1))) (Int32.toNatClampNeg (M 7 (3 * p + 2)))) else (false, M))
   else if v_X5_isOpen M (Int32.toNatClampNeg (M 7 (3 * p + 1))) = true then (if M 7 (3 * p) = 120 then (true, v_X5_ends M (Int32.toNatClampNeg (M 7 (3 * p + 1)))) else if M 7 (3 * p) = 105 then (true, v_X5_holds M (Int32.toNatClampNeg (M 7 (3 * p + 2))) (Int32.toNatClampNeg (M 7 (3 * p + 1))) 1 0) else (true, v_X5_holds M (Int32.toNatClampNeg (M 7 (3 * p + 2))) (Int32.toNatClampNeg (M 7 (3 * p + 1))) 0 1)) else (false, M))
  else (false, M)
theorem zCr_eq (M : Nat → Nat → Int32) (p : Nat) : v_X5_carries M p = zCr M p := by
  unfold v_X5_carries zCr
  by_cases a : M 7 (3 * p) = 100
  · rw [if_pos a, if_pos a]
  · rw [if_neg a, if_neg a]
    by_cases b : v_X5_isBread M (M 7 (3 * p + 1)) = true
    · rw [if_pos b, if_pos b]
      by_cases c : M 7 (3 * p) = 43
      · have n : ¬ M 7 (3 * p) = 120 := fun h => absurd (c.symm.trans h) (by decide)
        simp only [if_pos c, if_neg n]
      · by_cases d : M 7 (3 * p) = 45
        · have n : ¬ M 7 (3 * p) = 120 := fun h => absurd (d.symm.trans h) (by decide)
          simp only [if_neg c, if_pos d, if_neg n]
        · by_cases o : v_X5_isOpen M (Int32.toNatClampNeg (M 7 (3 * p + 1))) = true
          · by_cases x : M 7 (3 * p) = 120
            · simp only [if_neg c, if_neg d, if_pos o, if_pos x]
            · by_cases i : M 7 (3 * p) = 105
              · simp only [if_neg c, if_neg d, if_pos o, if_neg x, if_pos i]
              · simp only [if_neg c, if_neg d, if_pos o, if_neg x, if_neg i]
          · simp only [if_neg c, if_neg d, if_neg o]
    · rw [if_neg b, if_neg b]
