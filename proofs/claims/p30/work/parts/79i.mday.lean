theorem zdivn {a b : Nat} (ha : a < 2 ^ 31) (h0 : 0 < b) (hb : b < 2 ^ 31) : nI a / nI b = nI (a / b) := by
  apply Int32.toInt_inj.mp
  have h1 : a / b ≤ a := Nat.div_le_self a b
  have e : nI a ≠ Int32.minValue := fun h => by
    have h2 := congrArg Int32.toInt h
    rw [nI_toInt ha] at h2
    have m : Int32.minValue.toInt = -2147483648 := by decide
    omega
  rw [Int32.toInt_div_of_ne_left _ _ e, nI_toInt ha, nI_toInt hb, nI_toInt (by omega)]
  rfl
theorem zI_day {M : Nat → Nat → Int32} {x : Int32} (i : zI M) : zI (zU M 0 (upd (M 0) 0 x)) := by
  unfold zI; rw [zU_s]
  exact zRow_upd i (by decide) (fun b hb => by omega) (by omega)
theorem zI_u2 {M : Nat → Nat → Int32} {t t2 : Nat} {x y : Int32} (i : zI M) (h : 353 ≤ t) (h2 : 353 ≤ t2) : zI (zU M 0 (upd (upd (M 0) t x) t2 y)) := by
  unfold zI; rw [zU_s]
  exact zRow_upd (zRow_upd i (by omega) (fun b hb => by omega) (by omega)) (by omega) (fun b hb => by omega) (by omega)
def v_X5_dayPasses_14  : Nat → Nat → Nat → (Nat → Nat → Int32) → Int32 × (Nat → Nat → Int32)
  | 0, _, _, _ => (0, (fun _ _ => 0))
  | n + 1, many, i, M1 => (if 150 * (Int32.toNatClampNeg (M1 0 1)) ≤ i then ((nI many), M1) else (if (v_X5_eatsNow M1 (i / (Int32.toNatClampNeg (M1 0 1))) (i % (Int32.toNatClampNeg (M1 0 1)))) ≤ 0 then v_X5_dayPasses_14 n many (i + 1) M1 else v_X5_dayPasses_14 n (many + 1) (i + 1) (v_X5_put (zU M1 0 (upd (upd (M1 0) (653 + (i / (Int32.toNatClampNeg (M1 0 1)))) ((M1 0 (653 + (i / (Int32.toNatClampNeg (M1 0 1))))) ||| ((1 : Int32) <<< ((nI (i % (Int32.toNatClampNeg (M1 0 1)))) &&& 31)))) (803 + (i / (Int32.toNatClampNeg (M1 0 1)))) (((upd (M1 0) (653 + (i / (Int32.toNatClampNeg (M1 0 1)))) ((M1 0 (653 + (i / (Int32.toNatClampNeg (M1 0 1))))) ||| ((1 : Int32) <<< ((nI (i % (Int32.toNatClampNeg (M1 0 1)))) &&& 31)))) (803 + (i / (Int32.toNatClampNeg (M1 0 1))))) + 1))) (i % (Int32.toNatClampNeg (M1 0 1))) 5 ((v_X5_of (zU M1 0 (upd (upd (M1 0) (653 + (i / (Int32.toNatClampNeg (M1 0 1)))) ((M1 0 (653 + (i / (Int32.toNatClampNeg (M1 0 1))))) ||| ((1 : Int32) <<< ((nI (i % (Int32.toNatClampNeg (M1 0 1)))) &&& 31)))) (803 + (i / (Int32.toNatClampNeg (M1 0 1)))) (((upd (M1 0) (653 + (i / (Int32.toNatClampNeg (M1 0 1)))) ((M1 0 (653 + (i / (Int32.toNatClampNeg (M1 0 1))))) ||| ((1 : Int32) <<< ((nI (i % (Int32.toNatClampNeg (M1 0 1)))) &&& 31)))) (803 + (i / (Int32.toNatClampNeg (M1 0 1))))) + 1))) (i % (Int32.toNatClampNeg (M1 0 1))) 5) + 1))))
def v_X5_dayPasses (M : Nat → Nat → Int32) : Int32 × (Nat → Nat → Int32) := v_X5_dayPasses_14 1201 0 0 (zU M 0 (upd (M 0) 0 ((M 0 0) + 1)))
