theorem zne {f : Nat → Int32} {k t : Nat} {x : Int32} (c : ¬ f k = x) (e : f t = x) (l : k ≤ t) : k + 1 ≤ t := by
  rcases Nat.lt_or_eq_of_le l with h | h
  · exact h
  · subst h; exact absurd e c
theorem zdecp {x : Int32} (h : 1 ≤ x.toInt) : (x + (-1)).toInt = x.toInt - 1 := by
  have c : ¬ x < 0 := fun q => by
    have := Int32.lt_iff_toInt_lt.mp q
    have e : (0 : Int32).toInt = 0 := by decide
    omega
  exact (zdec c).1
def v_X5_giveLowest_13 (M : Nat → Nat → Int32) (b : Nat) : Nat → Nat → (Nat → Nat → Int32)
  | 0, _ => ((fun _ _ => 0))
  | n + 1, k => (if (M 0 k) = (-1) then zU M 0 (upd (M 0) k (nI b)) else v_X5_giveLowest_13 M b n (k + 1))
def v_X5_giveLowest (M : Nat → Nat → Int32) (b : Nat) : (Nat → Nat → Int32) := v_X5_giveLowest_13 M b 101 (53 + (100 * (Int32.toNatClampNeg (v_X5_of M b 1))))
def v_X5_takeHighest_18 (M : Nat → Nat → Int32) (b : Nat) : Nat → Int32 → (Nat → Nat → Int32)
  | 0, _ => ((fun _ _ => 0))
  | n + 1, k => (if (M 0 (Int32.toNatClampNeg k)) = (nI b) then zU M 0 (upd (M 0) (Int32.toNatClampNeg k) (-1)) else v_X5_takeHighest_18 M b n (k + (-1)))
def v_X5_takeHighest (M : Nat → Nat → Int32) (b : Nat) : (Nat → Nat → Int32) := v_X5_takeHighest_18 M b 101 (nI ((53 + (100 * (Int32.toNatClampNeg (v_X5_of M b 1))) + 100) - 1))
