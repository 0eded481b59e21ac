/-! bits of the law's rows of longs -/
def lbt (x : Int64) (i : Nat) : Bool := x.toBitVec.getLsbD i
theorem lb_ext {x y : Int64} (h : ∀ i, i < 64 → lbt x i = lbt y i) : x = y := Int64.toBitVec_inj.mp (BitVec.eq_of_getLsbD_eq (fun i hi => h i hi))
theorem lb_or (x y : Int64) (i : Nat) : lbt (x ||| y) i = (lbt x i || lbt y i) := by unfold lbt; rw [Int64.toBitVec_or, BitVec.getLsbD_or]
theorem lb_and (x y : Int64) (i : Nat) : lbt (x &&& y) i = (lbt x i && lbt y i) := by unfold lbt; rw [Int64.toBitVec_and, BitVec.getLsbD_and]
theorem lb_xor (x y : Int64) (i : Nat) : lbt (x ^^^ y) i = (lbt x i ^^ lbt y i) := by unfold lbt; rw [Int64.toBitVec_xor, BitVec.getLsbD_xor]
theorem lb_m1 : ∀ i, i < 64 → lbt (-1) i = true := by decide +kernel
theorem lb_0 (i : Nat) : lbt 0 i = false := BitVec.getLsbD_zero
theorem lb_1 (i : Nat) : lbt 1 i = decide (i = 0) := by
  rcases Nat.lt_or_ge i 64 with h | h
  · exact (by decide +kernel : ∀ i, i < 64 → lbt 1 i = decide (i = 0)) i h
  · rw [decide_eq_false (by omega)]; exact BitVec.getLsbD_of_ge _ _ h
theorem ls_j : ∀ j, j < 50 → ((Int32.toInt64 (nI j) &&& 63).toBitVec.smod 64).toNat = j := by decide +kernel
theorem lb_shl {j : Nat} (hj : j < 50) (x : Int64) {i : Nat} (hi : i < 64) : lbt (x <<< (Int32.toInt64 (nI j) &&& 63)) i = (decide (j ≤ i) && lbt x (i - j)) := by
  unfold lbt
  rw [Int64.toBitVec_shiftLeft]
  show (x.toBitVec <<< ((Int32.toInt64 (nI j) &&& 63).toBitVec.smod 64).toNat).getLsbD i = _
  rw [ls_j j hj, BitVec.getLsbD_shiftLeft]
  rcases Nat.lt_or_ge i j with h | h
  · simp [h, Nat.not_le.mpr h]
  · simp [hi, h, Nat.not_lt.mpr h]
theorem lb_shr {j : Nat} (hj : j < 50) (x : Int64) : lbt (x >>> (Int32.toInt64 (nI j) &&& 63)) 0 = lbt x j := by
  unfold lbt
  rw [Int64.toBitVec_shiftRight]
  show (x.toBitVec.sshiftRight ((Int32.toInt64 (nI j) &&& 63).toBitVec.smod 64).toNat).getLsbD 0 = _
  rw [ls_j j hj, BitVec.getLsbD_sshiftRight]
  simp [show j < 64 by omega]
theorem lcmp0 {x y : Int64} : lg_cmp x y = 0 ↔ x = y := by
  unfold lg_cmp
  by_cases h1 : y < x
  · rw [if_pos h1]
    constructor
    · intro h; exact absurd h (by decide)
    · intro h; subst h; exact absurd h1 (by simp [Int64.lt_iff_toInt_lt])
  · rw [if_neg h1]
    by_cases h2 : x = y
    · simp [h2]
    · rw [if_neg h2]; constructor
      · intro h; exact absurd h (by decide)
      · intro h; exact absurd h h2
theorem lbit1 (x : Int64) : (x &&& 1 = 1) ↔ lbt x 0 = true := by
  constructor
  · intro h
    have h2 : lbt (x &&& 1) 0 = lbt 1 0 := by rw [h]
    rw [lb_and, lb_1] at h2
    simpa using h2
  · intro h
    refine lb_ext fun i hi => ?_
    rw [lb_and, lb_1]
    by_cases c : i = 0
    · subst c; rw [h]; rfl
    · rw [decide_eq_false c, Bool.and_false]
/-- the bit k of a row b, w longs a row -/
def zLb (Q : Nat → Nat → Int64) (f w b k : Nat) : Bool := lbt (Q f (w * b + k / 50)) (k % 50)
theorem zhas (x : Int64) (k : Nat) : (if lg_cmp ((x >>> (Int32.toInt64 (nI (k % 50)) &&& 63)) &&& 1) 1 = 0 then true else false) = lbt x (k % 50) := by
  have h50 : k % 50 < 50 := Nat.mod_lt _ (by decide)
  by_cases c : lbt x (k % 50) = true
  · rw [if_pos (lcmp0.mpr ((lbit1 _).mpr (by rw [lb_shr h50]; exact c))), c]
  · rw [if_neg (fun z => c (by rw [← lb_shr h50]; exact (lbit1 _).mp (lcmp0.mp z)))]
    cases h : lbt x (k % 50)
    · rfl
    · exact absurd h c
theorem has0 (Q : Nat → Nat → Int64) (w b k : Nat) : v_L_has_0 Q w b k = zLb Q 0 w b k := zhas _ k
theorem has1 (Q : Nat → Nat → Int64) (w b k : Nat) : v_L_has_1 Q w b k = zLb Q 1 w b k := zhas _ k
theorem has2 (Q : Nat → Nat → Int64) (w b k : Nat) : v_L_has_2 Q w b k = zLb Q 2 w b k := zhas _ k
theorem has3 (Q : Nat → Nat → Int64) (w b k : Nat) : v_L_has_3 Q w b k = zLb Q 3 w b k := zhas _ k
/-- a row with one bit laid -/
def zPut (Q : Nat → Nat → Int64) (f w b k : Nat) (v : Bool) : Nat → Nat → Int64 := if v = true then zU Q f (vp_updL (Q f) (w * b + k / 50) ((Q f (w * b + k / 50)) ||| ((1 : Int64) <<< (Int32.toInt64 (nI (k % 50)) &&& 63)))) else zU Q f (vp_updL (Q f) (w * b + k / 50) ((Q f (w * b + k / 50)) &&& (((1 : Int64) <<< (Int32.toInt64 (nI (k % 50)) &&& 63)) ^^^ (-1))))
theorem put0 (Q : Nat → Nat → Int64) (w b k : Nat) (v : Bool) : v_L_put_0 Q w b k v = zPut Q 0 w b k v := rfl
theorem put1 (Q : Nat → Nat → Int64) (w b k : Nat) (v : Bool) : v_L_put_1 Q w b k v = zPut Q 1 w b k v := rfl
theorem put2 (Q : Nat → Nat → Int64) (w b k : Nat) (v : Bool) : v_L_put_2 Q w b k v = zPut Q 2 w b k v := rfl
theorem put3 (Q : Nat → Nat → Int64) (w b k : Nat) (v : Bool) : v_L_put_3 Q w b k v = zPut Q 3 w b k v := rfl
theorem lset {x : Int64} {j i : Nat} (hj : j < 50) (hi : i < 50) : lbt (x ||| ((1 : Int64) <<< (Int32.toInt64 (nI j) &&& 63))) i = if i = j then true else lbt x i := by
  rw [lb_or, lb_shl hj _ (by omega), lb_1]
  by_cases c : i = j
  · subst c; simp
  · rw [if_neg c]
    by_cases q : j ≤ i
    · rw [decide_eq_false (show ¬ i - j = 0 by omega), Bool.and_false, Bool.or_false]
    · rw [decide_eq_false q, Bool.false_and, Bool.or_false]
theorem lclr {x : Int64} {j i : Nat} (hj : j < 50) (hi : i < 50) : lbt (x &&& (((1 : Int64) <<< (Int32.toInt64 (nI j) &&& 63)) ^^^ (-1))) i = if i = j then false else lbt x i := by
  rw [lb_and, lb_xor, lb_m1 i (by omega), lb_shl hj _ (by omega), lb_1]
  by_cases c : i = j
  · subst c; simp
  · rw [if_neg c]
    by_cases q : j ≤ i
    · rw [decide_eq_false (show ¬ i - j = 0 by omega), Bool.and_false]; simp
    · rw [decide_eq_false q, Bool.false_and]; simp
theorem zPut_n (Q : Nat → Nat → Int64) {f f' : Nat} (w b k : Nat) (v : Bool) (h : f' ≠ f) : zPut Q f w b k v f' = Q f' := by
  unfold zPut; cases v
  · rw [if_neg (by decide), zU_n _ _ h]
  · rw [if_pos rfl, zU_n _ _ h]
theorem zPut_ne (Q : Nat → Nat → Int64) {f f' : Nat} (w b k : Nat) (v : Bool) (h : f' ≠ f) (w' b' k' : Nat) : zLb (zPut Q f w b k v) f' w' b' k' = zLb Q f' w' b' k' := by
  unfold zLb; rw [zPut_n Q w b k v h]
theorem zPut_at (Q : Nat → Nat → Int64) (f : Nat) {w b k : Nat} (v : Bool) {b' k' : Nat} (hk : k < 50 * w) (hk' : k' < 50 * w) : zLb (zPut Q f w b k v) f w b' k' = if b' = b ∧ k' = k then v else zLb Q f w b' k' := by
  have h1 : k % 50 < 50 := Nat.mod_lt _ (by decide)
  have h2 : k' % 50 < 50 := Nat.mod_lt _ (by decide)
  have d1 : k / 50 < w := by omega
  have d2 : k' / 50 < w := by omega
  have inj : w * b' + k' / 50 = w * b + k / 50 → b' = b ∧ k' / 50 = k / 50 := by
    intro e
    have e1 : b' = b := by
      rcases Nat.lt_trichotomy b' b with q | q | q
      · have : w * (b' + 1) ≤ w * b := Nat.mul_le_mul_left w q
        rw [Nat.mul_add] at this; omega
      · exact q
      · have : w * (b + 1) ≤ w * b' := Nat.mul_le_mul_left w q
        rw [Nat.mul_add] at this; omega
    subst e1
    exact ⟨rfl, by omega⟩
  have key : ∀ y : Int64, (∀ i, i < 50 → lbt y i = if i = k % 50 then v else lbt (Q f (w * b + k / 50)) i) → lbt (vp_updL (Q f) (w * b + k / 50) y (w * b' + k' / 50)) (k' % 50) = if b' = b ∧ k' = k then v else lbt (Q f (w * b' + k' / 50)) (k' % 50) := by
    intro y hy
    unfold vp_updL
    by_cases c : w * b' + k' / 50 = w * b + k / 50
    · rw [if_pos c, hy _ h2]
      obtain ⟨e1, e2⟩ := inj c
      by_cases q : k' % 50 = k % 50
      · rw [if_pos q, if_pos ⟨e1, by omega⟩]
      · rw [if_neg q, if_neg (fun z => q (by rw [z.2])), c]
    · rw [if_neg c, if_neg (fun z => c (by rw [z.1, z.2]))]
  unfold zLb zPut
  cases v
  · rw [if_neg (by decide), zU_s]
    exact key _ (fun i hi => lclr h1 hi)
  · rw [if_pos rfl, zU_s]
    exact key _ (fun i hi => lset h1 hi)
