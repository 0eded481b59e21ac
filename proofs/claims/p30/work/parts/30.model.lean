def v_X5_within (v : Int32) (lo : Int32) (hi : Int32) : Bool := (if v < lo then false else (if hi < v then false else true))
def v_X5_isPerson (x : Int32) : Bool := v_X5_within x 0 149
def v_X5_isSalt (x : Int32) : Bool := v_X5_within x 0 9999
def v_X5_isShare (x : Int32) : Bool := v_X5_within x 0 100
def v_X5_isGroup (x : Int32) : Bool := v_X5_within x 0 2
def v_X5_ones_4 (x : Int32) : Nat → Int32 → Nat → Int32
  | 0, _, _ => (0)
  | n + 1, many, i => (if 8 ≤ i then many else v_X5_ones_4 x n (many + ((x >>> ((nI i) &&& 31)) &&& 1)) (i + 1))
def v_X5_ones (x : Int32) : Int32 := v_X5_ones_4 x 9 0 0
def v_X5_bucketBy (x : Int32) (sal : Int32) : Nat := Int32.toNatClampNeg (((((((((x * (-1640531535)) + (sal * 40503)) ^^^ ((Int32.toUInt32 ((x * (-1640531535)) + (sal * 40503)) >>> (Int32.toUInt32 15 &&& Int32.toUInt32 31)).toInt32)) * (-2048144777)) ^^^ ((Int32.toUInt32 ((((x * (-1640531535)) + (sal * 40503)) ^^^ ((Int32.toUInt32 ((x * (-1640531535)) + (sal * 40503)) >>> (Int32.toUInt32 15 &&& Int32.toUInt32 31)).toInt32)) * (-2048144777)) >>> (Int32.toUInt32 13 &&& Int32.toUInt32 31)).toInt32)) * (-1028477379)) ^^^ ((Int32.toUInt32 ((((((x * (-1640531535)) + (sal * 40503)) ^^^ ((Int32.toUInt32 ((x * (-1640531535)) + (sal * 40503)) >>> (Int32.toUInt32 15 &&& Int32.toUInt32 31)).toInt32)) * (-2048144777)) ^^^ ((Int32.toUInt32 ((((x * (-1640531535)) + (sal * 40503)) ^^^ ((Int32.toUInt32 ((x * (-1640531535)) + (sal * 40503)) >>> (Int32.toUInt32 15 &&& Int32.toUInt32 31)).toInt32)) * (-2048144777)) >>> (Int32.toUInt32 13 &&& Int32.toUInt32 31)).toInt32)) * (-1028477379)) >>> (Int32.toUInt32 16 &&& Int32.toUInt32 31)).toInt32)) &&& 2147483647) - ((((((((x * (-1640531535)) + (sal * 40503)) ^^^ ((Int32.toUInt32 ((x * (-1640531535)) + (sal * 40503)) >>> (Int32.toUInt32 15 &&& Int32.toUInt32 31)).toInt32)) * (-2048144777)) ^^^ ((Int32.toUInt32 ((((x * (-1640531535)) + (sal * 40503)) ^^^ ((Int32.toUInt32 ((x * (-1640531535)) + (sal * 40503)) >>> (Int32.toUInt32 15 &&& Int32.toUInt32 31)).toInt32)) * (-2048144777)) >>> (Int32.toUInt32 13 &&& Int32.toUInt32 31)).toInt32)) * (-1028477379)) ^^^ ((Int32.toUInt32 ((((((x * (-1640531535)) + (sal * 40503)) ^^^ ((Int32.toUInt32 ((x * (-1640531535)) + (sal * 40503)) >>> (Int32.toUInt32 15 &&& Int32.toUInt32 31)).toInt32)) * (-2048144777)) ^^^ ((Int32.toUInt32 ((((x * (-1640531535)) + (sal * 40503)) ^^^ ((Int32.toUInt32 ((x * (-1640531535)) + (sal * 40503)) >>> (Int32.toUInt32 15 &&& Int32.toUInt32 31)).toInt32)) * (-2048144777)) >>> (Int32.toUInt32 13 &&& Int32.toUInt32 31)).toInt32)) * (-1028477379)) >>> (Int32.toUInt32 16 &&& Int32.toUInt32 31)).toInt32)) &&& 2147483647) / 100 * 100)
def v_X5_of (M : Nat → Nat → Int32) (b : Nat) (k : Nat) : Int32 := (M 0 (5 + (6 * b) + k))
def v_X5_isBread (M : Nat → Nat → Int32) (x : Int32) : Bool := v_X5_within x 0 ((M 0 1) - 1)
def v_X5_isOpen (M : Nat → Nat → Int32) (b : Nat) : Bool := (if (v_X5_of M b 0) = 1 then true else false)
def v_X5_isOfGroup (M : Nat → Nat → Int32) (b : Nat) : Bool := (if (v_X5_of M b 1) = (-1) then false else true)
theorem v_X5_bucketBy_lt (x s : Int32) : v_X5_bucketBy x s < 100 := (znat (zbucket _)).2
/-- the breads' groups, in the reference's row -/
def zG (M : Nat → Nat → Int32) : Prop := ∀ b : Nat, b < 8 → M 0 (5 + 6 * b + 1) = -1 ∨ vp_in (M 0 (5 + 6 * b + 1)) 3
theorem zmg {M : Nat → Nat → Int32} {b : Nat} (c : v_X5_isOfGroup M b = true) (hb : b < 8) (hG : zG M) : vp_in (v_X5_of M b 1) 3 := by
  rcases hG b hb with h | h
  · have h2 : v_X5_of M b 1 = -1 := h
    unfold v_X5_isOfGroup at c
    rw [if_pos h2] at c
    cases c
  · exact h
def v_X5_saltOf (M : Nat → Nat → Int32) (b : Nat) : Int32 := (if (v_X5_isOfGroup M b) = true then (M 0 (2 + (Int32.toNatClampNeg (v_X5_of M b 1)))) else (v_X5_of M b 2))
def v_X5_owns (M : Nat → Nat → Int32) (b : Nat) (k : Nat) : Bool := (if (v_X5_isOfGroup M b) = true then (if (M 0 (53 + (100 * (Int32.toNatClampNeg (v_X5_of M b 1))) + k)) = (nI b) then true else false) else (if (v_X5_of M b 3) ≤ (nI k) then false else true))
def v_X5_freeOf_4 (M : Nat → Nat → Int32) (gr : Nat) : Nat → Int32 → Nat → Int32
  | 0, _, _ => (0)
  | n + 1, many, i => (if 100 ≤ i then many else (if (M 0 (53 + (100 * gr) + i)) = (-1) then v_X5_freeOf_4 M gr n (many + 1) (i + 1) else v_X5_freeOf_4 M gr n (many + 0) (i + 1)))
def v_X5_freeOf (M : Nat → Nat → Int32) (gr : Nat) : Int32 := v_X5_freeOf_4 M gr 101 0 0
def v_X5_hasRoom (M : Nat → Nat → Int32) (b : Nat) (to : Int32) : Bool := (if (v_X5_isOfGroup M b) = true then (if (v_X5_freeOf M (Int32.toNatClampNeg (v_X5_of M b 1))) < (to - (v_X5_of M b 3)) then false else true) else true)
def v_X5_isHeld (M : Nat → Nat → Int32) (from1 : Nat) (pe : Nat) (b : Nat) : Bool := (if (((M 0 (from1 + pe)) >>> ((nI b) &&& 31)) &&& 1) = 1 then true else false)
def v_X5_eatsNow (M : Nat → Nat → Int32) (pe : Nat) (b : Nat) : Int32 := (if (v_X5_isOpen M b) = true then (if (v_X5_isHeld M 503 pe b) = true then 0 else (if (v_X5_isHeld M 353 pe b) = true then 1 else (if (v_X5_owns M b (v_X5_bucketBy (nI pe) (v_X5_saltOf M b))) = true then 3 else (if (v_X5_of M b 4) = 1 then (if (v_X5_isHeld M 653 pe b) = true then 2 else 0) else 0)))) else 0)
def v_X5_eaters_4 (M : Nat → Nat → Int32) (b : Nat) : Nat → Int32 → Nat → Int32
  | 0, _, _ => (0)
  | n + 1, many, i => (if 150 ≤ i then many else (if (v_X5_eatsNow M i b) ≤ 0 then v_X5_eaters_4 M b n (many + 0) (i + 1) else v_X5_eaters_4 M b n (many + 1) (i + 1)))
def v_X5_eaters (M : Nat → Nat → Int32) (b : Nat) : Int32 := v_X5_eaters_4 M b 151 0 0
def v_X5_breadsOf_4 (M : Nat → Nat → Int32) (pe : Nat) : Nat → Int32 → Nat → Int32
  | 0, _, _ => (0)
  | n + 1, bits, i => (if (M 0 1) ≤ (nI i) then bits else (if (v_X5_eatsNow M pe i) ≤ 0 then v_X5_breadsOf_4 M pe n (bits ||| 0) (i + 1) else v_X5_breadsOf_4 M pe n (bits ||| ((1 : Int32) <<< ((nI i) &&& 31))) (i + 1)))
def v_X5_breadsOf (M : Nat → Nat → Int32) (pe : Nat) : Int32 := v_X5_breadsOf_4 M pe 9 0 0
def v_X5_changed_4 (M : Nat → Nat → Int32) (b : Nat) : Nat → Int32 → Nat → Int32
  | 0, _, _ => (0)
  | n + 1, many, i => (if 150 ≤ i then many else (if (v_X5_eatsNow M i b) ≤ 0 then (if 0 = (M 6 i) then v_X5_changed_4 M b n (many + 0) (i + 1) else v_X5_changed_4 M b n (many + 1) (i + 1)) else (if 1 = (M 6 i) then v_X5_changed_4 M b n (many + 0) (i + 1) else v_X5_changed_4 M b n (many + 1) (i + 1))))
def v_X5_changed (M : Nat → Nat → Int32) (b : Nat) : Int32 := v_X5_changed_4 M b 151 0 0
def v_X5_personsWith_5 (M : Nat → Nat → Int32) (from1 : Nat) (b : Nat) : Nat → Int32 → Nat → Int32
  | 0, _, _ => (0)
  | n + 1, many, i => (if 150 ≤ i then many else (if (v_X5_isHeld M from1 i b) = true then v_X5_personsWith_5 M from1 b n (many + 1) (i + 1) else v_X5_personsWith_5 M from1 b n (many + 0) (i + 1)))
def v_X5_personsWith (M : Nat → Nat → Int32) (from1 : Nat) (b : Nat) : Int32 := v_X5_personsWith_5 M from1 b 151 0 0
def v_X5_canRaise (M : Nat → Nat → Int32) (b : Nat) (to : Int32) : Bool := (if (v_X5_isOpen M b) = true then (if to < (v_X5_of M b 3) then false else (if (v_X5_hasRoom M b to) = true then true else false)) else false)
def v_X5_canLower (M : Nat → Nat → Int32) (b : Nat) (to : Int32) : Bool := (if (v_X5_isOpen M b) = true then (if (v_X5_of M b 3) < to then false else true) else false)
def v_X5_hasOwnSalt (M : Nat → Nat → Int32) (b : Nat) : Bool := (if (v_X5_isOpen M b) = true then (if (v_X5_isOfGroup M b) = true then false else true) else false)
def v_X5_lowestOf_2 (M : Nat → Nat → Int32) (b : Nat) : Nat → Nat → Int32
  | 0, _ => (0)
  | n + 1, i => (if 100 ≤ i then (if i = 100 then (-1) else (nI i)) else (if (v_X5_owns M b i) = true then (if i = 100 then (-1) else (nI i)) else v_X5_lowestOf_2 M b n (i + 1)))
def v_X5_lowestOf (M : Nat → Nat → Int32) (b : Nat) : Int32 := v_X5_lowestOf_2 M b 101 0
def v_X5_highestOf_3 (M : Nat → Nat → Int32) (b : Nat) : Nat → Int32 → Int32
  | 0, _ => (0)
  | n + 1, i => (if i < 0 then i else (if (v_X5_owns M b (Int32.toNatClampNeg i)) = true then i else v_X5_highestOf_3 M b n (i + (-1))))
def v_X5_highestOf (M : Nat → Nat → Int32) (b : Nat) : Int32 := v_X5_highestOf_3 M b 101 99
def v_X5_breadNow (M : Nat → Nat → Int32) (b : Nat) (k : Nat) : Int32 := (if k = 0 then (v_X5_of M b k) else (if k = 1 then (v_X5_of M b k) else (if k = 2 then (v_X5_saltOf M b) else (if k = 3 then (v_X5_of M b k) else (if k = 4 then (v_X5_of M b k) else (if k = 5 then (v_X5_eaters M b) else (if k = 6 then (v_X5_personsWith M 653 b) else (if k = 7 then (v_X5_of M b 5) else (if k = 8 then (v_X5_personsWith M 353 b) else (if k = 9 then (v_X5_personsWith M 503 b) else (if k = 10 then (v_X5_lowestOf M b) else (v_X5_highestOf M b))))))))))))
def v_X5_personNow (M : Nat → Nat → Int32) (pe : Nat) (k : Nat) : Int32 := (if k = 0 then (v_X5_breadsOf M pe) else (if k = 1 then (M 0 (653 + pe)) else (if k = 2 then (M 0 (353 + pe)) else (if k = 3 then (M 0 (503 + pe)) else (M 0 (803 + pe))))))
def v_X5_openBreads_4 (M : Nat → Nat → Int32) : Nat → Int32 → Nat → Int32
  | 0, _, _ => (0)
  | n + 1, many, i => (if (M 0 1) ≤ (nI i) then many else v_X5_openBreads_4 M n (many + (v_X5_of M i 0)) (i + 1))
def v_X5_openBreads (M : Nat → Nat → Int32) : Int32 := v_X5_openBreads_4 M 9 0 0
def v_X5_bothEat_5 (M : Nat → Nat → Int32) (b : Nat) (b2 : Nat) : Nat → Int32 → Nat → Int32
  | 0, _, _ => (0)
  | n + 1, many, i => (if 150 ≤ i then many else (if (v_X5_eatsNow M i b) ≤ 0 then v_X5_bothEat_5 M b b2 n (many + 0) (i + 1) else (if (v_X5_eatsNow M i b2) ≤ 0 then v_X5_bothEat_5 M b b2 n (many + 0) (i + 1) else v_X5_bothEat_5 M b b2 n (many + 1) (i + 1))))
def v_X5_bothEat (M : Nat → Nat → Int32) (b : Nat) (b2 : Nat) : Int32 := v_X5_bothEat_5 M b b2 151 0 0
def v_X5_eatsTwo_23 (M : Nat → Nat → Int32) (pe : Nat) (gr : Nat) : Nat → Int32 → Nat → Int32 × Nat
  | 0, _, _ => (0, 0)
  | n + 1, many, i => (if (M 0 1) ≤ (nI i) then (many, i) else (if (v_X5_of M i 1) = (nI gr) then v_X5_eatsTwo_23 M pe gr n (many + (((v_X5_breadsOf M pe) >>> ((nI i) &&& 31)) &&& 1)) (i + 1) else v_X5_eatsTwo_23 M pe gr n (many + 0) (i + 1)))
def v_X5_eatsTwo_11 (M : Nat → Nat → Int32) (pe : Nat) : Nat → Bool → Nat → Bool
  | 0, _, _ => (false)
  | n + 1, two, gr => (if 3 ≤ gr then two else (if two = true then v_X5_eatsTwo_11 M pe n true (gr + 1) else (if ((v_X5_eatsTwo_23 M pe gr 9 0 0).1) ≤ 1 then v_X5_eatsTwo_11 M pe n false (gr + 1) else v_X5_eatsTwo_11 M pe n true (gr + 1))))
def v_X5_eatsTwo (M : Nat → Nat → Int32) (pe : Nat) : Bool := v_X5_eatsTwo_11 M pe 4 false 0
def v_X5_sumOf_4 (M : Nat → Nat → Int32) (k : Nat) : Nat → Int32 → Nat → Int32
  | 0, _, _ => (0)
  | n + 1, sm, i => (if 150 ≤ i then sm else (if k = 4 then (if (v_X5_breadsOf M i) ≤ 0 then (if k = 3 then v_X5_sumOf_4 M k n (sm + (M 0 (803 + i))) (i + 1) else (if k = 7 then v_X5_sumOf_4 M k n (sm + ((v_X5_ones (M 0 (353 + i))) + (v_X5_ones (M 0 (503 + i))))) (i + 1) else v_X5_sumOf_4 M k n (sm + 0) (i + 1))) else (if k = 3 then v_X5_sumOf_4 M k n (sm + (M 0 (803 + i))) (i + 1) else (if k = 7 then v_X5_sumOf_4 M k n (sm + ((v_X5_ones (M 0 (353 + i))) + (v_X5_ones (M 0 (503 + i))))) (i + 1) else v_X5_sumOf_4 M k n (sm + 1) (i + 1)))) else (if k = 5 then (if (M 0 (653 + i)) ≤ 0 then (if k = 3 then v_X5_sumOf_4 M k n (sm + (M 0 (803 + i))) (i + 1) else (if k = 7 then v_X5_sumOf_4 M k n (sm + ((v_X5_ones (M 0 (353 + i))) + (v_X5_ones (M 0 (503 + i))))) (i + 1) else v_X5_sumOf_4 M k n (sm + 0) (i + 1))) else (if k = 3 then v_X5_sumOf_4 M k n (sm + (M 0 (803 + i))) (i + 1) else (if k = 7 then v_X5_sumOf_4 M k n (sm + ((v_X5_ones (M 0 (353 + i))) + (v_X5_ones (M 0 (503 + i))))) (i + 1) else v_X5_sumOf_4 M k n (sm + 1) (i + 1)))) else (if k = 6 then (if (v_X5_eatsTwo M i) = true then (if k = 3 then v_X5_sumOf_4 M k n (sm + (M 0 (803 + i))) (i + 1) else (if k = 7 then v_X5_sumOf_4 M k n (sm + ((v_X5_ones (M 0 (353 + i))) + (v_X5_ones (M 0 (503 + i))))) (i + 1) else v_X5_sumOf_4 M k n (sm + 1) (i + 1))) else (if k = 3 then v_X5_sumOf_4 M k n (sm + (M 0 (803 + i))) (i + 1) else (if k = 7 then v_X5_sumOf_4 M k n (sm + ((v_X5_ones (M 0 (353 + i))) + (v_X5_ones (M 0 (503 + i))))) (i + 1) else v_X5_sumOf_4 M k n (sm + 0) (i + 1)))) else (if k = 3 then v_X5_sumOf_4 M k n (sm + (M 0 (803 + i))) (i + 1) else (if k = 7 then v_X5_sumOf_4 M k n (sm + ((v_X5_ones (M 0 (353 + i))) + (v_X5_ones (M 0 (503 + i))))) (i + 1) else v_X5_sumOf_4 M k n (sm + 0) (i + 1)))))))
def v_X5_sumOf (M : Nat → Nat → Int32) (k : Nat) : Int32 := v_X5_sumOf_4 M k 151 0 0
def v_X5_counted (M : Nat → Nat → Int32) (k : Nat) : Int32 := (if k ≤ 19 then (if k ≤ 9 then (if k = 0 then (M 0 1) else (if k = 1 then (v_X5_openBreads M) else (if k = 2 then (M 0 0) else (if k = 3 then (v_X5_sumOf M k) else (if k = 4 then (v_X5_sumOf M k) else (if k = 5 then (v_X5_sumOf M k) else (if k = 6 then (v_X5_sumOf M k) else (if k = 7 then (v_X5_sumOf M k) else (if k = 8 then (M 1 0) else (v_X5_sumOf M k)))))))))) else (M 0 ((2 + k) - 10))) else (v_X5_freeOf M (k - 20)))
