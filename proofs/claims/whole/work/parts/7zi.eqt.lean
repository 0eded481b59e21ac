/-! THE TEXT: both parsers take the same -/
theorem zX0_0 {X : Nat → Nat → Int32} (code : Int32) (h : X 3 0 = 0) : v_X0_take X code = v_X0_takeKind X code := by unfold v_X0_take; rw [if_pos h]
theorem zX0_1 {X : Nat → Nat → Int32} (code : Int32) (h : X 3 0 = 1) : v_X0_take X code = v_X0_takeBread X code := by unfold v_X0_take; rw [if_neg (by rw [h]; decide), if_pos h]
theorem zX0_2 {X : Nat → Nat → Int32} (code : Int32) (h : X 3 0 = 2) : v_X0_take X code = v_X0_takeSign X code 61 3 := by unfold v_X0_take; rw [if_neg (by rw [h]; decide), if_neg (by rw [h]; decide), if_pos h]
theorem zX0_3 {X : Nat → Nat → Int32} (code : Int32) (h : X 3 0 = 3) : v_X0_take X code = v_X0_takeFirstDigit X code := by unfold v_X0_take; rw [if_neg (by rw [h]; decide), if_neg (by rw [h]; decide), if_neg (by rw [h]; decide), if_pos h]
theorem zX0_4 {X : Nat → Nat → Int32} (code : Int32) (h : X 3 0 = 4) : v_X0_take X code = (if v_X0_isDigit code = true then v_X0_takeNextDigit X code else v_X0_takeEndOfNumber X code) := by unfold v_X0_take; rw [if_neg (by rw [h]; decide), if_neg (by rw [h]; decide), if_neg (by rw [h]; decide), if_neg (by rw [h]; decide), if_pos h]
theorem zX0_5 {X : Nat → Nat → Int32} (code : Int32) (h : X 3 0 = 5) : v_X0_take X code = v_X0_takeSign X code 59 0 := by unfold v_X0_take; rw [if_neg (by rw [h]; decide), if_neg (by rw [h]; decide), if_neg (by rw [h]; decide), if_neg (by rw [h]; decide), if_neg (by rw [h]; decide)]
theorem ztake_f (X : Nat → Nat → Int32) (code : Int32) {f : Nat} (h3 : f ≠ 3) (h4 : f ≠ 4) (h5 : f ≠ 5) (h6 : f ≠ 6) : (v_X0_take X code).2 f = X f := by
  have sg : ∀ s n, (v_X0_takeSign X code s n).2 f = X f := fun s n => by
    unfold v_X0_takeSign
    by_cases c : code = s
    · rw [if_pos c]; exact zU_n _ _ h3
    · rw [if_neg c]
  have nd : (v_X0_takeNextDigit X code).2 f = X f := by
    unfold v_X0_takeNextDigit
    by_cases c : X 6 0 = 0
    · rw [if_pos c]
    · rw [if_neg c]
      by_cases d : ((((10 : Int32) * (X 6 0)) + code) - 48) ≤ (v_X0_greatestNumber X)
      · rw [if_pos d]; exact zU_n _ _ h6
      · rw [if_neg d]
  have en : (v_X0_takeEndOfNumber X code).2 f = X f := by
    unfold v_X0_takeEndOfNumber
    by_cases c : v_X0_isHoldKind X = true
    · rw [if_pos c]; exact sg 64 1
    · rw [if_neg c]; exact sg 59 0
  have kd : (v_X0_takeKind X code).2 f = X f := by
    unfold v_X0_takeKind
    repeat' split
    all_goals (dsimp only; first | (rw [zU_n _ _ h3, zU_n _ _ h4]) | (rw [zU_n _ _ h4]))
  have br : (v_X0_takeBread X code).2 f = X f := by
    unfold v_X0_takeBread
    repeat' split
    all_goals first | rfl | (dsimp only; rw [zU_n _ _ h3, zU_n _ _ h5])
  have fd : (v_X0_takeFirstDigit X code).2 f = X f := by
    unfold v_X0_takeFirstDigit
    repeat' split
    all_goals first | rfl | (dsimp only; rw [zU_n _ _ h3, zU_n _ _ h6])
  unfold v_X0_take
  by_cases c0 : X 3 0 = 0
  · rw [if_pos c0]; exact kd
  · rw [if_neg c0]
    by_cases c1 : X 3 0 = 1
    · rw [if_pos c1]; exact br
    · rw [if_neg c1]
      by_cases c2 : X 3 0 = 2
      · rw [if_pos c2]; exact sg 61 3
      · rw [if_neg c2]
        by_cases c3 : X 3 0 = 3
        · rw [if_pos c3]; exact fd
        · rw [if_neg c3]
          by_cases c4 : X 3 0 = 4
          · rw [if_pos c4]
            by_cases d : v_X0_isDigit code = true
            · rw [if_pos d]; exact nd
            · rw [if_neg d]; exact en
          · rw [if_neg c4]; exact sg 59 0
/-- the kinds whose number is a share or days, with what is known of the bread -/
def zNk (X M : Nat → Nat → Int32) (r : Nat) : Prop := (M 10 0 = 3 ∧ (X 4 0 = 100 ∨ ((X 4 0 = 43 ∨ X 4 0 = 45) ∧ X 5 0 = M 7 (3 * r + 1)))) ∨ (M 10 0 = 4 ∧ (X 4 0 = 105 ∨ X 4 0 = 111))
/-- where the two parsers are -/
def zPr (X M : Nat → Nat → Int32) : Prop := (X 3 0 = 0 ∧ M 10 0 = 0) ∨ (X 4 0 = M 7 (3 * (M 8 0).toNatClampNeg) ∧ (
  (X 3 0 = 1 ∧ M 10 0 = 1 ∧ M 9 0 = -1 ∧ (X 4 0 = 43 ∨ X 4 0 = 45)) ∨
  (X 3 0 = 1 ∧ M 10 0 = 5 ∧ (X 4 0 = 120 ∨ ((X 4 0 = 105 ∨ X 4 0 = 111) ∧ X 6 0 = M 7 (3 * (M 8 0).toNatClampNeg + 2)))) ∨
  (X 3 0 = 2 ∧ M 10 0 = 2 ∧ M 9 0 = -1 ∧ (X 4 0 = 43 ∨ X 4 0 = 45) ∧ X 5 0 = M 7 (3 * (M 8 0).toNatClampNeg + 1)) ∨
  (X 3 0 = 3 ∧ M 9 0 = -1 ∧ zNk X M (M 8 0).toNatClampNeg) ∨
  (X 3 0 = 4 ∧ M 9 0 = X 6 0 ∧ M 7 (3 * (M 8 0).toNatClampNeg + 2) = X 6 0 ∧ (∃ v, v ≤ 149 ∧ X 6 0 = nI v ∧ (X 4 0 = 100 → v ≠ 0)) ∧ zNk X M (M 8 0).toNatClampNeg) ∨
  (X 3 0 = 5 ∧ M 10 0 = 6 ∧ X 5 0 = M 7 (3 * (M 8 0).toNatClampNeg + 1) ∧ (X 4 0 = 120 ∨ ((X 4 0 = 105 ∨ X 4 0 = 111) ∧ X 6 0 = M 7 (3 * (M 8 0).toNatClampNeg + 2))))))
/-- the command that was read -/
def zRc (X M : Nat → Nat → Int32) (r : Nat) : Prop := X 4 0 = M 7 (3 * r) ∧ (((X 4 0 = 43 ∨ X 4 0 = 45) ∧ X 5 0 = M 7 (3 * r + 1) ∧ X 6 0 = M 7 (3 * r + 2)) ∨ (X 4 0 = 100 ∧ X 6 0 = M 7 (3 * r + 2) ∧ ∃ v, v ≠ 0 ∧ v ≤ 149 ∧ X 6 0 = nI v) ∨ ((X 4 0 = 105 ∨ X 4 0 = 111) ∧ X 5 0 = M 7 (3 * r + 1) ∧ X 6 0 = M 7 (3 * r + 2)) ∨ (X 4 0 = 120 ∧ X 5 0 = M 7 (3 * r + 1)))
/-- one step -/
def zSp (X M : Nat → Nat → Int32) (code : Int32) : Prop := (v_X0_take X code).1 = (v_X5_takes M code).1 ∧ ((v_X0_take X code).1 = true → zPr (v_X0_take X code).2 (v_X5_takes M code).2 ∧
  ((code = 59 ∧ (v_X5_takes M code).2 8 0 = M 8 0 + 1 ∧ (v_X5_takes M code).2 7 = M 7 ∧ zRc (v_X0_take X code).2 M (M 8 0).toNatClampNeg ∧ (v_X0_take X code).2 3 0 = 0) ∨
   (code ≠ 59 ∧ (v_X5_takes M code).2 8 0 = M 8 0 ∧ ∀ q, q < 3 * (M 8 0).toNatClampNeg → (v_X5_takes M code).2 7 q = M 7 q)))
theorem zSp_no {X M : Nat → Nat → Int32} {code : Int32} (a : (v_X0_take X code).1 = false) (b : (v_X5_takes M code).1 = false) : zSp X M code := ⟨a.trans b.symm, fun h => by rw [a] at h; cases h⟩
theorem zend_n {M : Nat → Nat → Int32} (h6 : M 10 0 ≠ 6) (h3 : M 10 0 = 3 → M 9 0 = -1) : v_X5_isEnded M = false := by
  unfold v_X5_isEnded
  rw [if_neg h6]
  by_cases c : M 10 0 = 3
  · rw [if_pos c, if_pos (h3 c)]
  · rw [if_neg c]
theorem ztk_ne {M : Nat → Nat → Int32} (code : Int32) (h : v_X5_isEnded M = false) : v_X5_takes M code = zTk M code := by
  rw [zTk_eq, h]
  by_cases c : code = 59
  · rw [if_pos c, if_neg (by decide)]
  · rw [if_neg c]
section EX
variable {X M : Nat → Nat → Int32}
theorem zsp_0 (code : Int32) (h3 : X 3 0 = 0) (h10 : M 10 0 = 0) : zSp X M code := by
  have eM : v_X5_takes M code = v_X5_begins M code := (ztk_ne code (zend_n (by rw [h10]; decide) (fun z => by rw [h10] at z; exact absurd z (by decide)))).trans (zTk_0 code h10)
  have eX := zX0_0 code h3
  have key : ∀ (c p d : Int32), c ≠ 59 → code = c → v_X0_takeKind X code = (true, zU (zU X 4 (fun _ => code)) 3 (fun _ => p)) → v_X5_begins M code = (true, zBg M code d) → (p = 1 ∧ d = 1 ∧ (c = 43 ∨ c = 45) ∨ p = 1 ∧ d = 5 ∧ c = 120 ∨ p = 3 ∧ d = 3 ∧ c = 100 ∨ p = 3 ∧ d = 4 ∧ (c = 105 ∨ c = 111)) → zSp X M code := fun c p d c59 hc e1 e2 hh => by
    unfold zSp
    rw [eX, eM, e1, e2]
    refine ⟨rfl, fun _ => ⟨Or.inr ?_, Or.inr ⟨by rw [hc]; exact c59, rfl, fun q hq => ?_⟩⟩⟩
    · have m8 : zBg M code d 8 0 = M 8 0 := rfl
      have m7 : zBg M code d 7 (3 * (M 8 0).toNatClampNeg) = code := by unfold zBg; rw [zU_n _ _ (by decide), zU_n _ _ (by decide), zU_s, zupd_s]
      have m10 : zBg M code d 10 0 = d := rfl
      have m9 : zBg M code d 9 0 = -1 := rfl
      have x4 : zU (zU X 4 (fun _ => code)) 3 (fun _ => p) 4 0 = code := rfl
      have x3 : zU (zU X 4 (fun _ => code)) 3 (fun _ => p) 3 0 = p := rfl
      dsimp only
      unfold zNk
      rw [m8, m7, m10, m9, x4, x3]
      refine ⟨rfl, ?_⟩
      rw [hc]
      rcases hh with ⟨a, b, e⟩ | ⟨a, b, e⟩ | ⟨a, b, e⟩ | ⟨a, b, e⟩
      · exact Or.inl ⟨a, b, rfl, e⟩
      · exact Or.inr (Or.inl ⟨a, b, Or.inl e⟩)
      · exact Or.inr (Or.inr (Or.inr (Or.inl ⟨a, rfl, Or.inl ⟨b, Or.inl e⟩⟩)))
      · exact Or.inr (Or.inr (Or.inr (Or.inl ⟨a, rfl, Or.inr ⟨b, e⟩⟩)))
    · dsimp only
      unfold zBg
      rw [zU_n _ _ (by decide), zU_n _ _ (by decide), zU_s, zupd_n _ _ (by omega)]
  have bx := zbg_x M code
  by_cases c1 : code = 43
  · exact key 43 1 1 (by decide) c1 (by unfold v_X0_takeKind; rw [if_pos c1]) (by rw [bx, if_pos c1]) (Or.inl ⟨rfl, rfl, Or.inl rfl⟩)
  · by_cases c2 : code = 45
    · exact key 45 1 1 (by decide) c2 (by unfold v_X0_takeKind; rw [if_neg c1, if_pos c2]) (by rw [bx, if_neg c1, if_pos c2]) (Or.inl ⟨rfl, rfl, Or.inr rfl⟩)
    · by_cases c3 : code = 105
      · exact key 105 3 4 (by decide) c3 (by unfold v_X0_takeKind; rw [if_neg c1, if_neg c2, if_neg (by rw [c3]; decide), if_pos c3]) (by rw [bx, if_neg c1, if_neg c2, if_pos c3]) (Or.inr (Or.inr (Or.inr ⟨rfl, rfl, Or.inl rfl⟩)))
      · by_cases c4 : code = 111
        · exact key 111 3 4 (by decide) c4 (by unfold v_X0_takeKind; rw [if_neg c1, if_neg c2, if_neg (by rw [c4]; decide), if_neg c3, if_pos c4]) (by rw [bx, if_neg c1, if_neg c2, if_neg c3, if_pos c4]) (Or.inr (Or.inr (Or.inr ⟨rfl, rfl, Or.inr rfl⟩)))
        · by_cases c5 : code = 120
          · exact key 120 1 5 (by decide) c5 (by unfold v_X0_takeKind; rw [if_neg c1, if_neg c2, if_neg (by rw [c5]; decide), if_neg c3, if_neg c4, if_pos c5]) (by rw [bx, if_neg c1, if_neg c2, if_neg c3, if_neg c4, if_pos c5]) (Or.inr (Or.inl ⟨rfl, rfl, rfl⟩))
          · by_cases c6 : code = 100
            · exact key 100 3 3 (by decide) c6 (by unfold v_X0_takeKind; rw [if_neg c1, if_neg c2, if_pos c6]) (by rw [bx, if_neg c1, if_neg c2, if_neg c3, if_neg c4, if_neg c5, if_pos c6]) (Or.inr (Or.inr (Or.inl ⟨rfl, rfl, rfl⟩)))
            · exact zSp_no (by rw [eX]; unfold v_X0_takeKind; rw [if_neg c1, if_neg c2, if_neg c6, if_neg c3, if_neg c4, if_neg c5]) (by rw [eM, bx, if_neg c1, if_neg c2, if_neg c3, if_neg c4, if_neg c5, if_neg c6])
theorem zw4855 (code : Int32) : v_X5_within code 48 55 = (if code < 48 then false else if code ≤ 55 then true else false) := by
  unfold v_X5_within
  by_cases c : code < 48
  · rw [if_pos c, if_pos c]
  · rw [if_neg c, if_neg c]
    by_cases d : code ≤ 55
    · rw [if_pos d, if_neg (fun z => by rw [Int32.lt_iff_toInt_lt] at z; rw [Int32.le_iff_toInt_le] at d; omega)]
    · rw [if_neg d, if_pos (by rw [Int32.lt_iff_toInt_lt]; rw [Int32.le_iff_toInt_le] at d; omega)]
theorem zsp_1 (code : Int32) (h3 : X 3 0 = 1) (e4 : X 4 0 = M 7 (3 * (M 8 0).toNatClampNeg)) (nx : Int32) (hM : v_X5_takes M code = v_X5_takesBread M code nx)
    (hh : (nx = 2 ∧ M 9 0 = -1 ∧ (X 4 0 = 43 ∨ X 4 0 = 45)) ∨ (nx = 6 ∧ (X 4 0 = 120 ∨ ((X 4 0 = 105 ∨ X 4 0 = 111) ∧ X 6 0 = M 7 (3 * (M 8 0).toNatClampNeg + 2))))) : zSp X M code := by
  have eX := zX0_1 code h3
  have w := zw4855 code
  by_cases c1 : code < 48
  · exact zSp_no (by rw [eX]; unfold v_X0_takeBread; rw [if_pos c1]) (by rw [hM]; unfold v_X5_takesBread; rw [w, if_pos c1])
  · by_cases c2 : code ≤ 55
    · have n59 : code ≠ 59 := fun z => by rw [z] at c2; exact absurd c2 (by decide)
      have wt : v_X5_within code 48 55 = true := by rw [w, if_neg c1, if_pos c2]
      have m8 : (zU (zU M 7 (upd (M 7) (3 * (Int32.toNatClampNeg (M 8 0)) + 1) (code - 48))) 10 (fun _ => nx)) 8 0 = M 8 0 := rfl
      have m7 : ∀ q, q ≠ 3 * (M 8 0).toNatClampNeg + 1 → (zU (zU M 7 (upd (M 7) (3 * (Int32.toNatClampNeg (M 8 0)) + 1) (code - 48))) 10 (fun _ => nx)) 7 q = M 7 q := fun q hq => by rw [zU_n _ _ (by decide), zU_s, zupd_n _ _ hq]
      have m71 : (zU (zU M 7 (upd (M 7) (3 * (Int32.toNatClampNeg (M 8 0)) + 1) (code - 48))) 10 (fun _ => nx)) 7 (3 * (M 8 0).toNatClampNeg + 1) = code - 48 := by rw [zU_n _ _ (by decide), zU_s, zupd_s]
      have m10 : (zU (zU M 7 (upd (M 7) (3 * (Int32.toNatClampNeg (M 8 0)) + 1) (code - 48))) 10 (fun _ => nx)) 10 0 = nx := rfl
      have m9 : (zU (zU M 7 (upd (M 7) (3 * (Int32.toNatClampNeg (M 8 0)) + 1) (code - 48))) 10 (fun _ => nx)) 9 0 = M 9 0 := rfl
      unfold zSp
      rw [hM, eX]
      unfold v_X5_takesBread v_X0_takeBread
      rw [if_neg c1, if_pos c2, wt]
      rcases hh with ⟨a, a9, k⟩ | ⟨a, k⟩
      · have e : (if X 4 0 = 43 then (true, zU (zU X 5 (fun _ => (code - 48))) 3 (fun _ => 2)) else (if X 4 0 = 45 then (true, zU (zU X 5 (fun _ => (code - 48))) 3 (fun _ => 2)) else (true, zU (zU X 5 (fun _ => (code - 48))) 3 (fun _ => 5)))) = (true, zU (zU X 5 (fun _ => (code - 48))) 3 (fun _ => 2)) := by
          rcases k with k | k
          · rw [if_pos k]
          · rw [if_neg (by rw [k]; decide), if_pos k]
        rw [e]
        refine ⟨rfl, fun _ => ⟨Or.inr ?_, Or.inr ⟨n59, rfl, fun q hq => m7 q (by omega)⟩⟩⟩
        dsimp only
        rw [m8, m7 _ (by omega), m10, m9, m71]
        exact ⟨e4, Or.inr (Or.inr (Or.inl ⟨rfl, a, a9, k, rfl⟩))⟩
      · have n43 : X 4 0 ≠ 43 ∧ X 4 0 ≠ 45 := by
          rcases k with k | ⟨k | k, _⟩ <;> rw [k] <;> decide
        have e : (if X 4 0 = 43 then (true, zU (zU X 5 (fun _ => (code - 48))) 3 (fun _ => 2)) else (if X 4 0 = 45 then (true, zU (zU X 5 (fun _ => (code - 48))) 3 (fun _ => 2)) else (true, zU (zU X 5 (fun _ => (code - 48))) 3 (fun _ => 5)))) = (true, zU (zU X 5 (fun _ => (code - 48))) 3 (fun _ => 5)) := by
          rw [if_neg n43.1, if_neg n43.2]
        rw [e]
        refine ⟨rfl, fun _ => ⟨Or.inr ?_, Or.inr ⟨n59, rfl, fun q hq => m7 q (by omega)⟩⟩⟩
        dsimp only
        rw [m8, m7 _ (by omega), m7 _ (show 3 * (M 8 0).toNatClampNeg + 2 ≠ 3 * (M 8 0).toNatClampNeg + 1 by omega), m10, m9, m71]
        exact ⟨e4, Or.inr (Or.inr (Or.inr (Or.inr (Or.inr ⟨rfl, a, rfl, k⟩))))⟩
    · exact zSp_no (by rw [eX]; unfold v_X0_takeBread; rw [if_neg c1, if_neg c2]) (by rw [hM]; unfold v_X5_takesBread; rw [w, if_neg c1, if_neg c2])
theorem zsp_2 (code : Int32) (h3 : X 3 0 = 2) (h10 : M 10 0 = 2) (h9 : M 9 0 = -1) (e4 : X 4 0 = M 7 (3 * (M 8 0).toNatClampNeg)) (k : X 4 0 = 43 ∨ X 4 0 = 45) (e5 : X 5 0 = M 7 (3 * (M 8 0).toNatClampNeg + 1)) : zSp X M code := by
  have eM : v_X5_takes M code = _ := (ztk_ne code (zend_n (by rw [h10]; decide) (fun z => by rw [h10] at z; exact absurd z (by decide)))).trans (zTk_2 code h10)
  have eX := zX0_2 code h3
  by_cases c : code = 61
  · unfold zSp
    rw [eM, eX, if_pos c]
    unfold v_X0_takeSign
    rw [if_pos c]
    refine ⟨rfl, fun _ => ⟨Or.inr ⟨e4, Or.inr (Or.inr (Or.inr (Or.inl ⟨rfl, h9, Or.inl ⟨rfl, Or.inr ⟨k, e5⟩⟩⟩)))⟩, Or.inr ⟨by rw [c]; decide, rfl, fun q hq => rfl⟩⟩⟩
  · exact zSp_no (by rw [eX]; unfold v_X0_takeSign; rw [if_neg c]) (by rw [eM, if_neg c])
theorem zdg_ok : ∀ k : Nat, k < 127 → v_X0_isDigit (nI k) = v_X5_within (nI k - 48) 0 9 := by decide +kernel
theorem zdg_d : ∀ k : Nat, k < 127 → v_X5_within (nI k - 48) 0 9 = true → 48 ≤ k ∧ k ≤ 57 ∧ nI k - 48 = nI (k - 48) := by decide +kernel
theorem zdg_1 : ∀ d : Nat, d ≤ 9 → v_X5_within (nI d) 0 9 = true ∧ v_X5_within (nI d) 0 149 = true ∧ v_X5_within (nI d) 0 100 = true ∧ v_X5_within (nI d) 1 50 = !decide (d = 0) := by decide +kernel
theorem zdg_48 : ∀ k : Nat, k < 127 → (nI k = 48 ↔ k = 48) := by decide +kernel
theorem zNk_k {r : Nat} (h : zNk X M r) : (M 10 0 = 3 ∧ (X 4 0 = 100 ∨ X 4 0 = 43 ∨ X 4 0 = 45)) ∨ (M 10 0 = 4 ∧ (X 4 0 = 105 ∨ X 4 0 = 111)) := by
  rcases h with ⟨a, b | ⟨b, _⟩⟩ | h
  · exact Or.inl ⟨a, Or.inl b⟩
  · exact Or.inl ⟨a, Or.inr b⟩
  · exact Or.inr h
/-- a digit taken on both sides -/
theorem zsp_dg {code v : Int32} (e4 : X 4 0 = M 7 (3 * (M 8 0).toNatClampNeg)) (nk : zNk X M (M 8 0).toNatClampNeg) (n59 : code ≠ 59) {X' : Nat → Nat → Int32} (hX : v_X0_take X code = (true, X')) (hM : v_X5_takes M code = (true, zDg M v)) (x3 : X' 3 0 = 4) (x4 : X' 4 0 = X 4 0) (x5 : X' 5 0 = X 5 0) (x6 : X' 6 0 = v) (hv : ∃ w, w ≤ 149 ∧ v = nI w ∧ (X 4 0 = 100 → w ≠ 0)) : zSp X M code := by
  have m8 : zDg M v 8 0 = M 8 0 := rfl
  have m10 : zDg M v 10 0 = M 10 0 := rfl
  have m9 : zDg M v 9 0 = v := by unfold zDg; rw [zU_n _ _ (by decide), zU_s]
  have m7 : ∀ q, q ≠ 3 * (M 8 0).toNatClampNeg + 2 → zDg M v 7 q = M 7 q := fun q hq => by unfold zDg; rw [zU_s, zupd_n _ _ hq]
  have m72 : zDg M v 7 (3 * (M 8 0).toNatClampNeg + 2) = v := by unfold zDg; rw [zU_s, zupd_s]
  unfold zSp
  rw [hX, hM]
  refine ⟨rfl, fun _ => ⟨Or.inr ?_, Or.inr ⟨n59, m8, fun q hq => m7 q (by omega)⟩⟩⟩
  dsimp only
  rw [m8, m7 _ (by omega), m9, m72, x3, x4, x6]
  refine ⟨e4, Or.inr (Or.inr (Or.inr (Or.inr (Or.inl ⟨rfl, rfl, rfl, hv, ?_⟩))))⟩
  unfold zNk at nk ⊢
  rw [m10, m7 _ (by omega), x4, x5]; exact nk
theorem zsp_dgno {code : Int32} (h : v_X5_within (code - 48) 0 9 = false) : (v_X5_takesDigit M (code - 48)).1 = false := by
  rw [ztd_x, h, if_neg (by decide)]
theorem zlast : (59 : Int32) = nI 59 := rfl
theorem zsp_3 {k : Nat} (hk : k < 127) (h3 : X 3 0 = 3) (h9 : M 9 0 = -1) (e4 : X 4 0 = M 7 (3 * (M 8 0).toNatClampNeg)) (nk : zNk X M (M 8 0).toNatClampNeg) : zSp X M (nI k) := by
  have kd := zNk_k nk
  have ne : v_X5_isEnded M = false := zend_n (by rcases kd with ⟨a, _⟩ | ⟨a, _⟩ <;> rw [a] <;> decide) (fun _ => h9)
  have eM : v_X5_takes M (nI k) = v_X5_takesDigit M (nI k - 48) := by
    rw [ztk_ne _ ne]
    rcases kd with ⟨a, _⟩ | ⟨a, _⟩
    · exact zTk_3 _ a
    · rw [zTk_4 _ a]
      by_cases c : nI k = 64
      · rw [if_pos c, if_pos h9]
      · rw [if_neg c]
  have eX := zX0_3 (nI k) h3
  have ed := zdg_ok k hk
  by_cases d : v_X5_within (nI k - 48) 0 9 = true
  · obtain ⟨l1, l2, l3⟩ := zdg_d k hk d
    obtain ⟨w9, w149, w100, w50⟩ := zdg_1 (k - 48) (by omega)
    have n59 : nI k ≠ 59 := fun z => by have := congrArg Int32.toNatClampNeg z; rw [nI_nat (by omega), show (59 : Int32).toNatClampNeg = 59 by decide] at this; omega
    have z9 : ¬ M 9 0 = 0 := by rw [h9]; decide
    have dv : zdv M (nI k - 48) = nI (k - 48) := by unfold zdv; rw [if_pos h9, l3]
    have tX : v_X0_isDigit (nI k) = true := ed.trans d
    by_cases bad : k = 48 ∧ X 4 0 = 100
    · refine zSp_no ?_ ?_
      · rw [eX]; unfold v_X0_takeFirstDigit; rw [if_pos tX, if_pos ((zdg_48 k hk).mpr bad.1), if_pos bad.2]
      · have a3 : M 10 0 = 3 := by
          rcases kd with ⟨a, _⟩ | ⟨_, a | a⟩
          · exact a
          · rw [bad.2] at a; exact absurd a (by decide)
          · rw [bad.2] at a; exact absurd a (by decide)
        have wz : v_X5_within (nI (k - 48)) (zdl M) (zdm M) = false := by
          unfold zdl zdm
          rw [← e4, if_pos bad.2, a3, if_neg (show ¬ (3 : Int32) = 4 by decide), if_pos bad.2, w50, bad.1]; rfl
        rw [eM, ztd_x, if_pos d, if_neg z9, dv, wz, if_neg (by decide)]
    · have okM : v_X5_within (zdv M (nI k - 48)) (zdl M) (zdm M) = true := by
        rw [dv]
        unfold zdl zdm
        rw [← e4]
        rcases kd with ⟨a, b | b⟩ | ⟨a, b⟩
        · rw [if_pos b, a, if_neg (by decide), if_pos b, w50, decide_eq_false (fun z => bad ⟨by omega, b⟩)]; rfl
        · have n : X 4 0 ≠ 100 := by rcases b with b | b <;> rw [b] <;> decide
          rw [if_neg n, a, if_neg (by decide), if_neg n]; exact w100
        · have n : X 4 0 ≠ 100 := by rcases b with b | b <;> rw [b] <;> decide
          rw [if_neg n, a, if_pos rfl]; exact w149
      refine zsp_dg (v := nI (k - 48)) (X' := zU (zU X 6 (fun _ => (nI k - 48))) 3 (fun _ => 4)) e4 nk n59 ?_ ?_ rfl rfl rfl l3 ⟨k - 48, by omega, rfl, fun z q => bad ⟨by omega, z⟩⟩
      · rw [eX]; unfold v_X0_takeFirstDigit
        rw [if_pos tX]
        by_cases c : nI k = 48
        · rw [if_pos c, if_neg (fun z => bad ⟨(zdg_48 k hk).mp c, z⟩)]
        · rw [if_neg c]
      · rw [eM, ztd_x, if_pos d, if_neg z9, if_pos okM, dv]
  · have df : v_X5_within (nI k - 48) 0 9 = false := by simpa using d
    exact zSp_no (by rw [eX]; unfold v_X0_takeFirstDigit; rw [ed, df, if_neg (by decide)]) (by rw [eM]; exact zsp_dgno df)
theorem zsp_4 {k : Nat} (hk : k < 127) (h3 : X 3 0 = 4) (h9 : M 9 0 = X 6 0) (h7 : M 7 (3 * (M 8 0).toNatClampNeg + 2) = X 6 0) {v : Nat} (hv : v ≤ 149) (h6 : X 6 0 = nI v) (hv0 : X 4 0 = 100 → v ≠ 0) (e4 : X 4 0 = M 7 (3 * (M 8 0).toNatClampNeg)) (nk : zNk X M (M 8 0).toNatClampNeg) : zSp X M (nI k) := by
  have kd := zNk_k nk
  have eX := zX0_4 (nI k) h3
  have ed := zdg_ok k hk
  have n1 : ¬ M 9 0 = -1 := by
    rw [h9, h6]; intro z
    have := congrArg Int32.toInt z
    rw [nI_toInt (by omega), show (-1 : Int32).toInt = -1 by decide] at this; omega
  have hold : (M 10 0 = 3 → v_X0_isHoldKind X = false) ∧ (M 10 0 = 4 → v_X0_isHoldKind X = true) := by
    unfold v_X0_isHoldKind
    rcases kd with ⟨a, b⟩ | ⟨a, b⟩
    · refine ⟨fun _ => ?_, fun z => by rw [a] at z; exact absurd z (by decide)⟩
      have n : X 4 0 ≠ 105 ∧ X 4 0 ≠ 111 := by rcases b with b | b | b <;> rw [b] <;> decide
      rw [if_neg n.1, if_neg n.2]
    · refine ⟨fun z => by rw [a] at z; exact absurd z (by decide), fun _ => ?_⟩
      rcases b with b | b
      · rw [if_pos b]
      · rw [if_neg (by rw [b]; decide), if_pos b]
  by_cases d : v_X5_within (nI k - 48) 0 9 = true
  · obtain ⟨l1, l2, l3⟩ := zdg_d k hk d
    have n59 : nI k ≠ 59 := fun z => by have := congrArg Int32.toNatClampNeg z; rw [nI_nat (by omega), show (59 : Int32).toNatClampNeg = 59 by decide] at this; omega
    have n64 : nI k ≠ 64 := fun z => by have := congrArg Int32.toNatClampNeg z; rw [nI_nat (by omega), show (64 : Int32).toNatClampNeg = 64 by decide] at this; omega
    have eM : v_X5_takes M (nI k) = v_X5_takesDigit M (nI k - 48) := by
      rw [zTk_eq, if_neg n59]
      rcases kd with ⟨a, _⟩ | ⟨a, _⟩
      · exact zTk_3 _ a
      · rw [zTk_4 _ a, if_neg n64]
    have tX : v_X0_isDigit (nI k) = true := ed.trans d
    rw [if_pos tX] at eX
    by_cases z : v = 0
    · have z6 : X 6 0 = 0 := by rw [h6, z]; rfl
      exact zSp_no (by rw [eX]; unfold v_X0_takeNextDigit; rw [if_pos z6]) (by rw [eM, ztd_x, if_pos d, if_pos (h9.trans z6)])
    · have z6 : ¬ X 6 0 = 0 := fun q => z (by rw [h6] at q; have := congrArg Int32.toNatClampNeg q; rw [nI_nat (by omega)] at this; exact this)
      have s10 : (10 : Int32) * X 6 0 + nI (k - 48) = nI (10 * v + (k - 48)) := by
        rw [h6, nI_addN]
        have : (10 : Int32) * nI v = nI (10 * v) := by rw [show (10 : Int32) = nI 10 from rfl]; exact (Int32.ofNat_mul 10 v).symm
        rw [this]
      have cX : ((((10 : Int32) * (X 6 0)) + nI k) - 48) = nI (10 * v + (k - 48)) := by
        rw [Int32.sub_eq_add_neg, Int32.add_assoc, ← Int32.sub_eq_add_neg, l3, s10]
      have dv : zdv M (nI k - 48) = nI (10 * v + (k - 48)) := by unfold zdv; rw [if_neg n1, h9, l3, s10]
      have lim : v_X5_within (nI (10 * v + (k - 48))) (zdl M) (zdm M) = true ↔ nI (10 * v + (k - 48)) ≤ v_X0_greatestNumber X := by
        have gr : v_X0_greatestNumber X = zdm M := by
          unfold v_X0_greatestNumber zdm
          rw [← e4]
          rcases kd with ⟨a, b⟩ | ⟨a, b⟩
          · rw [hold.1 a, if_neg (by decide), a, if_neg (show ¬ (3 : Int32) = 4 by decide)]
          · rw [hold.2 a, if_pos rfl, if_pos a]
        rw [gr, zcanCut]
        constructor
        · exact fun q => q.2
        · intro q
          refine ⟨?_, q⟩
          have l0 : zdl M = 0 ∨ zdl M = 1 := by unfold zdl; split <;> simp
          rcases l0 with l0 | l0 <;> rw [l0, Int32.le_iff_toInt_le, nI_toInt (by omega)]
          · rw [show (0 : Int32).toInt = 0 from rfl]; omega
          · rw [show (1 : Int32).toInt = 1 from rfl]; omega
      have up : nI (10 * v + (k - 48)) ≤ v_X0_greatestNumber X → 10 * v + (k - 48) ≤ 149 := fun q => by
        have g : v_X0_greatestNumber X = nI 149 ∨ v_X0_greatestNumber X = nI 50 ∨ v_X0_greatestNumber X = nI 100 := by
          unfold v_X0_greatestNumber
          split
          · exact Or.inl rfl
          · split
            · exact Or.inr (Or.inl rfl)
            · exact Or.inr (Or.inr rfl)
        rcases g with g | g | g <;> rw [g] at q <;> have := znle (by omega) (by decide) q <;> omega
      by_cases c : nI (10 * v + (k - 48)) ≤ v_X0_greatestNumber X
      · refine zsp_dg (v := nI (10 * v + (k - 48))) (X' := zU X 6 (fun _ => nI (10 * v + (k - 48)))) e4 nk n59 ?_ ?_ h3 rfl rfl rfl ⟨_, up c, rfl, fun _ => by omega⟩
        · rw [eX]; unfold v_X0_takeNextDigit; rw [if_neg z6, cX, if_pos c]
        · rw [eM, ztd_x, if_pos d, if_neg (fun q => z6 (h9.symm.trans q)), dv, if_pos (lim.mpr c)]
      · exact zSp_no (by rw [eX]; unfold v_X0_takeNextDigit; rw [if_neg z6, cX, if_neg c]) (by rw [eM, ztd_x, if_pos d, if_neg (fun q => z6 (h9.symm.trans q)), dv, if_neg (fun q => c (lim.mp q))])
  · have df : v_X5_within (nI k - 48) 0 9 = false := by simpa using d
    rw [ed, df, if_neg (by decide)] at eX
    have no : ∀ (b : Bool × (Nat → Nat → Int32)), b = v_X5_takesDigit M (nI k - 48) → b.1 = false := fun b e => by rw [e]; exact zsp_dgno df
    rcases nk with ⟨a, b⟩ | ⟨a, b⟩
    · rw [show v_X0_takeEndOfNumber X (nI k) = v_X0_takeSign X (nI k) 59 0 by unfold v_X0_takeEndOfNumber; rw [hold.1 a, if_neg (by decide)]] at eX
      by_cases c : nI k = 59
      · have en : v_X5_isEnded M = true := by unfold v_X5_isEnded; rw [if_neg (by rw [a]; decide), if_pos a, if_neg n1]
        have eM : v_X5_takes M (nI k) = (true, zU (zU M 8 (fun _ => ((M 8 0) + 1))) 10 (fun _ => 0)) := by rw [zTk_eq, if_pos c, if_pos en]
        unfold zSp
        rw [eX, eM]
        unfold v_X0_takeSign
        rw [if_pos c]
        refine ⟨rfl, fun _ => ⟨Or.inl ⟨rfl, rfl⟩, Or.inl ⟨c, rfl, rfl, ⟨e4, ?_⟩, rfl⟩⟩⟩
        rcases b with b | ⟨b, b5⟩
        · exact Or.inr (Or.inl ⟨b, h7.symm, v, hv0 b, hv, h6⟩)
        · exact Or.inl ⟨b, b5, h7.symm⟩
      · have eM : v_X5_takes M (nI k) = v_X5_takesDigit M (nI k - 48) := by rw [zTk_eq, if_neg c]; exact zTk_3 _ a
        exact zSp_no (by rw [eX]; unfold v_X0_takeSign; rw [if_neg c]) (no _ eM)
    · have en : v_X5_isEnded M = false := by unfold v_X5_isEnded; rw [if_neg (by rw [a]; decide), if_neg (by rw [a]; decide)]
      have eM := (ztk_ne (nI k) en).trans (zTk_4 (nI k) a)
      rw [if_neg n1] at eM
      rw [show v_X0_takeEndOfNumber X (nI k) = v_X0_takeSign X (nI k) 64 1 by unfold v_X0_takeEndOfNumber; rw [hold.2 a, if_pos rfl]] at eX
      by_cases c : nI k = 64
      · rw [if_pos c] at eM
        unfold zSp
        rw [eX, eM]
        unfold v_X0_takeSign
        rw [if_pos c]
        refine ⟨rfl, fun _ => ⟨Or.inr ⟨e4, Or.inr (Or.inl ⟨rfl, rfl, Or.inr ⟨b, h7.symm⟩⟩)⟩, Or.inr ⟨by rw [c]; decide, rfl, fun _ _ => rfl⟩⟩⟩
      · rw [if_neg c] at eM
        exact zSp_no (by rw [eX]; unfold v_X0_takeSign; rw [if_neg c]) (no _ eM)
theorem zsp_5 (code : Int32) (h3 : X 3 0 = 5) (h10 : M 10 0 = 6) (e4 : X 4 0 = M 7 (3 * (M 8 0).toNatClampNeg)) (e5 : X 5 0 = M 7 (3 * (M 8 0).toNatClampNeg + 1)) (kd : X 4 0 = 120 ∨ ((X 4 0 = 105 ∨ X 4 0 = 111) ∧ X 6 0 = M 7 (3 * (M 8 0).toNatClampNeg + 2))) : zSp X M code := by
  have eX := zX0_5 code h3
  by_cases c : code = 59
  · have en : v_X5_isEnded M = true := by unfold v_X5_isEnded; rw [if_pos h10]
    have eM : v_X5_takes M code = (true, zU (zU M 8 (fun _ => ((M 8 0) + 1))) 10 (fun _ => 0)) := by rw [zTk_eq, if_pos c, if_pos en]
    unfold zSp
    rw [eX, eM]
    unfold v_X0_takeSign
    rw [if_pos c]
    refine ⟨rfl, fun _ => ⟨Or.inl ⟨rfl, rfl⟩, Or.inl ⟨c, rfl, rfl, ⟨e4, ?_⟩, rfl⟩⟩⟩
    rcases kd with b | ⟨b, b6⟩
    · exact Or.inr (Or.inr (Or.inr ⟨b, e5⟩))
    · exact Or.inr (Or.inr (Or.inl ⟨b, e5, b6⟩))
  · have eM : v_X5_takes M code = (false, M) := by rw [zTk_eq, if_neg c]; exact zTk_6 code h10
    exact zSp_no (by rw [eX]; unfold v_X0_takeSign; rw [if_neg c]) (by rw [eM])
/-- each step is the same -/
theorem zsp {code : Int32} (h : zPr X M) (hc : vp_in code 127) : zSp X M code := by
  obtain ⟨k, hk, rfl⟩ := vp_in_of hc (by decide)
  rcases h with ⟨a, b⟩ | ⟨e4, h⟩
  · exact zsp_0 _ a b
  · rcases h with ⟨a, b, c, d⟩ | ⟨a, b, c⟩ | ⟨a, b, c, d, e⟩ | ⟨a, b, c⟩ | ⟨a, b, c, ⟨v, d, e, g⟩, f⟩ | ⟨a, b, c, d⟩
    · exact zsp_1 _ a e4 2 ((ztk_ne _ (zend_n (by rw [b]; decide) (fun z => by rw [b] at z; exact absurd z (by decide)))).trans (zTk_1 _ b)) (Or.inl ⟨rfl, c, d⟩)
    · exact zsp_1 _ a e4 6 ((ztk_ne _ (zend_n (by rw [b]; decide) (fun z => by rw [b] at z; exact absurd z (by decide)))).trans (zTk_5 _ b)) (Or.inr ⟨rfl, c⟩)
    · exact zsp_2 _ a b c e4 d e
    · exact zsp_3 hk a b e4 c
    · exact zsp_4 hk a b c d e g e4 f
    · exact zsp_5 _ a b e4 c d
end EX
