/-! THE NUMBERS OF THE TOWN -/
theorem zbc8 : ∀ m : Nat, m < 256 → v_J6_bitCount_0f7a4 (nI m) = v_X5_ones (nI m) := by decide +kernel
theorem zbc {x : Int32} (h : zm8 x) : v_J6_bitCount_0f7a4 x = v_X5_ones x := by
  obtain ⟨m, hm, e⟩ := zm8_of h
  rw [e]; exact zbc8 m hm
theorem zones (x : Int32) : v_X5_ones x = zsu (fun i => bI (bt x i)) 8 0 := by
  unfold v_X5_ones
  exact zlI0 (v_X5_ones_4 x) (fun i => bI (bt x i)) 8 (fun n m i h => by rw [v_X5_ones_4, if_pos h]) (fun n m i h => by rw [v_X5_ones_4, if_neg (by omega), zsh1 (by omega)]) (by decide)
theorem zm8_and {x y : Int32} (h : zm8 x) : zm8 (x &&& y) := fun i h8 hi => by rw [b_and, h i h8 hi, Bool.false_and]
theorem zle0 : ∀ m : Nat, m < 256 → (nI m ≤ 0 ↔ nI m = 0) := by decide +kernel
theorem zm8_le {x : Int32} (h : zm8 x) : x ≤ 0 ↔ x = 0 := by
  obtain ⟨m, hm, e⟩ := zm8_of h
  rw [e]; exact zle0 m hm
theorem zlt2 {x : Int32} : x < 2 ↔ x ≤ 1 := by
  rw [Int32.lt_iff_toInt_lt, Int32.le_iff_toInt_le, show (2 : Int32).toInt = 2 from rfl, show (1 : Int32).toInt = 1 from rfl]; omega
section EQ4
variable {T M Z : Nat → Nat → Int32} {b p : Nat}
/-- a sum over the breads that are there is a sum over all -/
theorem znbs (I : zI M) {g : Nat → Int32} (h : ∀ i, i < 8 → (M 0 1).toNatClampNeg ≤ i → g i = 0) : zsu g (M 0 1).toNatClampNeg 0 = zsu g 8 0 := by
  have h8 := znb8 I
  obtain ⟨d, hd⟩ : ∃ d, 8 = (M 0 1).toNatClampNeg + d := ⟨8 - (M 0 1).toNatClampNeg, by omega⟩
  rw [hd, zsu_split, zsu_0 d _ (fun j a b => h j (by omega) (by omega)), Int32.add_zero]
theorem eq_ob (R : zTw T (M 0)) (I : zI M) : v_J6_bitCount_0f7a4 (T 3 0) = v_X5_openBreads M := by
  have h8 := znb8 I
  rw [zbc R.2.2.2.2.2.1, zones, ← znbs I (fun i h h2 => by rw [R.2.2.2.2.2.2 i h h2]; rfl)]
  unfold v_X5_openBreads
  rw [zlJ (v_X5_openBreads_4 M) (fun i => bI (bt (T 3 0) i)) (M 0 1).toNatClampNeg (fun n m => ?_) (fun n m i h => ?_) 9 0 0 (by omega) (by omega), Int32.zero_add]
  · rfl
  · rw [v_X5_openBreads_4, if_pos ((znbi I _ (by omega)).mpr (Nat.le_refl _))]
  · rw [v_X5_openBreads_4, if_neg (fun z => by have := (znbi I i (by omega)).mp z; omega), (R.br (by omega)).2.2.2.2.1]
theorem eq_s3 (R : zTw T (M 0)) : T 2 0 = v_X5_sumOf M 3 := by
  rw [R.1.2.2]
  unfold v_X5_sumOf
  exact (zlI0 (v_X5_sumOf_4 M 3) _ 150 (fun n m i h => by rw [v_X5_sumOf_4, if_pos h]) (fun n m i h => by rw [v_X5_sumOf_4, if_neg (by omega), if_neg (by decide), if_neg (by decide), if_neg (by decide), if_pos rfl]) (by decide)).symm
theorem eq_s4 (R : zTw T (M 0)) (I : zI M) : nI (v_X3_personsWhoEat T) = v_X5_sumOf M 4 := by
  unfold v_X3_personsWhoEat v_X5_sumOf
  rw [zlN0 (v_X3_personsWhoEat_4 T) (fun i => !decide (v_X5_breadsOf M i = 0)) 150 (fun n m i h => by rw [v_X3_personsWhoEat_4, if_pos h]) (fun n m i h => ?_) (by decide),
    zlI0 (v_X5_sumOf_4 M 4) (zind (fun i => !decide (v_X5_breadsOf M i = 0))) 150 (fun n m i h => by rw [v_X5_sumOf_4, if_pos h]) (fun n m i h => ?_) (by decide), zsu_n]
  · rw [v_X5_sumOf_4, if_neg (by omega), if_pos rfl, if_neg (show ¬ 4 = 3 by decide), if_neg (show ¬ 4 = 7 by decide), if_neg (show ¬ 4 = 3 by decide), if_neg (show ¬ 4 = 7 by decide)]
    by_cases c : v_X5_breadsOf M i = 0
    · rw [if_pos ((zm8_le (zbo8 R I)).mpr c), zind_f (by simp [c])]
    · rw [if_neg (fun z => c ((zm8_le (zbo8 R I)).mp z)), zind_t (by simp [c])]
  · rw [v_X3_personsWhoEat_4, if_neg (by omega), eq_breads R I h]
    by_cases c : v_X5_breadsOf M i = 0
    · rw [if_pos c]; simp [c]
    · rw [if_neg c]; simp [c]
theorem eq_s5 (R : zTw T (M 0)) : nI (v_X3_personsWhoAte T) = v_X5_sumOf M 5 := by
  unfold v_X3_personsWhoAte v_X5_sumOf
  rw [zlN0 (v_X3_personsWhoAte_4 T) (fun i => !decide (T 13 i = 0)) 150 (fun n m i h => by rw [v_X3_personsWhoAte_4, if_pos h]) (fun n m i h => ?_) (by decide),
    zlI0 (v_X5_sumOf_4 M 5) (zind (fun i => !decide (T 13 i = 0))) 150 (fun n m i h => by rw [v_X5_sumOf_4, if_pos h]) (fun n m i h => ?_) (by decide), zsu_n]
  · rw [v_X5_sumOf_4, if_neg (by omega), if_neg (show ¬ 5 = 4 by decide), if_pos rfl, if_neg (show ¬ 5 = 3 by decide), if_neg (show ¬ 5 = 7 by decide), if_neg (show ¬ 5 = 3 by decide), if_neg (show ¬ 5 = 7 by decide)]
    rw [← (R.2.2.2.1 i h).1.2.2.1]
    by_cases c : T 13 i = 0
    · rw [if_pos ((zm8_le (R.2.2.2.1 i h).2.2.2).mpr c), zind_f (by simp [c])]
    · rw [if_neg (fun z => c ((zm8_le (R.2.2.2.1 i h).2.2.2).mp z)), zind_t (by simp [c])]
  · rw [v_X3_personsWhoAte_4, if_neg (by omega)]
    by_cases c : T 13 i = 0
    · rw [if_pos c]; simp [c]
    · rw [if_neg c]; simp [c]
theorem zgm (R : zTw T (M 0)) {gr : Nat} {j : Nat} (hj : j < 32) : bt (v_X3_breadsOfGroup T gr) j = (decide (v_X5_of M j 1 = nI gr) && decide (j < 8)) := by
  unfold v_X3_breadsOfGroup
  rw [zlO (v_X3_breadsOfGroup_4 T gr) (fun i => decide (v_X5_of M i 1 = nI gr)) 8 (by decide) (fun n m => by rw [v_X3_breadsOfGroup_4, if_pos (Nat.le_refl 8)]) (fun n m i h => ?_) 9 0 0 (by decide) (by decide) j hj, b_0, Bool.false_or]
  · simp
  · rw [v_X3_breadsOfGroup_4, if_neg (by omega), (R.br h).1]
    by_cases c : v_X5_of M i 1 = nI gr
    · rw [if_pos c]; simp [c]
    · rw [if_neg c]; simp [c]
theorem eq_two1 (R : zTw T (M 0)) (I : zI M) (hp : p < 150) (gr : Nat) : v_J6_bitCount_0f7a4 (v_X5_breadsOf M p &&& v_X3_breadsOfGroup T gr) = (v_X5_eatsTwo_23 M p gr 9 0 0).1 := by
  have h8 := znb8 I
  rw [zbc (zm8_and (zbo8 R I)), zones, ← znbs I (fun i h h2 => by
    have e : bt (v_X5_breadsOf M p) i = false := by rw [zbo R I (by omega), zEt_f.mpr (zclosed R h2 h), Bool.and_false]
    rw [b_and, e, Bool.false_and]; rfl)]
  rw [zlJ (fun n m i => (v_X5_eatsTwo_23 M p gr n m i).1) (fun i => bI (bt (v_X5_breadsOf M p &&& v_X3_breadsOfGroup T gr) i)) (M 0 1).toNatClampNeg (fun n m => ?_) (fun n m i h => ?_) 9 0 0 (by omega) (by omega), Int32.zero_add]
  · rfl
  · show (v_X5_eatsTwo_23 M p gr (n + 1) m _).1 = m
    rw [v_X5_eatsTwo_23, if_pos ((znbi I _ (by omega)).mpr (Nat.le_refl _))]
  · show (v_X5_eatsTwo_23 M p gr (n + 1) m i).1 = (v_X5_eatsTwo_23 M p gr n _ (i + 1)).1
    rw [v_X5_eatsTwo_23, if_neg (fun z => by have := (znbi I i (by omega)).mp z; omega), b_and, zgm R (by omega)]
    by_cases c : v_X5_of M i 1 = nI gr
    · rw [if_pos c, zsh1 (by omega)]; simp [c, show i < 8 by omega]
    · rw [if_neg c, decide_eq_false c, Bool.false_and, Bool.and_false, show bI false = (0 : Int32) from rfl]
theorem eq_two (R : zTw T (M 0)) (I : zI M) (hp : p < 150) : v_X3_hasTwoOfAGroup T (v_X3_breadsEatenBy T p) = v_X5_eatsTwo M p := by
  rw [eq_breads R I hp]
  unfold v_X3_hasTwoOfAGroup v_X5_eatsTwo
  have q : ∀ gr : Nat, (v_J6_bitCount_0f7a4 (v_X5_breadsOf M p &&& v_X3_breadsOfGroup T gr) < 2) = ((v_X5_eatsTwo_23 M p gr 9 0 0).1 ≤ 1) := fun gr => by rw [eq_two1 R I hp gr]; exact propext zlt2
  have tt : ∀ (n gr : Nat), 3 - gr < n → v_X5_eatsTwo_11 M p n true gr = true := by
    intro n
    induction n with
    | zero => intro gr h; exact absurd h (Nat.not_lt_zero _)
    | succ n ih =>
      intro gr h
      rw [v_X5_eatsTwo_11]
      by_cases c : 3 ≤ gr
      · rw [if_pos c]
      · rw [if_neg c, if_pos rfl]; exact ih (gr + 1) (by omega)
  have key : ∀ (n gr : Nat), 3 - gr < n → v_X3_hasTwoOfAGroup_2 T (v_X5_breadsOf M p) n gr = v_X5_eatsTwo_11 M p n false gr := by
    intro n
    induction n with
    | zero => intro gr h; exact absurd h (Nat.not_lt_zero _)
    | succ n ih =>
      intro gr h
      rw [v_X3_hasTwoOfAGroup_2, v_X5_eatsTwo_11]
      by_cases c : 3 ≤ gr
      · rw [if_pos c, if_pos c]
      · rw [if_neg c, if_neg c, if_neg (show ¬ false = true by decide)]
        by_cases d : (v_X5_eatsTwo_23 M p gr 9 0 0).1 ≤ 1
        · rw [if_pos ((q gr).mpr d), if_pos d]; exact ih (gr + 1) (by omega)
        · rw [if_neg (fun z => d ((q gr).mp z)), if_neg d, tt n (gr + 1) (by omega)]
  exact key 4 0 (by decide)
theorem eq_s6 (R : zTw T (M 0)) (I : zI M) : nI (v_X3_personsWithTwoOfAGroup T) = v_X5_sumOf M 6 := by
  unfold v_X3_personsWithTwoOfAGroup v_X5_sumOf
  rw [zlN0 (v_X3_personsWithTwoOfAGroup_4 T) (fun i => v_X5_eatsTwo M i) 150 (fun n m i h => by rw [v_X3_personsWithTwoOfAGroup_4, if_pos h]) (fun n m i h => ?_) (by decide),
    zlI0 (v_X5_sumOf_4 M 6) (zind (fun i => v_X5_eatsTwo M i)) 150 (fun n m i h => by rw [v_X5_sumOf_4, if_pos h]) (fun n m i h => ?_) (by decide), zsu_n]
  · rw [v_X5_sumOf_4, if_neg (by omega), if_neg (show ¬ 6 = 4 by decide), if_neg (show ¬ 6 = 5 by decide), if_pos rfl, if_neg (show ¬ 6 = 3 by decide), if_neg (show ¬ 6 = 7 by decide), if_neg (show ¬ 6 = 3 by decide), if_neg (show ¬ 6 = 7 by decide)]
    by_cases c : v_X5_eatsTwo M i = true
    · rw [if_pos c, zind_t c]
    · rw [if_neg c, zind_f (by simpa using c)]
  · rw [v_X3_personsWithTwoOfAGroup_4, if_neg (by omega), eq_two R I h]
    by_cases c : v_X5_eatsTwo M i = true
    · rw [if_pos c]; simp [c]
    · rw [if_neg c]; simp [c]
theorem eq_s7 (R : zTw T (M 0)) : v_X3_holds T = v_X5_sumOf M 7 := by
  unfold v_X3_holds v_X5_sumOf
  rw [zlI0 (v_X3_holds_4 T) (fun i => v_X5_ones (M 0 (353 + i)) + v_X5_ones (M 0 (503 + i))) 150 (fun n m i h => by rw [v_X3_holds_4, if_pos h]) (fun n m i h => ?_) (by decide)]
  · exact (zlI0 (v_X5_sumOf_4 M 7) _ 150 (fun n m i h => by rw [v_X5_sumOf_4, if_pos h]) (fun n m i h => by rw [v_X5_sumOf_4, if_neg (by omega), if_neg (by decide), if_neg (by decide), if_neg (by decide), if_neg (by decide), if_pos rfl]) (by decide)).symm
  · rw [v_X3_holds_4, if_neg (by omega), zbc (R.2.2.2.1 i h).2.1, zbc (R.2.2.2.1 i h).2.2.1, (R.2.2.2.1 i h).1.1, (R.2.2.2.1 i h).1.2.1]

theorem eq_cnt (R : zTw T (M 0)) (I : zI M) (hz : Z 0 0 = M 1 0) {k : Nat} (hk : k < 9 ∨ (10 ≤ k ∧ k ≤ 12) ∨ (20 ≤ k ∧ k ≤ 22)) : v_X4_numberOf Z T (nI k) = v_X5_counted M k := by
  unfold v_X4_numberOf v_X5_counted
  have hc : k = 0 ∨ k = 1 ∨ k = 2 ∨ k = 3 ∨ k = 4 ∨ k = 5 ∨ k = 6 ∨ k = 7 ∨ k = 8 ∨ k = 10 ∨ k = 11 ∨ k = 12 ∨ k = 20 ∨ k = 21 ∨ k = 22 := by omega
  rcases hc with h | h | h | h | h | h | h | h | h | h | h | h | h | h | h <;> subst h
  · rw [if_neg (show ¬ nI 0 = 8 by decide), if_neg (show ¬ v_X4_isGroup (nI 0 - 10) = true by decide), if_neg (show ¬ v_X4_isGroup (nI 0 - 20) = true by decide), if_pos (show 0 ≤ 19 by decide), if_pos (show 0 ≤ 9 by decide), if_pos (show 0 = 0 by decide)]
    unfold v_X3_number
    rw [if_pos (show nI 0 = 0 by decide)]
    exact R.1.1
  · rw [if_neg (show ¬ nI 1 = 8 by decide), if_neg (show ¬ v_X4_isGroup (nI 1 - 10) = true by decide), if_neg (show ¬ v_X4_isGroup (nI 1 - 20) = true by decide), if_pos (show 1 ≤ 19 by decide), if_pos (show 1 ≤ 9 by decide), if_neg (show ¬ 1 = 0 by decide), if_pos (show 1 = 1 by decide)]
    unfold v_X3_number
    rw [if_neg (show ¬ nI 1 = 0 by decide), if_pos (show nI 1 = 1 by decide)]
    exact eq_ob R I
  · rw [if_neg (show ¬ nI 2 = 8 by decide), if_neg (show ¬ v_X4_isGroup (nI 2 - 10) = true by decide), if_neg (show ¬ v_X4_isGroup (nI 2 - 20) = true by decide), if_pos (show 2 ≤ 19 by decide), if_pos (show 2 ≤ 9 by decide), if_neg (show ¬ 2 = 0 by decide), if_neg (show ¬ 2 = 1 by decide), if_pos (show 2 = 2 by decide)]
    unfold v_X3_number
    rw [if_neg (show ¬ nI 2 = 0 by decide), if_neg (show ¬ nI 2 = 1 by decide), if_pos (show nI 2 = 2 by decide)]
    exact R.1.2.1
  · rw [if_neg (show ¬ nI 3 = 8 by decide), if_neg (show ¬ v_X4_isGroup (nI 3 - 10) = true by decide), if_neg (show ¬ v_X4_isGroup (nI 3 - 20) = true by decide), if_pos (show 3 ≤ 19 by decide), if_pos (show 3 ≤ 9 by decide), if_neg (show ¬ 3 = 0 by decide), if_neg (show ¬ 3 = 1 by decide), if_neg (show ¬ 3 = 2 by decide), if_pos (show 3 = 3 by decide)]
    unfold v_X3_number
    rw [if_neg (show ¬ nI 3 = 0 by decide), if_neg (show ¬ nI 3 = 1 by decide), if_neg (show ¬ nI 3 = 2 by decide), if_pos (show nI 3 = 3 by decide)]
    exact eq_s3 R
  · rw [if_neg (show ¬ nI 4 = 8 by decide), if_neg (show ¬ v_X4_isGroup (nI 4 - 10) = true by decide), if_neg (show ¬ v_X4_isGroup (nI 4 - 20) = true by decide), if_pos (show 4 ≤ 19 by decide), if_pos (show 4 ≤ 9 by decide), if_neg (show ¬ 4 = 0 by decide), if_neg (show ¬ 4 = 1 by decide), if_neg (show ¬ 4 = 2 by decide), if_neg (show ¬ 4 = 3 by decide), if_pos (show 4 = 4 by decide)]
    unfold v_X3_number
    rw [if_neg (show ¬ nI 4 = 0 by decide), if_neg (show ¬ nI 4 = 1 by decide), if_neg (show ¬ nI 4 = 2 by decide), if_neg (show ¬ nI 4 = 3 by decide), if_pos (show nI 4 = 4 by decide)]
    exact eq_s4 R I
  · rw [if_neg (show ¬ nI 5 = 8 by decide), if_neg (show ¬ v_X4_isGroup (nI 5 - 10) = true by decide), if_neg (show ¬ v_X4_isGroup (nI 5 - 20) = true by decide), if_pos (show 5 ≤ 19 by decide), if_pos (show 5 ≤ 9 by decide), if_neg (show ¬ 5 = 0 by decide), if_neg (show ¬ 5 = 1 by decide), if_neg (show ¬ 5 = 2 by decide), if_neg (show ¬ 5 = 3 by decide), if_neg (show ¬ 5 = 4 by decide), if_pos (show 5 = 5 by decide)]
    unfold v_X3_number
    rw [if_neg (show ¬ nI 5 = 0 by decide), if_neg (show ¬ nI 5 = 1 by decide), if_neg (show ¬ nI 5 = 2 by decide), if_neg (show ¬ nI 5 = 3 by decide), if_neg (show ¬ nI 5 = 4 by decide), if_pos (show nI 5 = 5 by decide)]
    exact eq_s5 R
  · rw [if_neg (show ¬ nI 6 = 8 by decide), if_neg (show ¬ v_X4_isGroup (nI 6 - 10) = true by decide), if_neg (show ¬ v_X4_isGroup (nI 6 - 20) = true by decide), if_pos (show 6 ≤ 19 by decide), if_pos (show 6 ≤ 9 by decide), if_neg (show ¬ 6 = 0 by decide), if_neg (show ¬ 6 = 1 by decide), if_neg (show ¬ 6 = 2 by decide), if_neg (show ¬ 6 = 3 by decide), if_neg (show ¬ 6 = 4 by decide), if_neg (show ¬ 6 = 5 by decide), if_pos (show 6 = 6 by decide)]
    unfold v_X3_number
    rw [if_neg (show ¬ nI 6 = 0 by decide), if_neg (show ¬ nI 6 = 1 by decide), if_neg (show ¬ nI 6 = 2 by decide), if_neg (show ¬ nI 6 = 3 by decide), if_neg (show ¬ nI 6 = 4 by decide), if_neg (show ¬ nI 6 = 5 by decide), if_pos (show nI 6 = 6 by decide)]
    exact eq_s6 R I
  · rw [if_neg (show ¬ nI 7 = 8 by decide), if_neg (show ¬ v_X4_isGroup (nI 7 - 10) = true by decide), if_neg (show ¬ v_X4_isGroup (nI 7 - 20) = true by decide), if_pos (show 7 ≤ 19 by decide), if_pos (show 7 ≤ 9 by decide), if_neg (show ¬ 7 = 0 by decide), if_neg (show ¬ 7 = 1 by decide), if_neg (show ¬ 7 = 2 by decide), if_neg (show ¬ 7 = 3 by decide), if_neg (show ¬ 7 = 4 by decide), if_neg (show ¬ 7 = 5 by decide), if_neg (show ¬ 7 = 6 by decide), if_pos (show 7 = 7 by decide)]
    unfold v_X3_number
    rw [if_neg (show ¬ nI 7 = 0 by decide), if_neg (show ¬ nI 7 = 1 by decide), if_neg (show ¬ nI 7 = 2 by decide), if_neg (show ¬ nI 7 = 3 by decide), if_neg (show ¬ nI 7 = 4 by decide), if_neg (show ¬ nI 7 = 5 by decide), if_neg (show ¬ nI 7 = 6 by decide)]
    exact eq_s7 R
  · rw [if_pos (show nI 8 = 8 by decide), if_pos (show 8 ≤ 19 by decide), if_pos (show 8 ≤ 9 by decide), if_neg (show ¬ 8 = 0 by decide), if_neg (show ¬ 8 = 1 by decide), if_neg (show ¬ 8 = 2 by decide), if_neg (show ¬ 8 = 3 by decide), if_neg (show ¬ 8 = 4 by decide), if_neg (show ¬ 8 = 5 by decide), if_neg (show ¬ 8 = 6 by decide), if_neg (show ¬ 8 = 7 by decide), if_pos (show 8 = 8 by decide)]
    exact hz
  · rw [if_neg (show ¬ nI 10 = 8 by decide), if_pos (show v_X4_isGroup (nI 10 - 10) = true by decide), if_pos (show 10 ≤ 19 by decide), if_neg (show ¬ 10 ≤ 9 by decide)]
    rw [show Int32.toNatClampNeg (nI 10 - 10) = 0 by decide]; exact R.2.1 0 (by decide)
  · rw [if_neg (show ¬ nI 11 = 8 by decide), if_pos (show v_X4_isGroup (nI 11 - 10) = true by decide), if_pos (show 11 ≤ 19 by decide), if_neg (show ¬ 11 ≤ 9 by decide)]
    rw [show Int32.toNatClampNeg (nI 11 - 10) = 1 by decide]; exact R.2.1 1 (by decide)
  · rw [if_neg (show ¬ nI 12 = 8 by decide), if_pos (show v_X4_isGroup (nI 12 - 10) = true by decide), if_pos (show 12 ≤ 19 by decide), if_neg (show ¬ 12 ≤ 9 by decide)]
    rw [show Int32.toNatClampNeg (nI 12 - 10) = 2 by decide]; exact R.2.1 2 (by decide)
  · rw [if_neg (show ¬ nI 20 = 8 by decide), if_neg (show ¬ v_X4_isGroup (nI 20 - 10) = true by decide), if_pos (show v_X4_isGroup (nI 20 - 20) = true by decide), if_neg (show ¬ 20 ≤ 19 by decide)]
    rw [show Int32.toNatClampNeg (nI 20 - 20) = 0 by decide]; exact eq_free R (by decide)
  · rw [if_neg (show ¬ nI 21 = 8 by decide), if_neg (show ¬ v_X4_isGroup (nI 21 - 10) = true by decide), if_pos (show v_X4_isGroup (nI 21 - 20) = true by decide), if_neg (show ¬ 21 ≤ 19 by decide)]
    rw [show Int32.toNatClampNeg (nI 21 - 20) = 1 by decide]; exact eq_free R (by decide)
  · rw [if_neg (show ¬ nI 22 = 8 by decide), if_neg (show ¬ v_X4_isGroup (nI 22 - 10) = true by decide), if_pos (show v_X4_isGroup (nI 22 - 20) = true by decide), if_neg (show ¬ 22 ≤ 19 by decide)]
    rw [show Int32.toNatClampNeg (nI 22 - 20) = 2 by decide]; exact eq_free R (by decide)
end EQ4
