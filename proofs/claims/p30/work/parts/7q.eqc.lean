/-! WHAT READS THE TOWN AND THE ROW: masks and counts -/
theorem zor0 (x : Int32) : x ||| 0 = x := b_ext fun i hi => by rw [b_or, b_0, Bool.or_false]
/-- a loop that sets bits -/
theorem zlO (F : Nat → Int32 → Nat → Int32) (P : Nat → Bool) (N : Nat) (hN : N ≤ 32) (h0 : ∀ n m, F (n + 1) m N = m) (h1 : ∀ n m i, i < N → F (n + 1) m i = F n (if P i then m ||| zp2 i else m) (i + 1)) :
    ∀ (n : Nat) (m : Int32) (i : Nat), N - i < n → i ≤ N → ∀ j, j < 32 → bt (F n m i) j = (bt m j || (P j && (decide (i ≤ j) && decide (j < N))))
  | 0, _, _, h, _ => absurd h (Nat.not_lt_zero _)
  | n + 1, m, i, h, hi => fun j hj => by
    rcases Nat.lt_or_ge i N with q | q
    · rw [h1 n m i q, zlO F P N hN h0 h1 n _ (i + 1) (by omega) (by omega) j hj]
      by_cases e : j = i
      · subst e
        rw [decide_eq_true (Nat.le_refl j), decide_eq_true q, decide_eq_false (show ¬ j + 1 ≤ j by omega)]
        cases hP : P j
        · simp
        · simp only [if_true]; rw [bt_set (by omega) hj]; simp
      · have e1 : bt (if P i then m ||| zp2 i else m) j = bt m j := by
          cases hP : P i
          · rfl
          · simp only [if_true]; rw [bt_set (by omega) hj, decide_eq_false e, Bool.or_false]
        rw [e1]
        by_cases k : i ≤ j
        · rw [decide_eq_true k, decide_eq_true (show i + 1 ≤ j by omega)]
        · rw [decide_eq_false k, decide_eq_false (show ¬ i + 1 ≤ j by omega)]
    · have hi2 : i = N := by omega
      subst hi2
      rw [h0 n m]
      by_cases k : i ≤ j
      · rw [decide_eq_false (show ¬ j < i by omega)]; simp
      · rw [decide_eq_false k]; simp
/-- a loop that adds g i, stopped at N -/
theorem zlJ (F : Nat → Int32 → Nat → Int32) (g : Nat → Int32) (N : Nat) (h0 : ∀ n m, F (n + 1) m N = m) (h1 : ∀ n m i, i < N → F (n + 1) m i = F n (m + g i) (i + 1)) :
    ∀ (n : Nat) (m : Int32) (i : Nat), N - i < n → i ≤ N → F n m i = m + zsu g (N - i) i
  | 0, _, _, h, _ => absurd h (Nat.not_lt_zero _)
  | n + 1, m, i, h, hi => by
    rcases Nat.lt_or_ge i N with q | q
    · obtain ⟨k, hk⟩ : ∃ k, N - i = k + 1 := ⟨N - i - 1, by omega⟩
      rw [h1 n m i q, zlJ F g N h0 h1 n (m + g i) (i + 1) (by omega) (by omega), hk, show N - (i + 1) = k by omega]
      show m + g i + zsu g k (i + 1) = m + (g i + zsu g k (i + 1))
      rw [Int32.add_assoc]
    · have hi2 : i = N := by omega
      subst hi2
      rw [h0 n m, show i - i = 0 by omega]
      show m = m + 0
      rw [Int32.add_zero]
theorem zsu_0 {g : Nat → Int32} : ∀ (k i : Nat), (∀ j, i ≤ j → j < i + k → g j = 0) → zsu g k i = 0
  | 0, _, _ => rfl
  | k + 1, i, e => by
    show g i + zsu g k (i + 1) = 0
    rw [e i (Nat.le_refl _) (by omega), zsu_0 k (i + 1) (fun j a b => e j (by omega) (by omega))]; rfl
theorem zsu_split (g : Nat → Int32) : ∀ (k m i : Nat), zsu g (k + m) i = zsu g k i + zsu g m (i + k)
  | 0, m, i => by show zsu g (0 + m) i = 0 + _; rw [Nat.zero_add, Int32.zero_add, Nat.add_zero]
  | k + 1, m, i => by
    rw [show k + 1 + m = k + m + 1 by omega]
    show g i + zsu g (k + m) (i + 1) = g i + zsu g k (i + 1) + zsu g m (i + (k + 1))
    rw [zsu_split g k m (i + 1), Int32.add_assoc, show i + 1 + k = i + (k + 1) by omega]
theorem zind_t {P : Nat → Bool} {i : Nat} (h : P i = true) : zind P i = 1 := if_pos h
theorem zind_f {P : Nat → Bool} {i : Nat} (h : P i = false) : zind P i = 0 := if_neg (by rw [h]; decide)
section EQ3
variable {T M : Nat → Nat → Int32} {b b2 p : Nat}
theorem eq_nb (R : zTw T (M 0)) : T 0 0 = M 0 1 := R.1.1
theorem znb8 (I : zI M) : (M 0 1).toNatClampNeg ≤ 8 := by have := (znat (zI_B I)).2; omega
theorem znbi (I : zI M) (i : Nat) (hi : i < 9) : (M 0 1 ≤ nI i) ↔ (M 0 1).toNatClampNeg ≤ i := by
  obtain ⟨j, hj, e⟩ := vp_in_of (zI_B I) (by decide)
  rw [e, nI_nat (by omega), Int32.le_iff_toInt_le, nI_toInt (by omega), nI_toInt (by omega)]; omega
theorem zclosed (R : zTw T (M 0)) (h : (M 0 1).toNatClampNeg ≤ b) (hb : b < 8) : v_X5_eatsNow M p b = 0 := by
  unfold v_X5_eatsNow
  rw [eq_open R hb, R.2.2.2.2.2.2 b hb h, if_neg (by decide)]
theorem zbo (R : zTw T (M 0)) (I : zI M) {j : Nat} (hj : j < 32) : bt (v_X5_breadsOf M p) j = (decide (j < 8) && zEt M j p) := by
  have h8 := znb8 I
  unfold v_X5_breadsOf
  rw [zlO (v_X5_breadsOf_4 M p) (fun i => zEt M i p) (M 0 1).toNatClampNeg (by omega) (fun n m => ?_) (fun n m i h => ?_) 9 0 0 (by omega) (by omega) j hj, b_0, Bool.false_or]
  · rcases Nat.lt_or_ge j 8 with q | q
    · rcases Nat.lt_or_ge j (M 0 1).toNatClampNeg with r | r
      · simp [q, r]
      · rw [show zEt M j p = false from zEt_f.mpr (zclosed R r q)]; simp
    · rw [decide_eq_false (show ¬ j < (M 0 1).toNatClampNeg by omega), decide_eq_false (show ¬ j < 8 by omega)]; simp
  · rw [v_X5_breadsOf_4, if_pos ((znbi I _ (by omega)).mpr (Nat.le_refl _))]
  · rw [v_X5_breadsOf_4, if_neg (fun z => by have := (znbi I i (by omega)).mp z; omega)]
    by_cases c : v_X5_eatsNow M p i = 0
    · rw [if_pos ((ez_le M p i).mpr c), zor0, zEt_f.mpr c]; rfl
    · rw [if_neg (fun z => c ((ez_le M p i).mp z)), zEt_t.mpr c]; rfl
theorem zbo8 (R : zTw T (M 0)) (I : zI M) : zm8 (v_X5_breadsOf M p) := fun i h8 hi => by
  rw [zbo R I hi, decide_eq_false (by omega)]; rfl
theorem eq_breads (R : zTw T (M 0)) (I : zI M) (hp : p < 150) : v_X3_breadsEatenBy T p = v_X5_breadsOf M p := by
  refine b_ext fun j hj => ?_
  rw [zbo R I hj]
  unfold v_X3_breadsEatenBy
  rw [zlO (v_X3_breadsEatenBy_4 T p) (fun i => !decide (v_X3_reasonBy T p i (v_X3_saltOf T i) = 0)) 8 (by decide) (fun n m => by rw [v_X3_breadsEatenBy_4, if_pos (Nat.le_refl 8)]) (fun n m i h => ?_) 9 0 0 (by decide) (by decide) j hj, b_0, Bool.false_or]
  · rcases Nat.lt_or_ge j 8 with q | q
    · unfold zEt; rw [eq_eat R I hp q]; simp [q]
    · rw [decide_eq_false (show ¬ j < 8 by omega)]; simp
  · rw [v_X3_breadsEatenBy_4, if_neg (by omega)]
    by_cases c : v_X3_reasonBy T p i (v_X3_saltOf T i) = 0
    · rw [if_pos c]; simp [c]
    · rw [if_neg c]; simp [c]
theorem eq_both (R : zTw T (M 0)) (I : zI M) (hb : b < 8) (hb2 : b2 < 8) : nI (v_X3_eatersOfBoth T b b2) = v_X5_bothEat M b b2 := by
  unfold v_X3_eatersOfBoth v_X5_bothEat
  rw [zlN0 (v_X3_eatersOfBoth_5 T b b2) (fun p => zEt M b p && zEt M b2 p) 150 (fun n m i h => by rw [v_X3_eatersOfBoth_5, if_pos h]) (fun n m i h => ?_) (by decide),
    zlI0 (v_X5_bothEat_5 M b b2) (zind (fun p => zEt M b p && zEt M b2 p)) 150 (fun n m i h => by rw [v_X5_bothEat_5, if_pos h]) (fun n m i h => ?_) (by decide), zsu_n]
  · rw [v_X5_bothEat_5, if_neg (by omega)]
    by_cases c : v_X5_eatsNow M i b = 0
    · rw [if_pos ((ez_le M i b).mpr c), zind_f (show (zEt M b i && zEt M b2 i) = false by rw [zEt_f.mpr c]; rfl)]
    · rw [if_neg (fun z => c ((ez_le M i b).mp z))]
      by_cases d : v_X5_eatsNow M i b2 = 0
      · rw [if_pos ((ez_le M i b2).mpr d), zind_f (show (zEt M b i && zEt M b2 i) = false by rw [zEt_f.mpr d, Bool.and_false])]
      · rw [if_neg (fun z => d ((ez_le M i b2).mp z)), zind_t (show (zEt M b i && zEt M b2 i) = true by rw [zEt_t.mpr c, zEt_t.mpr d]; rfl)]
  · rw [v_X3_eatersOfBoth_5, if_neg (by omega), eq_isE R I h hb, eq_isE R I h hb2]
    cases zEt M b i <;> cases zEt M b2 i <;> rfl
/-- a count of a mask's bit over the persons -/
theorem zpw5 (M : Nat → Nat → Int32) (f b : Nat) (x : Nat → Int32) (hb : b < 8) (h : ∀ p, p < 150 → x p = M 0 (f + p)) : v_X5_personsWith M f b = zsu (fun i => ((x i >>> ((nI b) &&& 31)) &&& 1)) 150 0 := by
  unfold v_X5_personsWith
  rw [zlI0 (v_X5_personsWith_5 M f b) (fun i => bI (bt (M 0 (f + i)) b)) 150 (fun n m i h => by rw [v_X5_personsWith_5, if_pos h]) (fun n m i h => ?_) (by decide)]
  · exact zsu_cong 150 0 (fun j _ hj => by show _ = (x j >>> _) &&& 1; rw [zsh1 (by omega), h j (by omega)])
  · rw [v_X5_personsWith_5, if_neg (by omega), eq_held hb rfl]
    cases bt (M 0 (f + i)) b <;> rfl
theorem eq_pw11 (R : zTw T (M 0)) (hb : b < 8) : v_X3_personsWith_11 T b = v_X5_personsWith M 353 b := by
  rw [zpw5 M 353 b (T 11) hb (fun p hp => (R.2.2.2.1 p hp).1.1)]
  unfold v_X3_personsWith_11
  exact zlI0 (v_X3_personsWith_11_5 T b) _ 150 (fun n m i h => by rw [v_X3_personsWith_11_5, if_pos h]) (fun n m i h => by rw [v_X3_personsWith_11_5, if_neg (by omega)]) (by decide)
theorem eq_pw12 (R : zTw T (M 0)) (hb : b < 8) : v_X3_personsWith_12 T b = v_X5_personsWith M 503 b := by
  rw [zpw5 M 503 b (T 12) hb (fun p hp => (R.2.2.2.1 p hp).1.2.1)]
  unfold v_X3_personsWith_12
  exact zlI0 (v_X3_personsWith_12_5 T b) _ 150 (fun n m i h => by rw [v_X3_personsWith_12_5, if_pos h]) (fun n m i h => by rw [v_X3_personsWith_12_5, if_neg (by omega)]) (by decide)
theorem eq_pw13 (R : zTw T (M 0)) (hb : b < 8) : v_X3_personsWith_13 T b = v_X5_personsWith M 653 b := by
  rw [zpw5 M 653 b (T 13) hb (fun p hp => (R.2.2.2.1 p hp).1.2.2.1)]
  unfold v_X3_personsWith_13
  exact zlI0 (v_X3_personsWith_13_5 T b) _ 150 (fun n m i h => by rw [v_X3_personsWith_13_5, if_pos h]) (fun n m i h => by rw [v_X3_personsWith_13_5, if_neg (by omega)]) (by decide)
theorem eq_lo (R : zTw T (M 0)) (I : zI M) (hb : b < 8) : v_X3_lowestBucket T b = v_X5_lowestOf M b := by
  have key : ∀ (n i : Nat), i ≤ 100 → v_X3_lowestBucket_2 T b n i = v_X5_lowestOf_2 M b n i := by
    intro n
    induction n with
    | zero => intros; rfl
    | succ n ih =>
      intro i hi
      rw [v_X3_lowestBucket_2, v_X5_lowestOf_2]
      by_cases c : 100 ≤ i
      · rw [if_pos c, if_pos c, if_pos (by omega)]
      · rw [if_neg c, if_neg c, eq_owns R I hb (by omega), ih (i + 1) (by omega), if_neg (show ¬ i = 100 by omega)]
  unfold v_X3_lowestBucket v_X5_lowestOf
  exact key 101 0 (by decide)
theorem zm1i : ∀ i, i < 100 → (nI (i + 1) + (-1) = nI i) ∧ ¬ nI i < 0 := by decide +kernel
theorem eq_hi (R : zTw T (M 0)) (I : zI M) (hb : b < 8) : v_X3_highestBucket T b = v_X5_highestOf M b := by
  have key : ∀ (n i : Nat), i < 100 → v_X3_highestBucket_3 T b n (nI i) = v_X5_highestOf_3 M b n (nI i) := by
    intro n
    induction n with
    | zero => intros; rfl
    | succ n ih =>
      intro i hi
      rw [v_X3_highestBucket_3, v_X5_highestOf_3, if_neg (zm1i i hi).2, if_neg (zm1i i hi).2, nI_nat (by omega), eq_owns R I hb hi]
      cases i with
      | zero =>
        rw [show nI 0 + (-1) = -1 by decide]
        cases n with
        | zero => rfl
        | succ n => rw [v_X3_highestBucket_3, v_X5_highestOf_3, if_pos (show (-1 : Int32) < 0 by decide), if_pos (show (-1 : Int32) < 0 by decide)]
      | succ i => rw [(zm1i i (by omega)).1, ih i (by omega)]
  unfold v_X3_highestBucket v_X5_highestOf
  rw [show (99 : Int32) = nI 99 from rfl]
  exact key 101 99 (by decide)
theorem eq_free (R : zTw T (M 0)) {gr : Nat} (hg : gr < 3) : nI (v_X3_freeBuckets T gr) = v_X5_freeOf M gr := by
  unfold v_X3_freeBuckets v_X5_freeOf
  rw [zlN0 (v_X3_freeBuckets_4 T gr) (fun i => decide (M 0 (53 + (100 * gr) + i) = -1)) 100 (fun n m i h => by rw [v_X3_freeBuckets_4, if_pos h]) (fun n m i h => ?_) (by decide),
    zlI0 (v_X5_freeOf_4 M gr) (zind (fun i => decide (M 0 (53 + (100 * gr) + i) = -1))) 100 (fun n m i h => by rw [v_X5_freeOf_4, if_pos h]) (fun n m i h => ?_) (by decide), zsu_n]
  · rw [v_X5_freeOf_4, if_neg (by omega)]
    unfold zind
    by_cases c : M 0 (53 + (100 * gr) + i) = -1
    · rw [if_pos c, if_pos (by simpa using c)]
    · rw [if_neg c, if_neg (by simpa using c)]
  · rw [v_X3_freeBuckets_4, if_neg (by omega), R.2.2.1 _ (by omega), show 53 + (gr * 100 + i) = 53 + 100 * gr + i by omega]
    by_cases c : M 0 (53 + (100 * gr) + i) = -1
    · rw [if_pos c, if_pos (by simpa using c)]
    · rw [if_neg c, if_neg (by simpa using c)]
theorem eq_bp (R : zTw T (M 0)) (I : zI M) (hb : b < 8) {k : Nat} (hk : k < 12) : v_X3_breadProperty T b (nI k) = v_X5_breadNow M b k := by
  unfold v_X3_breadProperty v_X5_breadNow
  rw [zsh1 (by omega), zsh1 (by omega), ← (R.br hb).2.2.2.2.1, ← (R.br hb).2.2.2.2.2, (R.br hb).1, eq_salt R I hb, (R.br hb).2.2.1, eq_eaters R I hb, eq_pw13 R hb, (R.br hb).2.2.2.1, eq_pw11 R hb, eq_pw12 R hb, eq_lo R I hb, eq_hi R I hb]
  have hc : k = 0 ∨ k = 1 ∨ k = 2 ∨ k = 3 ∨ k = 4 ∨ k = 5 ∨ k = 6 ∨ k = 7 ∨ k = 8 ∨ k = 9 ∨ k = 10 ∨ k = 11 := by omega
  rcases hc with h | h | h | h | h | h | h | h | h | h | h | h <;> subst h
  · rw [if_pos (show nI 0 = 0 by decide), if_pos (show 0 = 0 by decide)]
  · rw [if_neg (show ¬ nI 1 = 0 by decide), if_pos (show nI 1 = 1 by decide), if_neg (show ¬ 1 = 0 by decide), if_pos (show 1 = 1 by decide)]
  · rw [if_neg (show ¬ nI 2 = 0 by decide), if_neg (show ¬ nI 2 = 1 by decide), if_pos (show nI 2 = 2 by decide), if_neg (show ¬ 2 = 0 by decide), if_neg (show ¬ 2 = 1 by decide), if_pos (show 2 = 2 by decide)]
  · rw [if_neg (show ¬ nI 3 = 0 by decide), if_neg (show ¬ nI 3 = 1 by decide), if_neg (show ¬ nI 3 = 2 by decide), if_pos (show nI 3 = 3 by decide), if_neg (show ¬ 3 = 0 by decide), if_neg (show ¬ 3 = 1 by decide), if_neg (show ¬ 3 = 2 by decide), if_pos (show 3 = 3 by decide)]
  · rw [if_neg (show ¬ nI 4 = 0 by decide), if_neg (show ¬ nI 4 = 1 by decide), if_neg (show ¬ nI 4 = 2 by decide), if_neg (show ¬ nI 4 = 3 by decide), if_pos (show nI 4 = 4 by decide), if_neg (show ¬ 4 = 0 by decide), if_neg (show ¬ 4 = 1 by decide), if_neg (show ¬ 4 = 2 by decide), if_neg (show ¬ 4 = 3 by decide), if_pos (show 4 = 4 by decide)]
  · rw [if_neg (show ¬ nI 5 = 0 by decide), if_neg (show ¬ nI 5 = 1 by decide), if_neg (show ¬ nI 5 = 2 by decide), if_neg (show ¬ nI 5 = 3 by decide), if_neg (show ¬ nI 5 = 4 by decide), if_pos (show nI 5 = 5 by decide), if_neg (show ¬ 5 = 0 by decide), if_neg (show ¬ 5 = 1 by decide), if_neg (show ¬ 5 = 2 by decide), if_neg (show ¬ 5 = 3 by decide), if_neg (show ¬ 5 = 4 by decide), if_pos (show 5 = 5 by decide)]
  · rw [if_neg (show ¬ nI 6 = 0 by decide), if_neg (show ¬ nI 6 = 1 by decide), if_neg (show ¬ nI 6 = 2 by decide), if_neg (show ¬ nI 6 = 3 by decide), if_neg (show ¬ nI 6 = 4 by decide), if_neg (show ¬ nI 6 = 5 by decide), if_pos (show nI 6 = 6 by decide), if_neg (show ¬ 6 = 0 by decide), if_neg (show ¬ 6 = 1 by decide), if_neg (show ¬ 6 = 2 by decide), if_neg (show ¬ 6 = 3 by decide), if_neg (show ¬ 6 = 4 by decide), if_neg (show ¬ 6 = 5 by decide), if_pos (show 6 = 6 by decide)]
  · rw [if_neg (show ¬ nI 7 = 0 by decide), if_neg (show ¬ nI 7 = 1 by decide), if_neg (show ¬ nI 7 = 2 by decide), if_neg (show ¬ nI 7 = 3 by decide), if_neg (show ¬ nI 7 = 4 by decide), if_neg (show ¬ nI 7 = 5 by decide), if_neg (show ¬ nI 7 = 6 by decide), if_pos (show nI 7 = 7 by decide), if_neg (show ¬ 7 = 0 by decide), if_neg (show ¬ 7 = 1 by decide), if_neg (show ¬ 7 = 2 by decide), if_neg (show ¬ 7 = 3 by decide), if_neg (show ¬ 7 = 4 by decide), if_neg (show ¬ 7 = 5 by decide), if_neg (show ¬ 7 = 6 by decide), if_pos (show 7 = 7 by decide)]
  · rw [if_neg (show ¬ nI 8 = 0 by decide), if_neg (show ¬ nI 8 = 1 by decide), if_neg (show ¬ nI 8 = 2 by decide), if_neg (show ¬ nI 8 = 3 by decide), if_neg (show ¬ nI 8 = 4 by decide), if_neg (show ¬ nI 8 = 5 by decide), if_neg (show ¬ nI 8 = 6 by decide), if_neg (show ¬ nI 8 = 7 by decide), if_pos (show nI 8 = 8 by decide), if_neg (show ¬ 8 = 0 by decide), if_neg (show ¬ 8 = 1 by decide), if_neg (show ¬ 8 = 2 by decide), if_neg (show ¬ 8 = 3 by decide), if_neg (show ¬ 8 = 4 by decide), if_neg (show ¬ 8 = 5 by decide), if_neg (show ¬ 8 = 6 by decide), if_neg (show ¬ 8 = 7 by decide), if_pos (show 8 = 8 by decide)]
  · rw [if_neg (show ¬ nI 9 = 0 by decide), if_neg (show ¬ nI 9 = 1 by decide), if_neg (show ¬ nI 9 = 2 by decide), if_neg (show ¬ nI 9 = 3 by decide), if_neg (show ¬ nI 9 = 4 by decide), if_neg (show ¬ nI 9 = 5 by decide), if_neg (show ¬ nI 9 = 6 by decide), if_neg (show ¬ nI 9 = 7 by decide), if_neg (show ¬ nI 9 = 8 by decide), if_pos (show nI 9 = 9 by decide), if_neg (show ¬ 9 = 0 by decide), if_neg (show ¬ 9 = 1 by decide), if_neg (show ¬ 9 = 2 by decide), if_neg (show ¬ 9 = 3 by decide), if_neg (show ¬ 9 = 4 by decide), if_neg (show ¬ 9 = 5 by decide), if_neg (show ¬ 9 = 6 by decide), if_neg (show ¬ 9 = 7 by decide), if_neg (show ¬ 9 = 8 by decide), if_pos (show 9 = 9 by decide)]
  · rw [if_neg (show ¬ nI 10 = 0 by decide), if_neg (show ¬ nI 10 = 1 by decide), if_neg (show ¬ nI 10 = 2 by decide), if_neg (show ¬ nI 10 = 3 by decide), if_neg (show ¬ nI 10 = 4 by decide), if_neg (show ¬ nI 10 = 5 by decide), if_neg (show ¬ nI 10 = 6 by decide), if_neg (show ¬ nI 10 = 7 by decide), if_neg (show ¬ nI 10 = 8 by decide), if_neg (show ¬ nI 10 = 9 by decide), if_pos (show nI 10 = 10 by decide), if_neg (show ¬ 10 = 0 by decide), if_neg (show ¬ 10 = 1 by decide), if_neg (show ¬ 10 = 2 by decide), if_neg (show ¬ 10 = 3 by decide), if_neg (show ¬ 10 = 4 by decide), if_neg (show ¬ 10 = 5 by decide), if_neg (show ¬ 10 = 6 by decide), if_neg (show ¬ 10 = 7 by decide), if_neg (show ¬ 10 = 8 by decide), if_neg (show ¬ 10 = 9 by decide), if_pos (show 10 = 10 by decide)]
  · rw [if_neg (show ¬ nI 11 = 0 by decide), if_neg (show ¬ nI 11 = 1 by decide), if_neg (show ¬ nI 11 = 2 by decide), if_neg (show ¬ nI 11 = 3 by decide), if_neg (show ¬ nI 11 = 4 by decide), if_neg (show ¬ nI 11 = 5 by decide), if_neg (show ¬ nI 11 = 6 by decide), if_neg (show ¬ nI 11 = 7 by decide), if_neg (show ¬ nI 11 = 8 by decide), if_neg (show ¬ nI 11 = 9 by decide), if_neg (show ¬ nI 11 = 10 by decide), if_neg (show ¬ 11 = 0 by decide), if_neg (show ¬ 11 = 1 by decide), if_neg (show ¬ 11 = 2 by decide), if_neg (show ¬ 11 = 3 by decide), if_neg (show ¬ 11 = 4 by decide), if_neg (show ¬ 11 = 5 by decide), if_neg (show ¬ 11 = 6 by decide), if_neg (show ¬ 11 = 7 by decide), if_neg (show ¬ 11 = 8 by decide), if_neg (show ¬ 11 = 9 by decide), if_neg (show ¬ 11 = 10 by decide)]
theorem eq_pp (R : zTw T (M 0)) (I : zI M) (hp : p < 150) {k : Nat} (hk : k < 5) : v_X3_personProperty T p (nI k) = v_X5_personNow M p k := by
  unfold v_X3_personProperty v_X5_personNow
  rw [eq_breads R I hp, (R.2.2.2.1 p hp).1.1, (R.2.2.2.1 p hp).1.2.1, (R.2.2.2.1 p hp).1.2.2.1, (R.2.2.2.1 p hp).1.2.2.2]
  have hc : k = 0 ∨ k = 1 ∨ k = 2 ∨ k = 3 ∨ k = 4 := by omega
  rcases hc with h | h | h | h | h <;> subst h
  · rw [if_pos (show nI 0 = 0 by decide), if_pos (show 0 = 0 by decide)]
  · rw [if_neg (show ¬ nI 1 = 0 by decide), if_pos (show nI 1 = 1 by decide), if_neg (show ¬ 1 = 0 by decide), if_pos (show 1 = 1 by decide)]
  · rw [if_neg (show ¬ nI 2 = 0 by decide), if_neg (show ¬ nI 2 = 1 by decide), if_pos (show nI 2 = 2 by decide), if_neg (show ¬ 2 = 0 by decide), if_neg (show ¬ 2 = 1 by decide), if_pos (show 2 = 2 by decide)]
  · rw [if_neg (show ¬ nI 3 = 0 by decide), if_neg (show ¬ nI 3 = 1 by decide), if_neg (show ¬ nI 3 = 2 by decide), if_pos (show nI 3 = 3 by decide), if_neg (show ¬ 3 = 0 by decide), if_neg (show ¬ 3 = 1 by decide), if_neg (show ¬ 3 = 2 by decide), if_pos (show 3 = 3 by decide)]
  · rw [if_neg (show ¬ nI 4 = 0 by decide), if_neg (show ¬ nI 4 = 1 by decide), if_neg (show ¬ nI 4 = 2 by decide), if_neg (show ¬ nI 4 = 3 by decide), if_neg (show ¬ 4 = 0 by decide), if_neg (show ¬ 4 = 1 by decide), if_neg (show ¬ 4 = 2 by decide), if_neg (show ¬ 4 = 3 by decide)]
end EQ3
