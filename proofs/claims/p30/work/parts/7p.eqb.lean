/-! THE TOWN IS THE ROW: the relation, and what reads it -/
def zTw (T : Nat → Nat → Int32) (r : Nat → Int32) : Prop :=
  (T 0 0 = r 1 ∧ T 1 0 = r 0 ∧ T 2 0 = zsu (fun p => r (803 + p)) 150 0) ∧ (∀ g, g < 3 → T 9 g = r (2 + g)) ∧ (∀ k, k < 300 → T 10 k = r (53 + k)) ∧
  (∀ p, p < 150 → (T 11 p = r (353 + p) ∧ T 12 p = r (503 + p) ∧ T 13 p = r (653 + p) ∧ T 14 p = r (803 + p)) ∧ zm8 (T 11 p) ∧ zm8 (T 12 p) ∧ zm8 (T 13 p)) ∧
  (∀ b, b < 8 → T 5 b = r (5 + 6 * b + 1) ∧ T 6 b = r (5 + 6 * b + 2) ∧ T 7 b = r (5 + 6 * b + 3) ∧ T 8 b = r (5 + 6 * b + 5) ∧ r (5 + 6 * b + 0) = bI (bt (T 3 0) b) ∧ r (5 + 6 * b + 4) = bI (bt (T 4 0) b)) ∧
  zm8 (T 3 0) ∧ (∀ b, b < 8 → (r 1).toNatClampNeg ≤ b → bt (T 3 0) b = false)
section EQ
variable {T M : Nat → Nat → Int32} {b p : Nat}
theorem zTw.br (R : zTw T (M 0)) (hb : b < 8) : T 5 b = v_X5_of M b 1 ∧ T 6 b = v_X5_of M b 2 ∧ T 7 b = v_X5_of M b 3 ∧ T 8 b = v_X5_of M b 5 ∧ v_X5_of M b 0 = bI (bt (T 3 0) b) ∧ v_X5_of M b 4 = bI (bt (T 4 0) b) := R.2.2.2.2.1 b hb
theorem bI_1 (q : Bool) : bI q = 1 ↔ q = true := by cases q <;> decide
theorem eq_open (R : zTw T (M 0)) (hb : b < 8) : v_X5_isOpen M b = bt (T 3 0) b := by
  unfold v_X5_isOpen
  rw [(R.br hb).2.2.2.2.1]
  cases bt (T 3 0) b <;> rfl
theorem eq_held {x : Int32} {f : Nat} (hb : b < 8) (h : x = M 0 (f + p)) : v_X5_isHeld M f p b = bt x b := by
  unfold v_X5_isHeld
  rw [← h, zsh1 (by omega)]
  cases bt x b <;> rfl
theorem eq_in (R : zTw T (M 0)) (hp : p < 150) (hb : b < 8) : v_X5_isHeld M 353 p b = bt (T 11 p) b := eq_held hb (R.2.2.2.1 p hp).1.1
theorem eq_out (R : zTw T (M 0)) (hp : p < 150) (hb : b < 8) : v_X5_isHeld M 503 p b = bt (T 12 p) b := eq_held hb (R.2.2.2.1 p hp).1.2.1
theorem eq_ate (R : zTw T (M 0)) (hp : p < 150) (hb : b < 8) : v_X5_isHeld M 653 p b = bt (T 13 p) b := eq_held hb (R.2.2.2.1 p hp).1.2.2.1
theorem zig3 : ∀ j, j < 3 → v_X4_isGroup (nI j) = true ∧ nI j ≠ -1 ∧ ¬ nI j < 0 ∧ ¬ 3 ≤ nI j := by decide
theorem eq_grp (R : zTw T (M 0)) (I : zI M) (hb : b < 8) : v_X4_isGroup (T 5 b) = v_X5_isOfGroup M b := by
  unfold v_X5_isOfGroup
  rw [(R.br hb).1]
  rcases zI_G I b hb with h | h
  · have h2 : v_X5_of M b 1 = -1 := h
    rw [h2, if_pos rfl]; rfl
  · obtain ⟨j, hj, e⟩ := vp_in_of h (by decide)
    have h2 : v_X5_of M b 1 = nI j := e
    rw [h2, (zig3 j hj).1, if_neg (zig3 j hj).2.1]
theorem eq_salt (R : zTw T (M 0)) (I : zI M) (hb : b < 8) : v_X3_saltOf T b = v_X5_saltOf M b := by
  unfold v_X3_saltOf v_X5_saltOf
  rw [eq_grp R I hb]
  by_cases c : v_X5_isOfGroup M b = true
  · rw [if_pos c, if_pos c, (R.br hb).1]
    exact R.2.1 _ (znat (zmg c hb (zI_G I))).2
  · rw [if_neg c, if_neg c]; exact (R.br hb).2.1
theorem eq_owns (R : zTw T (M 0)) (I : zI M) (hb : b < 8) {k : Nat} (hk : k < 100) : v_X3_owns T b k = v_X5_owns M b k := by
  unfold v_X3_owns v_X5_owns v_X5_isOfGroup
  rw [(R.br hb).1, (R.br hb).2.2.1]
  rcases zI_G I b hb with h | h
  · have h2 : v_X5_of M b 1 = -1 := h
    rw [h2]; simp only [if_pos (show (-1 : Int32) < 0 by decide), if_true, if_neg (show ¬ (false = true) by decide)]
  · obtain ⟨j, hj, e⟩ := vp_in_of h (by decide)
    have h2 : v_X5_of M b 1 = nI j := e
    rw [h2, if_neg (zig3 j hj).2.2.1, if_neg (zig3 j hj).2.2.2, if_neg (zig3 j hj).2.1, if_pos rfl, show (100 : Int32) = nI 100 from rfl, pk_mul, nI_add, nI_nat (by omega), nI_nat (by omega), R.2.2.1 _ (by omega), show 53 + (j * 100 + k) = 53 + 100 * j + k by omega]
theorem eq_bucket (x s : Int32) : v_X4_bucketBy x s = v_X5_bucketBy x s := by
  unfold v_X4_bucketBy v_X5_bucketBy; with_reducible rfl
/-- by any salt -/
theorem eq_eatS (R : zTw T (M 0)) (I : zI M) (hp : p < 150) (hb : b < 8) (sal : Int32) : v_X3_reasonBy T p b sal = (if bt (T 3 0) b = true then (if bt (T 12 p) b = true then 0 else (if bt (T 11 p) b = true then 1 else (if v_X5_owns M b (v_X5_bucketBy (nI p) sal) = true then 3 else (if bt (T 4 0) b = true then (if bt (T 13 p) b = true then 2 else 0) else 0)))) else 0) := by
  unfold v_X3_reasonBy
  rw [eq_bucket, eq_owns R I hb (v_X5_bucketBy_lt _ _)]
  have c1 : ((T 3 0 &&& (T 12 p ^^^ (-1))) &&& zp2 b) = 0 ↔ (bt (T 3 0) b && !bt (T 12 p) b) = false := by
    rw [zan (by omega), b_and, bt_not (by omega)]
  have c3 : ((T 4 0 &&& T 13 p) &&& zp2 b) = 0 ↔ (bt (T 4 0) b && bt (T 13 p) b) = false := by
    rw [zan (by omega), b_and]
  have c2 : (T 11 p &&& zp2 b) = 0 ↔ bt (T 11 p) b = false := zan (by omega)
  by_cases h3 : bt (T 3 0) b = true
  · by_cases h12 : bt (T 12 p) b = true
    · rw [if_pos (c1.mpr (by rw [h3, h12]; rfl)), if_pos h3, if_pos h12]
    · rw [if_neg (fun z => by have := c1.mp z; rw [h3] at this; cases h : bt (T 12 p) b <;> simp_all), if_pos h3, if_neg h12]
      by_cases h11 : bt (T 11 p) b = true
      · rw [if_neg (fun z => by have := c2.mp z; rw [h11] at this; cases this), if_pos h11]
      · rw [if_pos (c2.mpr (by simpa using h11)), if_neg h11]
        by_cases o : v_X5_owns M b (v_X5_bucketBy (nI p) sal) = true
        · rw [if_pos o, if_pos o]
        · rw [if_neg o, if_neg o]
          by_cases h4 : bt (T 4 0) b = true
          · by_cases h13 : bt (T 13 p) b = true
            · rw [if_neg (fun z => by have := c3.mp z; rw [h4, h13] at this; cases this), if_pos h4, if_pos h13]
            · rw [if_pos (c3.mpr (by rw [h4]; simpa using h13)), if_pos h4, if_neg h13]
          · rw [if_pos (c3.mpr (by have : bt (T 4 0) b = false := by simpa using h4
                                   rw [this]; rfl)), if_neg h4]
  · rw [if_pos (c1.mpr (by have : bt (T 3 0) b = false := by simpa using h3
                           rw [this]; rfl)), if_neg h3]
theorem eq_eatM (R : zTw T (M 0)) (hp : p < 150) (hb : b < 8) : v_X5_eatsNow M p b = (if bt (T 3 0) b = true then (if bt (T 12 p) b = true then 0 else (if bt (T 11 p) b = true then 1 else (if v_X5_owns M b (v_X5_bucketBy (nI p) (v_X5_saltOf M b)) = true then 3 else (if bt (T 4 0) b = true then (if bt (T 13 p) b = true then 2 else 0) else 0)))) else 0) := by
  unfold v_X5_eatsNow
  rw [eq_open R hb, eq_in R hp hb, eq_out R hp hb, eq_ate R hp hb, (R.br hb).2.2.2.2.2]
  have c : (bI (bt (T 4 0) b) = 1) = (bt (T 4 0) b = true) := propext (bI_1 _)
  simp only [c]
theorem eq_eat (R : zTw T (M 0)) (I : zI M) (hp : p < 150) (hb : b < 8) : v_X3_reasonBy T p b (v_X3_saltOf T b) = v_X5_eatsNow M p b := by
  rw [eq_eatM R hp hb, eq_eatS R I hp hb, eq_salt R I hb]
end EQ
theorem ez4 (M : Nat → Nat → Int32) (p b : Nat) : v_X5_eatsNow M p b = 0 ∨ v_X5_eatsNow M p b = 1 ∨ v_X5_eatsNow M p b = 2 ∨ v_X5_eatsNow M p b = 3 := by
  unfold v_X5_eatsNow
  repeat' split
  all_goals simp
theorem ez_le (M : Nat → Nat → Int32) (p b : Nat) : v_X5_eatsNow M p b ≤ 0 ↔ v_X5_eatsNow M p b = 0 := by
  rcases ez4 M p b with h | h | h | h <;> rw [h] <;> decide
/-- p eats b -/
def zEt (M : Nat → Nat → Int32) (b p : Nat) : Bool := !decide (v_X5_eatsNow M p b = 0)
theorem zEt_f {M : Nat → Nat → Int32} {b p : Nat} : zEt M b p = false ↔ v_X5_eatsNow M p b = 0 := by
  unfold zEt; simp
theorem zEt_t {M : Nat → Nat → Int32} {b p : Nat} : zEt M b p = true ↔ ¬ v_X5_eatsNow M p b = 0 := by
  unfold zEt; simp
section EQ2
variable {T M : Nat → Nat → Int32} {b p : Nat}
theorem zeb_ct (T : Nat → Nat → Int32) (b : Nat) (sal : Int32) : v_X3_eatersBy T b sal = fb_ct (fun p => !decide (v_X3_reasonBy T p b sal = 0)) 150 := by
  unfold v_X3_eatersBy
  refine zlN0 (v_X3_eatersBy_5 T b sal) _ 150 (fun n m i h => by rw [v_X3_eatersBy_5, if_pos h]) (fun n m i h => ?_) (by decide)
  rw [v_X3_eatersBy_5, if_neg (by omega)]
  by_cases c : v_X3_reasonBy T i b sal = 0
  · rw [if_pos c]; simp [c]
  · rw [if_neg c]; simp [c]
theorem zme_ct (M : Nat → Nat → Int32) (b : Nat) : v_X5_eaters M b = nI (fb_ct (zEt M b) 150) := by
  unfold v_X5_eaters
  rw [zlI0 (v_X5_eaters_4 M b) (zind (zEt M b)) 150 (fun n m i h => by rw [v_X5_eaters_4, if_pos h]) (fun n m i h => ?_) (by decide), zsu_n]
  rw [v_X5_eaters_4, if_neg (by omega)]
  unfold zind
  by_cases c : v_X5_eatsNow M i b = 0
  · rw [if_pos ((ez_le M i b).mpr c), if_neg (by rw [zEt_f.mpr c]; decide)]
  · rw [if_neg (fun z => c ((ez_le M i b).mp z)), if_pos (zEt_t.mpr c)]
theorem eq_eaters (R : zTw T (M 0)) (I : zI M) (hb : b < 8) : nI (v_X3_eaters T b) = v_X5_eaters M b := by
  unfold v_X3_eaters
  rw [zme_ct, zeb_ct]
  refine congrArg nI (fb_ct_cong (fun p hp => ?_))
  unfold zEt
  rw [eq_eat R I hp hb]
theorem eq_isE (R : zTw T (M 0)) (I : zI M) (hp : p < 150) (hb : b < 8) : v_X3_isEating T p b = zEt M b p := by
  unfold v_X3_isEating zEt
  rw [eq_eat R I hp hb]
  by_cases c : v_X5_eatsNow M p b = 0
  · rw [if_pos c]; simp [c]
  · rw [if_neg c]; simp [c]
end EQ2
