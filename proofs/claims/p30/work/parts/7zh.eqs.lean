/-! DAYS: closed forms, letPass, pass -/
section EF
variable {T M N : Nat → Nat → Int32} {b p : Nat}
theorem zbo' (I : zI M) {j : Nat} (hj : j < 32) : bt (v_X5_breadsOf M p) j = (decide (j < (M 0 1).toNatClampNeg) && zEt M j p) := by
  have h8 := znb8 I
  unfold v_X5_breadsOf
  rw [zlO (v_X5_breadsOf_4 M p) (fun i => zEt M i p) (M 0 1).toNatClampNeg (by omega) (fun n m => ?_) (fun n m i h => ?_) 9 0 0 (by omega) (by omega) j hj, b_0, Bool.false_or]
  · rw [decide_eq_true (Nat.zero_le j), Bool.true_and, Bool.and_comm]
  · rw [v_X5_breadsOf_4, if_pos ((znbi I _ (by omega)).mpr (Nat.le_refl _))]
  · rw [v_X5_breadsOf_4, if_neg (fun z => by have := (znbi I i (by omega)).mp z; omega)]
    by_cases c : v_X5_eatsNow M p i = 0
    · rw [if_pos ((ez_le M p i).mpr c), zor0, zEt_f.mpr c]; rfl
    · rw [if_neg (fun z => c ((ez_le M p i).mp z)), zEt_t.mpr c]; rfl
theorem zon_n (I : zI M) : v_X5_ones (v_X5_breadsOf M p) = nI (fb_ct (fun j => zEt M j p) (M 0 1).toNatClampNeg) := by
  have h8 := znb8 I
  have e : zsu (fun i => bI (bt (v_X5_breadsOf M p) i)) 8 0 = zsu (zind (fun j => decide (j < (M 0 1).toNatClampNeg) && zEt M j p)) 8 0 := zsu_cong 8 0 (fun j _ hj => by
    rw [zbo' I (by omega)]
    cases h : (decide (j < (M 0 1).toNatClampNeg) && zEt M j p)
    · rw [zind_f h]; rfl
    · rw [zind_t h]; rfl)
  rw [zones, e, zsu_n]
  obtain ⟨d, hd⟩ : ∃ d, 8 = (M 0 1).toNatClampNeg + d := ⟨8 - (M 0 1).toNatClampNeg, by omega⟩
  rw [hd, fb_ct_split, fb_ct_zero.mpr (fun k hk => by dsimp only; rw [decide_eq_false (by omega)]; rfl : ∀ k, k < d → (fun k => (fun j => decide (j < (M 0 1).toNatClampNeg) && zEt M j p) ((M 0 1).toNatClampNeg + k)) k = false), Nat.add_zero]
  exact congrArg nI (fb_ct_cong fun j hj => by rw [decide_eq_true hj, Bool.true_and])
theorem zsu_rows (nb : Nat) (P : Nat → Nat → Bool) : ∀ k i : Nat, nI (fb_ct (fun t => P (t % nb) (t / nb)) (i * nb)) + zsu (fun p => nI (fb_ct (fun j => P j p) nb)) k i = nI (fb_ct (fun t => P (t % nb) (t / nb)) ((i + k) * nb))
  | 0, i => by show _ + 0 = _; rw [Int32.add_zero]; rfl
  | k + 1, i => by
    show _ + (nI (fb_ct (fun j => P j i) nb) + zsu _ k (i + 1)) = _
    have e : fb_ct (fun t => P (t % nb) (t / nb)) ((i + 1) * nb) = fb_ct (fun t => P (t % nb) (t / nb)) (i * nb) + fb_ct (fun j => P j i) nb := by
      rw [Nat.succ_mul, fb_ct_split]
      refine congrArg _ (fb_ct_cong fun j hj => ?_)
      have hnb : 0 < nb := by omega
      rw [Nat.mul_comm i nb, Nat.mul_add_mod, Nat.mod_eq_of_lt hj, Nat.mul_add_div hnb, Nat.div_eq_of_lt hj, Nat.add_zero]
    rw [← Int32.add_assoc, ← nI_addN, ← e, zsu_rows nb P k (i + 1), show i + 1 + k = i + (k + 1) by omega]
/-- one day -/
theorem zdy1 (I : zI M) (cl : ∀ b, b < 8 → (M 0 1).toNatClampNeg ≤ b → ∀ p, p < 150 → zEt M b p = false) : (v_X5_dayPasses M).1 = zsu (fun p => v_X5_ones (v_X5_breadsOf M p)) 150 0 ∧ zSm M (v_X5_dayPasses M).2 ∧ (v_X5_dayPasses M).2 0 0 = M 0 0 + 1 ∧ (∀ p, p < 150 → (v_X5_dayPasses M).2 0 (653 + p) = M 0 (653 + p) ||| v_X5_breadsOf M p) ∧
    (∀ p, p < 150 → (v_X5_dayPasses M).2 0 (803 + p) = M 0 (803 + p) + v_X5_ones (v_X5_breadsOf M p)) ∧ (∀ b, b < 8 → (v_X5_dayPasses M).2 0 (5 + 6 * b + 5) = M 0 (5 + 6 * b + 5) + v_X5_eaters M b) ∧ (∀ j, 953 ≤ j → (v_X5_dayPasses M).2 0 j = M 0 j) := by
  obtain ⟨B0, hB⟩ : ∃ B0, B0 = zU M 0 (upd (M 0) 0 ((M 0 0) + 1)) := ⟨_, rfl⟩
  have b0 : ∀ j, j ≠ 0 → B0 0 j = M 0 j := fun j hj => by rw [hB, zU_s, zupd_n _ _ hj]
  have b00 : B0 0 0 = M 0 0 + 1 := by rw [hB, zU_s, zupd_s]
  have bk : ∀ k, k ≠ 0 → B0 k = M k := fun k hk => by rw [hB, zU_n _ _ hk]
  have IB : zI B0 := by rw [hB]; exact zI_day I
  have ev : ∀ p b, p < 150 → b < 8 → zEt B0 b p = zEt M b p := fun p b hp hb => by
    unfold zEt
    rw [zSm_eats (N := B0) I ⟨fun j h1 _ _ => b0 j h1, bk⟩ hp hb false (by rw [b0 _ (by omega), Bool.false_and, Bool.or_false])]
  have h8 := znb8 I
  have enb : (B0 0 1).toNatClampNeg = (M 0 1).toNatClampNeg := by rw [b0 1 (by decide)]
  obtain ⟨nb, hnb⟩ : ∃ nb, nb = (M 0 1).toNatClampNeg := ⟨_, rfl⟩
  rw [← hnb] at enb h8 cl
  have z0 : ∀ (P : Nat → Bool) (F : Nat → Nat) n, nI (fb_ct (fun j => P j && decide (F j < 0)) n) = 0 := fun P F n => by
    rw [fb_ct_zero.mpr (fun k hk => by rw [decide_eq_false (Nat.not_lt_zero _), Bool.and_false])]; rfl
  have st : zDy B0 B0 nb 0 := by
    refine ⟨⟨fun _ _ _ _ => rfl, fun _ _ => rfl⟩, rfl, fun p hp j hj => ?_, fun p hp => ?_, fun b hb => ?_, fun _ _ => rfl⟩
    · rw [decide_eq_false (Nat.not_lt_zero _), Bool.and_false, Bool.false_and, Bool.or_false]
    · rw [z0 (fun j => zEt B0 j p) (fun j => p * nb + j), Int32.add_zero]
    · by_cases q : b < nb
      · rw [if_pos q, z0 (fun p => zEt B0 b p) (fun p => p * nb + b), Int32.add_zero]
      · rw [if_neg q, Int32.add_zero]
  obtain ⟨r1, s1, s2, s3, s4, s5, s6⟩ := zdy_at IB enb 1201 0 B0 (by omega) (Nat.zero_le _) st
  have ed : v_X5_dayPasses M = v_X5_dayPasses_14 1201 (fb_ct (fun t => zEt B0 (t % nb) (t / nb)) 0) 0 B0 := by
    have z : fb_ct (fun t => zEt B0 (t % nb) (t / nb)) 0 = 0 := rfl
    rw [z]; unfold v_X5_dayPasses; rw [← hB]
  rw [ed]
  have lt : ∀ p j, p < 150 → j < nb → p * nb + j < 150 * nb := fun p j hp hj => by
    have m := Nat.mul_le_mul_right nb (show p + 1 ≤ 150 from hp)
    rw [Nat.succ_mul] at m; omega
  refine ⟨?_, ⟨fun j h1 h2 h3 => (s1.1 j h1 h2 h3).trans (b0 j h1), fun k hk => (s1.2 k hk).trans (bk k hk)⟩, s2.trans b00, fun p hp => b_ext fun j hj => ?_, fun p hp => ?_, fun b hb => ?_, fun j hj => (s6 j hj).trans (b0 j (by omega))⟩
  · rw [r1]
    have e := zsu_rows nb (fun j p => zEt B0 j p) 150 0
    rw [Nat.zero_mul, show fb_ct (fun t => zEt B0 (t % nb) (t / nb)) 0 = 0 from rfl, show nI 0 = (0 : Int32) from rfl, Int32.zero_add, Nat.zero_add] at e
    rw [← e]
    refine zsu_cong 150 0 (fun p _ hp => ?_)
    rw [zon_n I, ← hnb]
    exact congrArg nI (fb_ct_cong fun j hj => ev p j (by omega) (by omega))
  · rw [s3 p hp j hj, b0 _ (by omega), b_or, zbo' I hj, ← hnb]
    by_cases q : j < nb
    · rw [decide_eq_true (lt p j hp q), ev p j hp (by omega), Bool.and_true]
    · rw [decide_eq_false q, Bool.false_and, Bool.false_and, Bool.false_and]
  · rw [s4 p hp, b0 _ (by omega), zon_n I, ← hnb]
    refine congrArg (M 0 (803 + p) + ·) (congrArg nI (fb_ct_cong fun j hj => ?_))
    rw [decide_eq_true (lt p j hp hj), Bool.and_true, ev p j hp (by omega)]
  · rw [s5 b hb, b0 _ (by omega), zme_ct]
    by_cases q : b < nb
    · rw [if_pos q]
      refine congrArg (M 0 (5 + 6 * b + 5) + ·) (congrArg nI (fb_ct_cong fun p hp => ?_))
      rw [decide_eq_true (lt p b hp q), Bool.and_true, ev p b hp hb]
    · rw [if_neg q, fb_ct_zero.mpr (fun p hp => cl b hb (by omega) p hp)]; rfl
/-- after j days -/
def zDj (M N : Nat → Nat → Int32) (j : Nat) : Prop := zI N ∧ zSm M N ∧ N 0 0 = M 0 0 + nI j ∧ (∀ p, p < 150 → N 0 (653 + p) = if j = 0 then M 0 (653 + p) else M 0 (653 + p) ||| v_X5_breadsOf M p) ∧
  (∀ p, p < 150 → N 0 (803 + p) = M 0 (803 + p) + nI j * v_X5_ones (v_X5_breadsOf M p)) ∧ (∀ b, b < 8 → N 0 (5 + 6 * b + 5) = M 0 (5 + 6 * b + 5) + nI j * v_X5_eaters M b) ∧ (∀ k, 953 ≤ k → N 0 k = M 0 k)
theorem zmul1 (j : Nat) (c : Int32) : nI (j + 1) * c = nI j * c + c := by rw [nI_succ, Int32.add_mul, Int32.one_mul]
theorem zdj_at (I : zI M) (cl : ∀ b, b < 8 → (M 0 1).toNatClampNeg ≤ b → ∀ p, p < 150 → zEt M b p = false) (days : Nat) : ∀ (n j : Nat) (N : Nat → Nat → Int32), days - j < n → j ≤ days → zDj M N j → (v_X5_passes_4 days n (nI j * zsu (fun p => v_X5_ones (v_X5_breadsOf M p)) 150 0) j N).1 = nI days * zsu (fun p => v_X5_ones (v_X5_breadsOf M p)) 150 0 ∧ zDj M (v_X5_passes_4 days n (nI j * zsu (fun p => v_X5_ones (v_X5_breadsOf M p)) 150 0) j N).2 days
  | 0, _, _, h, _, _ => absurd h (Nat.not_lt_zero _)
  | n + 1, j, N, h, hj, ⟨I', d1, d2, d3, d4, d5, d6⟩ => by
    rw [v_X5_passes_4]
    by_cases c : days ≤ j
    · have e : j = days := by omega
      subst e
      rw [if_pos c]; exact ⟨rfl, I', d1, d2, d3, d4, d5, d6⟩
    · rw [if_neg c]
      have e1 : N 0 1 = M 0 1 := d1.1 1 (by omega) (by omega) (fun b hb => by omega)
      have h8 := znb8 I
      have ev : ∀ p b, p < 150 → b < 8 → zEt N b p = zEt M b p := fun p b hp hb => by
        unfold zEt
        rw [zSm_eats I d1 hp hb (decide (j ≠ 0) && decide (b < (M 0 1).toNatClampNeg)) (by
          rw [d3 p hp]
          by_cases q : j = 0
          · rw [if_pos q, decide_eq_false (fun z => z q), Bool.false_and, Bool.false_and, Bool.or_false]
          · rw [if_neg q, b_or, zbo' I (by omega), decide_eq_true q, Bool.true_and])]
      have eb : ∀ p, p < 150 → v_X5_breadsOf N p = v_X5_breadsOf M p := fun p hp => b_ext fun i hi => by
        rw [zbo' I' hi, zbo' I hi, e1]
        by_cases q : i < (M 0 1).toNatClampNeg
        · rw [ev p i hp (by omega)]
        · rw [decide_eq_false q, Bool.false_and, Bool.false_and]
      have ee : ∀ b, b < 8 → v_X5_eaters N b = v_X5_eaters M b := fun b hb => by
        rw [zme_ct, zme_ct]; exact congrArg nI (fb_ct_cong fun p hp => ev p b hp hb)
      have cl' : ∀ b, b < 8 → (N 0 1).toNatClampNeg ≤ b → ∀ p, p < 150 → zEt N b p = false := fun b hb hn p hp => by
        rw [ev p b hp hb]; exact cl b hb (by rw [← e1]; exact hn) p hp
      obtain ⟨r1, s1, s2, s3, s4, s5, s6⟩ := zdy1 I' cl'
      have I2 := zdp_I I'
      have et : zsu (fun p => v_X5_ones (v_X5_breadsOf N p)) 150 0 = zsu (fun p => v_X5_ones (v_X5_breadsOf M p)) 150 0 := zsu_cong 150 0 (fun p _ hp => by rw [eb p (by omega)])
      rw [r1, et, ← zmul1]
      refine zdj_at I cl days n (j + 1) _ (by omega) (by omega) ⟨I2, ⟨fun k h1 h2 h3 => (s1.1 k h1 h2 h3).trans (d1.1 k h1 h2 h3), fun k hk => (s1.2 k hk).trans (d1.2 k hk)⟩, by rw [s2, d2, nI_succ, Int32.add_assoc], fun p hp => ?_, fun p hp => by rw [s4 p hp, d4 p hp, eb p hp, zmul1, Int32.add_assoc], fun b hb => by rw [s5 b hb, d5 b hb, ee b hb, zmul1, Int32.add_assoc], fun k hk => (s6 k hk).trans (d6 k hk)⟩
      rw [s3 p hp, d3 p hp, eb p hp, if_neg (show ¬ j + 1 = 0 by omega)]
      by_cases q : j = 0
      · rw [if_pos q]
      · rw [if_neg q]
        refine b_ext fun i hi => ?_
        rw [b_or, b_or]
        cases bt (M 0 (653 + p)) i <;> cases bt (v_X5_breadsOf M p) i <;> rfl
theorem zdj_0 (I : zI M) : zDj M M 0 := ⟨I, ⟨fun _ _ _ _ => rfl, fun _ _ => rfl⟩, by rw [show nI 0 = (0 : Int32) from rfl, Int32.add_zero], fun p hp => by rw [if_pos rfl], fun p hp => by rw [show nI 0 = (0 : Int32) from rfl, Int32.zero_mul, Int32.add_zero], fun b hb => by rw [show nI 0 = (0 : Int32) from rfl, Int32.zero_mul, Int32.add_zero], fun _ _ => rfl⟩
theorem zdays (I : zI M) (cl : ∀ b, b < 8 → (M 0 1).toNatClampNeg ≤ b → ∀ p, p < 150 → zEt M b p = false) {days : Nat} (hd : days ≤ 50) : (v_X5_passes M days).1 = nI days * zsu (fun p => v_X5_ones (v_X5_breadsOf M p)) 150 0 ∧ zDj M (v_X5_passes M days).2 days := by
  have h := zdj_at I cl days 51 0 M (by omega) (Nat.zero_le _) (zdj_0 I)
  have e : nI 0 * zsu (fun p => v_X5_ones (v_X5_breadsOf M p)) 150 0 = 0 := by rw [show nI 0 = (0 : Int32) from rfl, Int32.zero_mul]
  rw [e] at h
  exact h
/-- the class: letPass -/
theorem zbe (T : Nat → Nat → Int32) (p : Nat) {j : Nat} (hj : j < 32) : bt (v_X3_breadsEatenBy T p) j = (decide (j < 8) && !decide (v_X3_reasonBy T p j (v_X3_saltOf T j) = 0)) := by
  unfold v_X3_breadsEatenBy
  rw [zlO (v_X3_breadsEatenBy_4 T p) (fun i => !decide (v_X3_reasonBy T p i (v_X3_saltOf T i) = 0)) 8 (by decide) (fun n m => by rw [v_X3_breadsEatenBy_4, if_pos (Nat.le_refl 8)]) (fun n m i h => ?_) 9 0 0 (by decide) (by decide) j hj, b_0, Bool.false_or, decide_eq_true (Nat.zero_le j), Bool.true_and, Bool.and_comm]
  rw [v_X3_breadsEatenBy_4, if_neg (by omega)]
  by_cases c : v_X3_reasonBy T p i (v_X3_saltOf T i) = 0
  · rw [if_pos c]; simp [c]
  · rw [if_neg c]; simp [c]
theorem zbe_c {S : Nat → Nat → Int32} (h : ∀ f, f ≠ 1 → f ≠ 2 → f ≠ 8 → f ≠ 13 → f ≠ 14 → S f = T f) (h13 : S 13 p = T 13 p) : v_X3_breadsEatenBy S p = v_X3_breadsEatenBy T p := b_ext fun j hj => by
  rw [zbe S p hj, zbe T p hj]
  have e : v_X3_reasonBy S p j (v_X3_saltOf S j) = v_X3_reasonBy T p j (v_X3_saltOf T j) := by
    unfold v_X3_reasonBy v_X3_owns v_X3_saltOf
    rw [h 3 (by decide) (by decide) (by decide) (by decide) (by decide), h 4 (by decide) (by decide) (by decide) (by decide) (by decide), h 5 (by decide) (by decide) (by decide) (by decide) (by decide), h 6 (by decide) (by decide) (by decide) (by decide) (by decide), h 7 (by decide) (by decide) (by decide) (by decide) (by decide), h 9 (by decide) (by decide) (by decide) (by decide) (by decide), h 10 (by decide) (by decide) (by decide) (by decide) (by decide), h 11 (by decide) (by decide) (by decide) (by decide) (by decide), h 12 (by decide) (by decide) (by decide) (by decide) (by decide), h13]
  rw [e]
theorem zlp18 (days : Int32) (pe : Nat) (S : Nat → Nat → Int32) : ∀ (n i : Nat) (K : Nat → Nat → Int32), 8 - i < n → i ≤ 8 → (∀ f, f ≠ 8 → (v_X3_letPass_18 days pe S n i K).2 f = K f) ∧ ∀ b, b < 8 → (v_X3_letPass_18 days pe S n i K).2 8 b = K 8 b + (if (decide (i ≤ b) && bt (v_X3_breadsEatenBy S pe) b) = true then days else 0)
  | 0, _, _, h, _ => absurd h (Nat.not_lt_zero _)
  | n + 1, i, K, h, hi => by
    rw [v_X3_letPass_18]
    by_cases c : 8 ≤ i
    · rw [if_pos c]
      exact ⟨fun _ _ => rfl, fun b hb => by rw [decide_eq_false (show ¬ i ≤ b by omega), Bool.false_and, if_neg (by decide), Int32.add_zero]⟩
    · rw [if_neg c, zsh1 (by omega)]
      cases e : bt (v_X3_breadsEatenBy S pe) i
      · rw [if_pos (show bI false = 0 by decide)]
        obtain ⟨r1, r2⟩ := zlp18 days pe S n (i + 1) K (by omega) (by omega)
        refine ⟨r1, fun b hb => ?_⟩
        rw [r2 b hb]
        by_cases q : b = i
        · subst q; rw [e, Bool.and_false, Bool.and_false]
        · by_cases l : i ≤ b
          · rw [decide_eq_true l, decide_eq_true (show i + 1 ≤ b by omega)]
          · rw [decide_eq_false l, decide_eq_false (show ¬ i + 1 ≤ b by omega)]
      · rw [if_neg (show ¬ bI true = 0 by decide)]
        obtain ⟨r1, r2⟩ := zlp18 days pe S n (i + 1) (zU K 8 (upd (K 8) i ((K 8 i) + days))) (by omega) (by omega)
        refine ⟨fun f hf => by rw [r1 f hf, zU_n _ _ hf], fun b hb => ?_⟩
        rw [r2 b hb, zU_s]
        by_cases q : b = i
        · subst q; rw [e, Bool.and_true, Bool.and_true, decide_eq_true (Nat.le_refl b), decide_eq_false (show ¬ b + 1 ≤ b by omega), zupd_s, if_neg (by decide), if_pos rfl, Int32.add_zero]
        · rw [zupd_n _ _ q]
          by_cases l : i ≤ b
          · rw [decide_eq_true l, decide_eq_true (show i + 1 ≤ b by omega)]
          · rw [decide_eq_false l, decide_eq_false (show ¬ i + 1 ≤ b by omega)]
/-- a sum up to pe, from the front -/
theorem zsu_last (g : Nat → Int32) : ∀ k i : Nat, zsu g (k + 1) i = zsu g k i + g (i + k)
  | 0, i => by show g i + 0 = 0 + g (i + 0); rw [Int32.add_zero, Int32.zero_add]; rfl
  | k + 1, i => by
    show g i + zsu g (k + 1) (i + 1) = g i + zsu g k (i + 1) + g (i + (k + 1))
    rw [zsu_last g k (i + 1), Int32.add_assoc, show i + 1 + k = i + (k + 1) by omega]
def zLp (T S : Nat → Nat → Int32) (days : Int32) (pe : Nat) : Prop := (∀ f, f ≠ 2 → f ≠ 8 → f ≠ 13 → f ≠ 14 → S f = T f) ∧ S 2 0 = T 2 0 + zsu (fun p => days * v_J6_bitCount_0f7a4 (v_X3_breadsEatenBy T p)) pe 0 ∧
  (∀ p, S 13 p = if p < pe then T 13 p ||| v_X3_breadsEatenBy T p else T 13 p) ∧ (∀ p, S 14 p = if p < pe then T 14 p + days * v_J6_bitCount_0f7a4 (v_X3_breadsEatenBy T p) else T 14 p) ∧
  (∀ b, b < 8 → S 8 b = T 8 b + zsu (fun p => if bt (v_X3_breadsEatenBy T p) b = true then days else 0) pe 0)
theorem zlp_at (days : Int32) : ∀ (n pe : Nat) (S : Nat → Nat → Int32), 150 - pe < n → pe ≤ 150 → zLp T S days pe → ∃ S', zLp T S' days 150 ∧ v_X3_letPass_2 days n pe S = zU S' 1 (fun _ => (T 1 0 + days))
  | 0, _, _, h, _, _ => absurd h (Nat.not_lt_zero _)
  | n + 1, pe, S, h, hi, ⟨d1, d2, d3, d4, d5⟩ => by
    rw [v_X3_letPass_2]
    by_cases c : 150 ≤ pe
    · have e : pe = 150 := by omega
      subst e
      rw [if_pos c]
      exact ⟨S, ⟨d1, d2, d3, d4, d5⟩, by rw [d1 1 (by decide) (by decide) (by decide) (by decide)]⟩
    · rw [if_neg c]
      have eb : v_X3_breadsEatenBy S pe = v_X3_breadsEatenBy T pe := zbe_c (fun f h1 h2 h3 h4 h5 => d1 f h2 h3 h4 h5) (by rw [d3, if_neg (by omega)])
      obtain ⟨r1, r2⟩ := zlp18 days pe S 9 0 S (by decide) (by decide)
      rw [eb] at r2 ⊢
      generalize (v_X3_letPass_18 days pe S 9 0 S).2 = K at *
      refine zlp_at days n (pe + 1) _ (by omega) (by omega) ⟨fun f h2 h8 h13 h14 => ?_, ?_, fun p => ?_, fun p => ?_, fun b hb => ?_⟩
      · rw [zU_n _ _ h2, zU_n _ _ h14, zU_n _ _ h13, r1 f h8]; exact d1 f h2 h8 h13 h14
      · rw [zU_s, r1 2 (by decide), d2, zsu_last, Nat.zero_add, Int32.add_assoc]
      · rw [zU_n _ _ (by decide), zU_n _ _ (by decide), zU_s, r1 13 (by decide)]
        by_cases q : p = pe
        · subst q; rw [zupd_s, d3, if_neg (by omega), if_pos (by omega)]
        · rw [zupd_n _ _ q, d3]
          by_cases l : p < pe
          · rw [if_pos l, if_pos (by omega)]
          · rw [if_neg l, if_neg (by omega)]
      · rw [zU_n _ _ (by decide), zU_s, r1 14 (by decide)]
        by_cases q : p = pe
        · subst q; rw [zupd_s, d4, if_neg (by omega), if_pos (by omega)]
        · rw [zupd_n _ _ q, d4]
          by_cases l : p < pe
          · rw [if_pos l, if_pos (by omega)]
          · rw [if_neg l, if_neg (by omega)]
      · rw [zU_n _ _ (by decide), zU_n _ _ (by decide), zU_n _ _ (by decide), r2 b hb, d5 b hb, zsu_last, Nat.zero_add, decide_eq_true (Nat.zero_le b), Bool.true_and, Int32.add_assoc]
theorem zsu_mul (c : Int32) (g : Nat → Int32) : ∀ k i : Nat, zsu (fun p => c * g p) k i = c * zsu g k i
  | 0, _ => by show (0 : Int32) = c * 0; rw [Int32.mul_zero]
  | k + 1, i => by show c * g i + zsu (fun p => c * g p) k (i + 1) = c * (g i + zsu g k (i + 1)); rw [zsu_mul c g k (i + 1), Int32.mul_add]
theorem zsu_add (f g : Nat → Int32) : ∀ k i : Nat, zsu (fun p => f p + g p) k i = zsu f k i + zsu g k i
  | 0, _ => by show (0 : Int32) = 0 + 0; rw [Int32.add_zero]
  | k + 1, i => by
    show f i + g i + zsu (fun p => f p + g p) k (i + 1) = f i + zsu f k (i + 1) + (g i + zsu g k (i + 1))
    rw [zsu_add f g k (i + 1), Int32.add_assoc, Int32.add_assoc, ← Int32.add_assoc (g i), Int32.add_comm (g i), Int32.add_assoc (zsu f k (i + 1))]
theorem zcl (R : zTw T (M 0)) : ∀ b, b < 8 → (M 0 1).toNatClampNeg ≤ b → ∀ p, p < 150 → zEt M b p = false := fun b hb hn p _ => zEt_f.mpr (zclosed R hn hb)
theorem eq_pass (R : zTw T (M 0)) (I : zI M) {days : Nat} (hd : days ≤ 50) (h0 : 0 < days) : zTw (v_X3_letPass T (nI days)) ((v_X5_passes M days).2 0) ∧ v_X3_letPass T (nI days) 2 0 - T 2 0 = (v_X5_passes M days).1 := by
  obtain ⟨r1, I2, s1, s2, s3, s4, s5, s6⟩ := zdays I (zcl R) hd
  have st : zLp T T (nI days) 0 := ⟨fun _ _ _ _ _ => rfl, by show T 2 0 = T 2 0 + 0; rw [Int32.add_zero], fun p => by rw [if_neg (Nat.not_lt_zero _)], fun p => by rw [if_neg (Nat.not_lt_zero _)], fun b hb => by show T 8 b = T 8 b + 0; rw [Int32.add_zero]⟩
  obtain ⟨S, ⟨d1, d2, d3, d4, d5⟩, eS⟩ := zlp_at (nI days) 151 0 T (by decide) (by decide) st
  have eb : ∀ p, p < 150 → v_X3_breadsEatenBy T p = v_X5_breadsOf M p := fun p hp => eq_breads R I hp
  have ebc : ∀ p, p < 150 → v_J6_bitCount_0f7a4 (v_X3_breadsEatenBy T p) = v_X5_ones (v_X5_breadsOf M p) := fun p hp => by rw [eb p hp, zbc (zbo8 R I)]
  have etot : zsu (fun p => nI days * v_J6_bitCount_0f7a4 (v_X3_breadsEatenBy T p)) 150 0 = nI days * zsu (fun p => v_X5_ones (v_X5_breadsOf M p)) 150 0 := by
    rw [zsu_mul]; exact congrArg (nI days * ·) (zsu_cong 150 0 (fun p _ hp => ebc p (by omega)))
  obtain ⟨⟨a1, a2, a3⟩, B, C, D, E, F, G⟩ := R
  have R : zTw T (M 0) := ⟨⟨a1, a2, a3⟩, B, C, D, E, F, G⟩
  unfold v_X3_letPass
  rw [eS]
  have same : ∀ j, j ≠ 0 → j < 653 → (∀ b, b < 8 → j ≠ 5 + 6 * b + 5) → (v_X5_passes M days).2 0 j = M 0 j := s1.1
  have t : ∀ f, f ≠ 1 → f ≠ 2 → f ≠ 8 → f ≠ 13 → f ≠ 14 → zU S 1 (fun _ => (T 1 0 + nI days)) f = T f := fun f h1 h2 h8 h13 h14 => by rw [zU_n _ _ h1]; exact d1 f h2 h8 h13 h14
  constructor
  · refine ⟨⟨?_, ?_, ?_⟩, fun g hg => ?_, fun k hk => ?_, fun p hp => ?_, fun b hb => ?_, ?_, fun b hb h => ?_⟩
    · rw [t 0 (by decide) (by decide) (by decide) (by decide) (by decide), same 1 (by omega) (by omega) (fun b hb => by omega)]; exact a1
    · rw [zU_s, s2, a2]
    · rw [zU_n _ _ (by decide), d2, etot, a3, zsu_cong (h := fun p => M 0 (803 + p) + nI days * v_X5_ones (v_X5_breadsOf M p)) 150 0 (fun p _ hp => s4 p (by omega)), zsu_add (fun p => M 0 (803 + p)) (fun p => nI days * v_X5_ones (v_X5_breadsOf M p)), zsu_mul]
    · rw [t 9 (by decide) (by decide) (by decide) (by decide) (by decide), same _ (by omega) (by omega) (fun b hb => by omega)]; exact B g hg
    · rw [t 10 (by decide) (by decide) (by decide) (by decide) (by decide), same _ (by omega) (by omega) (fun b hb => by omega)]; exact C k hk
    · obtain ⟨⟨e1, e2, e3, e4⟩, m1, m2, m3⟩ := D p hp
      rw [t 11 (by decide) (by decide) (by decide) (by decide) (by decide), t 12 (by decide) (by decide) (by decide) (by decide) (by decide), zU_n _ _ (by decide), zU_n _ _ (by decide), d3, d4, if_pos hp, if_pos hp, ebc p hp, eb p hp, s3 p hp, s4 p hp, if_neg (by omega), same (353 + p) (by omega) (by omega) (fun b hb => by omega), same (503 + p) (by omega) (by omega) (fun b hb => by omega), ← e3, ← e4]
      refine ⟨⟨e1, e2, rfl, rfl⟩, m1, m2, fun i h8 hi => ?_⟩
      rw [b_or, m3 i h8 hi, zbo8 R I i h8 hi]; rfl
    · obtain ⟨e1, e2, e3, e4, e5, e6⟩ := E b hb
      rw [t 5 (by decide) (by decide) (by decide) (by decide) (by decide), t 6 (by decide) (by decide) (by decide) (by decide) (by decide), t 7 (by decide) (by decide) (by decide) (by decide) (by decide), t 3 (by decide) (by decide) (by decide) (by decide) (by decide), t 4 (by decide) (by decide) (by decide) (by decide) (by decide), zU_n _ _ (by decide), d5 b hb, s5 b hb, same (5 + 6 * b + 1) (by omega) (by omega) (fun b hb => by omega), same (5 + 6 * b + 2) (by omega) (by omega) (fun b hb => by omega), same (5 + 6 * b + 3) (by omega) (by omega) (fun b hb => by omega), same (5 + 6 * b + 0) (by omega) (by omega) (fun b hb => by omega), same (5 + 6 * b + 4) (by omega) (by omega) (fun b hb => by omega), ← e4]
      refine ⟨e1, e2, e3, ?_, e5, e6⟩
      refine congrArg (T 8 b + ·) ?_
      rw [zme_ct, ← zsu_n, ← zsu_mul]
      refine zsu_cong 150 0 (fun p _ hp => ?_)
      rw [eb p (by omega), zbo R I (by omega), decide_eq_true hb, Bool.true_and]
      cases h : zEt M b p
      · rw [if_neg (by decide), zind_f h, Int32.mul_zero]
      · rw [if_pos rfl, zind_t h, Int32.mul_one]
    · rw [t 3 (by decide) (by decide) (by decide) (by decide) (by decide)]; exact F
    · rw [t 3 (by decide) (by decide) (by decide) (by decide) (by decide)]
      exact G b hb (by rw [same 1 (by omega) (by omega) (fun b hb => by omega)] at h; exact h)
  · rw [zU_n _ _ (by decide), d2, etot, r1, Int32.add_comm, Int32.add_sub_cancel]
end EF
