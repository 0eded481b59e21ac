/-! DAYS PASS -/
theorem zmod_lt {t nb : Nat} (h : 0 < nb) : t % nb < nb := Nat.mod_lt t h
section ED
variable {T M N : Nat → Nat → Int32} {b p : Nat}
/-- what a day changes no one's eating -/
theorem zeq_day (hb : b < 8) (o0 : v_X5_isOpen N b = v_X5_isOpen M b) (o4 : v_X5_of N b 4 = v_X5_of M b 4) (h1 : v_X5_isHeld N 503 p b = v_X5_isHeld M 503 p b) (h2 : v_X5_isHeld N 353 p b = v_X5_isHeld M 353 p b) (sa : v_X5_saltOf N b = v_X5_saltOf M b) (ow : ∀ k, k < 100 → v_X5_owns N b k = v_X5_owns M b k) (q : Bool)
    (ha : bt (N 0 (653 + p)) b = (bt (M 0 (653 + p)) b || (q && zEt M b p))) : v_X5_eatsNow N p b = v_X5_eatsNow M p b := by
  have a1 : v_X5_isHeld N 653 p b = bt (N 0 (653 + p)) b := eq_held hb rfl
  have a2 : v_X5_isHeld M 653 p b = bt (M 0 (653 + p)) b := eq_held hb rfl
  by_cases e : v_X5_eatsNow M p b = 0
  · have e2 : v_X5_isHeld N 653 p b = v_X5_isHeld M 653 p b := by rw [a1, a2, ha, zEt_f.mpr e, Bool.and_false, Bool.or_false]
    unfold v_X5_eatsNow
    rw [o0, o4, h1, h2, sa, ow _ (v_X5_bucketBy_lt _ _), e2]
  · have e3 := e
    unfold v_X5_eatsNow at e ⊢
    rw [o0, o4, h1, h2, sa, ow _ (v_X5_bucketBy_lt _ _)]
    by_cases c1 : v_X5_isOpen M b = true
    · rw [if_pos c1] at e ⊢
      rw [if_pos c1]
      by_cases c2 : v_X5_isHeld M 503 p b = true
      · rw [if_pos c2, if_pos c2]
      · rw [if_neg c2] at e ⊢
        rw [if_neg c2]
        by_cases c3 : v_X5_isHeld M 353 p b = true
        · rw [if_pos c3, if_pos c3]
        · rw [if_neg c3] at e ⊢
          rw [if_neg c3]
          by_cases c4 : v_X5_owns M b (v_X5_bucketBy (nI p) (v_X5_saltOf M b)) = true
          · rw [if_pos c4, if_pos c4]
          · rw [if_neg c4] at e ⊢
            rw [if_neg c4]
            by_cases c5 : v_X5_of M b 4 = 1
            · rw [if_pos c5] at e ⊢
              rw [if_pos c5]
              by_cases c6 : v_X5_isHeld M 653 p b = true
              · rw [if_pos c6, if_pos (by rw [a1, ha, ← a2, c6]; rfl)]
              · rw [if_neg c6] at e; exact absurd rfl e
            · rw [if_neg c5] at e; exact absurd rfl e
    · rw [if_neg c1, if_neg c1]
/-- the same but for what a day changes -/
def zSm (M N : Nat → Nat → Int32) : Prop := (∀ j, j ≠ 0 → j < 653 → (∀ b, b < 8 → j ≠ 5 + 6 * b + 5) → N 0 j = M 0 j) ∧ ∀ k, k ≠ 0 → N k = M k
theorem zSm_eats (I : zI M) (h : zSm M N) (hp : p < 150) (hb : b < 8) (q : Bool) (ha : bt (N 0 (653 + p)) b = (bt (M 0 (653 + p)) b || (q && zEt M b p))) : v_X5_eatsNow N p b = v_X5_eatsNow M p b := by
  have of : ∀ k, k < 5 → v_X5_of N b k = v_X5_of M b k := fun k hk => h.1 _ (by omega) (by omega) (fun b' hb' => by omega)
  have ig : v_X5_isOfGroup N b = v_X5_isOfGroup M b := by unfold v_X5_isOfGroup; rw [of 1 (by decide)]
  refine zeq_day hb (by unfold v_X5_isOpen; rw [of 0 (by decide)]) (of 4 (by decide)) (by unfold v_X5_isHeld; rw [h.1 _ (by omega) (by omega) (fun b' hb' => by omega)]) (by unfold v_X5_isHeld; rw [h.1 _ (by omega) (by omega) (fun b' hb' => by omega)]) ?_ (fun k hk => ?_) q ha
  · unfold v_X5_saltOf
    rw [ig, of 1 (by decide), of 2 (by decide)]
    by_cases c : v_X5_isOfGroup M b = true
    · have hg := (znat (zmg c hb (zI_G I))).2
      rw [if_pos c, if_pos c, h.1 _ (by omega) (by omega) (fun b' hb' => by omega)]
    · rw [if_neg c, if_neg c]
  · unfold v_X5_owns
    rw [ig, of 1 (by decide), of 3 (by decide)]
    by_cases c : v_X5_isOfGroup M b = true
    · have hg := (znat (zmg c hb (zI_G I))).2
      rw [if_pos c, if_pos c, h.1 _ (by omega) (by omega) (fun b' hb' => by omega)]
    · rw [if_neg c, if_neg c]
theorem zfb_one {P Q : Nat → Bool} {t n : Nat} (ht : t < n) (hP : P t = false) (h : ∀ k, k < n → Q k = if k = t then true else P k) : fb_ct Q n = fb_ct P n + 1 := by
  have u := fb_ct_upd P true ht
  rw [hP] at u
  simp only [if_true] at u
  rw [fb_ct_cong h]; simpa using u
theorem zkx {nb i : Nat} (hnb : 0 < nb) {p j : Nat} (hj : j < nb) : decide (p * nb + j < i + 1) = (decide (p * nb + j < i) || (decide (p = i / nb) && decide (j = i % nb))) := by
  have e : p * nb + j = i ↔ (p = i / nb ∧ j = i % nb) := by
    constructor
    · intro h
      subst h
      rw [Nat.mul_comm, Nat.mul_add_div hnb, Nat.div_eq_of_lt hj, Nat.mul_add_mod, Nat.mod_eq_of_lt hj]; exact ⟨by omega, rfl⟩
    · rintro ⟨h1, h2⟩
      subst h1; subst h2
      rw [Nat.mul_comm]; exact Nat.div_add_mod i nb
  rw [Bool.eq_iff_iff]
  simp only [Bool.or_eq_true, Bool.and_eq_true, decide_eq_true_eq]
  rw [← e]; omega
/-- the day, up to the i-th pair -/
def zDy (M N : Nat → Nat → Int32) (nb i : Nat) : Prop := zSm M N ∧ N 0 0 = M 0 0 ∧ (∀ p, p < 150 → ∀ j, j < 32 → bt (N 0 (653 + p)) j = (bt (M 0 (653 + p)) j || ((decide (j < nb) && decide (p * nb + j < i)) && zEt M j p))) ∧
  (∀ p, p < 150 → N 0 (803 + p) = M 0 (803 + p) + nI (fb_ct (fun j => zEt M j p && decide (p * nb + j < i)) nb)) ∧
  (∀ b, b < 8 → N 0 (5 + 6 * b + 5) = M 0 (5 + 6 * b + 5) + (if b < nb then nI (fb_ct (fun p => zEt M b p && decide (p * nb + b < i)) 150) else 0)) ∧ (∀ j, 953 ≤ j → N 0 j = M 0 j)
theorem zdy_at (I : zI M) {nb : Nat} (enb : (M 0 1).toNatClampNeg = nb) : ∀ (n i : Nat) (N : Nat → Nat → Int32), 150 * nb - i < n → i ≤ 150 * nb → zDy M N nb i →
    (v_X5_dayPasses_14 n (fb_ct (fun t => zEt M (t % nb) (t / nb)) i) i N).1 = nI (fb_ct (fun t => zEt M (t % nb) (t / nb)) (150 * nb)) ∧ zDy M (v_X5_dayPasses_14 n (fb_ct (fun t => zEt M (t % nb) (t / nb)) i) i N).2 nb (150 * nb)
  | 0, _, _, h, _, _ => absurd h (Nat.not_lt_zero _)
  | n + 1, i, N, h, hi, ⟨d1, d2, d3, d4, d5, d6⟩ => by
    have h8 : nb ≤ 8 := by rw [← enb]; exact znb8 I
    have en : (N 0 1).toNatClampNeg = nb := by rw [d1.1 1 (by omega) (by omega) (fun b hb => by omega)]; exact enb
    rw [v_X5_dayPasses_14, en]
    by_cases c : 150 * nb ≤ i
    · have e : i = 150 * nb := by omega
      subst e
      rw [if_pos c]; exact ⟨rfl, d1, d2, d3, d4, d5, d6⟩
    · have hnb : 0 < nb := by
        rcases Nat.eq_zero_or_pos nb with z | z
        · subst z; omega
        · exact z
      have hp : i / nb < 150 := Nat.div_lt_of_lt_mul (by rw [Nat.mul_comm]; omega)
      have hb : i % nb < nb := zmod_lt hnb
      have dm : i / nb * nb + i % nb = i := by rw [Nat.mul_comm]; exact Nat.div_add_mod i nb
      have kx : ∀ p j, j < nb → decide (p * nb + j < i + 1) = (decide (p * nb + j < i) || (decide (p = i / nb) && decide (j = i % nb))) := fun p j hj => zkx hnb hj
      obtain ⟨P, hP⟩ : ∃ P, P = i / nb := ⟨_, rfl⟩
      obtain ⟨B, hB⟩ : ∃ B, B = i % nb := ⟨_, rfl⟩
      rw [← hP] at hp dm
      rw [← hB] at hb dm
      rw [if_neg c, ← hP, ← hB]
      have ev : v_X5_eatsNow N P B = v_X5_eatsNow M P B := zSm_eats I d1 hp (by omega) _ (d3 P hp B (by omega))
      have ndec : decide (P * nb + B < i) = false := decide_eq_false (by omega)
      have kx2 : ∀ p j, j < nb → ¬ (p = P ∧ j = B) → decide (p * nb + j < i + 1) = decide (p * nb + j < i) := fun p j hj hne => by
        rw [kx p j hj, ← hP, ← hB]
        have : (decide (p = P) && decide (j = B)) = false := by
          rw [Bool.eq_false_iff]; simp only [ne_eq, Bool.and_eq_true, decide_eq_true_eq]; exact hne
        rw [this, Bool.or_false]
      have kx3 : decide (P * nb + B < i + 1) = true := decide_eq_true (by omega)
      have ct : fb_ct (fun t => zEt M (t % nb) (t / nb)) (i + 1) = fb_ct (fun t => zEt M (t % nb) (t / nb)) i + (if zEt M B P then 1 else 0) := by rw [fb_ct_succ, ← hP, ← hB]
      rw [ev]
      by_cases e : v_X5_eatsNow M P B = 0
      · have ef : zEt M B P = false := zEt_f.mpr e
        rw [if_pos ((ez_le M P B).mpr e)]
        rw [ef] at ct
        have ct2 : fb_ct (fun t => zEt M (t % nb) (t / nb)) (i + 1) = fb_ct (fun t => zEt M (t % nb) (t / nb)) i := ct
        rw [← ct2]
        refine zdy_at I enb n (i + 1) N (by omega) (by omega) ⟨d1, d2, fun p hp' j hj => ?_, fun p hp' => ?_, fun b hb' => ?_, d6⟩
        · rw [d3 p hp' j hj]
          by_cases jn : j < nb
          · by_cases q : p = P ∧ j = B
            · rw [q.1, q.2, ef, Bool.and_false, Bool.and_false]
            · rw [kx2 p j jn q]
          · rw [decide_eq_false jn]; rfl
        · rw [d4 p hp']
          refine congrArg (M 0 (803 + p) + ·) (congrArg nI (fb_ct_cong fun j hj => ?_))
          by_cases q : p = P ∧ j = B
          · rw [q.1, q.2, ef]; rfl
          · rw [kx2 p j hj q]
        · rw [d5 b hb']
          by_cases bn : b < nb
          · rw [if_pos bn, if_pos bn]
            refine congrArg (M 0 (5 + 6 * b + 5) + ·) (congrArg nI (fb_ct_cong fun p hp' => ?_))
            by_cases q : p = P ∧ b = B
            · rw [q.1, q.2, ef]; rfl
            · rw [kx2 p b bn q]
          · rw [if_neg bn, if_neg bn]
      · have et : zEt M B P = true := zEt_t.mpr e
        rw [if_neg (fun z => e ((ez_le M P B).mp z))]
        rw [et] at ct
        have ct2 : fb_ct (fun t => zEt M (t % nb) (t / nb)) i + 1 = fb_ct (fun t => zEt M (t % nb) (t / nb)) (i + 1) := ct.symm
        rw [ct2]
        obtain ⟨K, hK⟩ : ∃ K, K = v_X5_put (zU N 0 (upd (upd (N 0) (653 + P) ((N 0 (653 + P)) ||| zp2 B)) (803 + P) (((upd (N 0) (653 + P) ((N 0 (653 + P)) ||| zp2 B)) (803 + P)) + 1))) B 5 ((v_X5_of (zU N 0 (upd (upd (N 0) (653 + P) ((N 0 (653 + P)) ||| zp2 B)) (803 + P) (((upd (N 0) (653 + P) ((N 0 (653 + P)) ||| zp2 B)) (803 + P)) + 1))) B 5) + 1) := ⟨_, rfl⟩
        rw [← hK]
        have kk : ∀ k, k ≠ 0 → K k = N k := fun k hk => by rw [hK]; unfold v_X5_put; rw [zU_n _ _ hk, zU_n _ _ hk]
        have k0 : ∀ j, K 0 j = if j = 5 + 6 * B + 5 then N 0 (5 + 6 * B + 5) + 1 else if j = 803 + P then N 0 (803 + P) + 1 else if j = 653 + P then N 0 (653 + P) ||| zp2 B else N 0 j := fun j => by
          rw [hK]
          unfold v_X5_put v_X5_of
          rw [zU_s, zU_s]
          by_cases j1 : j = 5 + 6 * B + 5
          · rw [j1, zupd_s, if_pos rfl, zupd_n _ _ (by omega), zupd_n _ _ (by omega)]
          · rw [zupd_n _ _ j1, if_neg j1]
            by_cases j2 : j = 803 + P
            · rw [j2, zupd_s, if_pos rfl, zupd_n _ _ (by omega)]
            · rw [zupd_n _ _ j2, if_neg j2]
              by_cases j3 : j = 653 + P
              · rw [j3, zupd_s, if_pos rfl]
              · rw [zupd_n _ _ j3, if_neg j3]
        refine zdy_at I enb n (i + 1) K (by omega) (by omega) ⟨⟨fun j a1 a2 a3 => ?_, fun k hk => (kk k hk).trans (d1.2 k hk)⟩, ?_, fun p hp' j hj => ?_, fun p hp' => ?_, fun b hb' => ?_, fun j hj => ?_⟩
        · rw [k0, if_neg (a3 B (by omega)), if_neg (by omega), if_neg (by omega)]; exact d1.1 j a1 a2 a3
        · rw [k0, if_neg (by omega), if_neg (by omega), if_neg (by omega)]; exact d2
        · rw [k0, if_neg (by omega), if_neg (by omega)]
          by_cases q : p = P
          · subst q
            rw [if_pos rfl, bt_set (by omega) hj, d3 p hp' j hj]
            by_cases jb : j = B
            · subst jb; rw [decide_eq_true rfl, kx3, et, decide_eq_true hb, Bool.or_true]; simp
            · rw [decide_eq_false jb, Bool.or_false]
              by_cases jn : j < nb
              · rw [kx2 p j jn (fun z => jb z.2)]
              · rw [decide_eq_false jn]; rfl
          · rw [if_neg (by omega), d3 p hp' j hj]
            by_cases jn : j < nb
            · rw [kx2 p j jn (fun z => q z.1)]
            · rw [decide_eq_false jn]; rfl
        · rw [k0, if_neg (by omega)]
          by_cases q : p = P
          · subst q
            rw [if_pos rfl, d4 p hp', zfb_one (P := fun j => zEt M j p && decide (p * nb + j < i)) (Q := fun j => zEt M j p && decide (p * nb + j < i + 1)) hb (by rw [ndec, Bool.and_false]) (fun j hj => by
              by_cases jb : j = B
              · subst jb; rw [if_pos rfl, kx3, et]; rfl
              · rw [if_neg jb, kx2 p j hj (fun z => jb z.2)]), nI_succ, Int32.add_assoc]
          · rw [if_neg (by omega), if_neg (by omega), d4 p hp']
            refine congrArg (M 0 (803 + p) + ·) (congrArg nI (fb_ct_cong fun j hj => ?_))
            rw [kx2 p j hj (fun z => q z.1)]
        · rw [k0]
          by_cases q : b = B
          · subst q
            rw [if_pos rfl, d5 b hb', if_pos hb, if_pos hb, zfb_one (P := fun p => zEt M b p && decide (p * nb + b < i)) (Q := fun p => zEt M b p && decide (p * nb + b < i + 1)) hp (by rw [ndec, Bool.and_false]) (fun p hp' => by
              by_cases jb : p = P
              · subst jb; rw [if_pos rfl, kx3, et]; rfl
              · rw [if_neg jb, kx2 p b hb (fun z => jb z.1)]), nI_succ, Int32.add_assoc]
          · rw [if_neg (by omega), if_neg (by omega), if_neg (by omega), d5 b hb']
            by_cases bn : b < nb
            · rw [if_pos bn, if_pos bn]
              refine congrArg (M 0 (5 + 6 * b + 5) + ·) (congrArg nI (fb_ct_cong fun p hp' => ?_))
              rw [kx2 p b bn (fun z => q z.2)]
            · rw [if_neg bn, if_neg bn]
        · rw [k0, if_neg (by omega), if_neg (by omega), if_neg (by omega)]; exact d6 j hj
end ED
