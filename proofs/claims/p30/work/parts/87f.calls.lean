/-! days pass -/
def zts (g : Nat → Nat) : Nat → Nat
  | 0 => 0
  | n + 1 => zts g n + g n
def zEv (I : Nat → Nat → Int32) (Q : Nat → Nat → Int64) (p b : Nat) (h3 : Bool) : Int32 :=
  if I 1 (6 * b) = 0 then 0 else if zLb Q 2 3 b p = true then 0 else if zLb Q 1 3 b p = true then 1 else if zLb Q 0 2 b (v_L_bucket p (if 0 ≤ I 1 (6 * b + 1) then I 0 (4 + (I 1 (6 * b + 1)).toNatClampNeg) else I 1 (6 * b + 2))) = true then 3 else if I 1 (6 * b + 4) = 1 then (if h3 = true then 2 else 0) else 0
def zDs (M I : Nat → Nat → Int32) (Q : Nat → Nat → Int64) (I1 : Nat → Nat → Int32) (Q1 : Nat → Nat → Int64) (A : Nat → Nat → Bool) (c : Nat → Nat) : Prop :=
  I1 0 = I 0 ∧ (∀ j, (∀ b, b < 5 → j ≠ 6 * b + 5) → I1 1 j = I 1 j) ∧ (∀ b, b < 5 → I1 1 (6 * b + 5) = I 1 (6 * b + 5) + nI (c b)) ∧ (∀ t, t ≠ 3 → Q1 t = Q t) ∧
  (∀ b p, p < 150 → zLb Q1 3 3 b p = (zLb Q 3 3 b p || A b p)) ∧ ∀ b p, A b p = true → b < zNb I ∧ (p < 150 → zEt M b p = true)
section PP
variable {Z T0 T1 T2 T3 T4 T5 T M I I1 : Nat → Nat → Int32} {Q Q1 : Nat → Nat → Int64} {b p : Nat} {yy : Int32} {A : Nat → Nat → Bool} {c : Nat → Nat}
theorem zEv_eq (I : Nat → Nat → Int32) (Q : Nat → Nat → Int64) (p b : Nat) : v_L_eats I Q p b = zEv I Q p b (zLb Q 3 3 b p) := by
  unfold v_L_eats zEv
  rw [has0, has0, has1, has2, has3]
  by_cases g : 0 ≤ I 1 (6 * b + 1)
  · rw [if_pos g, if_pos g]
  · rw [if_neg g, if_neg g]
theorem zEv_tf (I : Nat → Nat → Int32) (Q : Nat → Nat → Int64) (p b : Nat) (h : ¬ zEv I Q p b false ≤ 0) : ¬ zEv I Q p b true ≤ 0 := by
  unfold zEv at *
  repeat' split
  all_goals first | decide | (simp_all)
theorem zDs_ev (S : zDs M I Q I1 Q1 A c) (hb : b < 5) (p : Nat) (h3 : Bool) : zEv I1 Q1 p b h3 = zEv I Q p b h3 := by
  have e : ∀ k, k < 5 → I1 1 (6 * b + k) = I 1 (6 * b + k) := fun k hk => S.2.1 _ (fun b' _ => by omega)
  have q : ∀ f w b' k', f ≠ 3 → zLb Q1 f w b' k' = zLb Q f w b' k' := fun f w b' k' h => by unfold zLb; rw [S.2.2.2.1 f h]
  unfold zEv
  rw [S.1, q 2 3 b p (by decide), q 1 3 b p (by decide), q 0 2 b _ (by decide), e 1 (by decide), e 2 (by decide), e 4 (by decide), show I1 1 (6 * b) = I 1 (6 * b) from e 0 (by decide)]
theorem zDs_eat (P : zPI Z T M I Q) (S : zDs M I Q I1 Q1 A c) (hb : b < zNb I) (hp : p < 150) : (v_L_eats I1 Q1 p b ≤ 0) ↔ zEt M b p = false := by
  have b5 := zPb P hb
  have e0 : (v_L_eats I Q p b ≤ 0) ↔ zEt M b p = false := by
    rw [lq_eats P.1 P.2.1 P.2.2.1 hb hp, ez_le, zEt_f]
  rw [zEv_eq, zDs_ev S b5, S.2.2.2.2.1 b p hp]
  rw [zEv_eq] at e0
  cases h : A b p
  · rw [Bool.or_false]; exact e0
  · have E := (S.2.2.2.2.2 b p h).2 hp
    rw [Bool.or_true, E]
    rw [E] at e0
    have n0 : ¬ zEv I Q p b (zLb Q 3 3 b p) ≤ 0 := fun z => by have := e0.mp z; cases this
    have n1 : ¬ zEv I Q p b true ≤ 0 := by
      cases h3 : zLb Q 3 3 b p
      · rw [h3] at n0; exact zEv_tf I Q p b n0
      · rw [h3] at n0; exact n0
    exact ⟨fun z => absurd z n1, fun z => by cases z⟩
theorem zDs_0 (M I : Nat → Nat → Int32) (Q : Nat → Nat → Int64) : zDs M I Q I Q (fun _ _ => false) (fun _ => 0) :=
  ⟨rfl, fun _ _ => rfl, fun b _ => by show _ = _ + (0 : Int32); rw [Int32.add_zero], fun _ _ => rfl, fun b p _ => by rw [Bool.or_false], fun b p h => by cases h⟩
theorem zDs_cong {A' : Nat → Nat → Bool} {c' : Nat → Nat} (S : zDs M I Q I1 Q1 A c) (hA : ∀ b p, p < 150 → A' b p = A b p) (hA2 : ∀ b p, A' b p = true → b < zNb I ∧ (p < 150 → zEt M b p = true)) (hc : ∀ b, b < 5 → c' b = c b) : zDs M I Q I1 Q1 A' c' :=
  ⟨S.1, S.2.1, fun b hb => by rw [hc b hb]; exact S.2.2.1 b hb, S.2.2.2.1, fun b p hp => by rw [hA b p hp]; exact S.2.2.2.2.1 b p hp, hA2⟩
theorem zDs_put (P : zPI Z T M I Q) (S : zDs M I Q I1 Q1 A c) (hb : b < zNb I) (hp : p < 150) (E : zEt M b p = true) : zDs M I Q (zU I1 1 (upd (I1 1) (6 * b + 5) ((I1 1 (6 * b + 5)) + 1))) (v_L_put_3 Q1 3 b p true) (fun b' p' => A b' p' || (decide (b' = b) && decide (p' = p))) (fun b' => c b' + if b' = b then 1 else 0) := by
  have b5 := zPb P hb
  rw [put3]
  refine ⟨(zU_n _ _ (by decide)).trans S.1, fun j hj => by rw [zU_s, zupd_n _ _ (hj b b5)]; exact S.2.1 j hj, fun b' hb' => ?_, fun t ht => (zPut_n _ _ _ _ _ ht).trans (S.2.2.2.1 t ht), fun b' p' hp' => ?_, fun b' p' h => ?_⟩
  · rw [zU_s]
    dsimp only
    by_cases d : b' = b
    · subst d
      rw [zupd_s, S.2.2.1 b' hb', Int32.add_assoc, nI_1, if_pos rfl]
    · rw [zupd_n _ _ (by omega), S.2.2.1 b' hb', if_neg d]; rfl
  · rw [zPut_at _ _ _ (show p < 50 * 3 by omega) (show p' < 50 * 3 by omega), S.2.2.2.2.1 b' p' hp']
    dsimp only
    by_cases d : b' = b ∧ p' = p
    · rw [if_pos d, decide_eq_true d.1, decide_eq_true d.2]; simp
    · rw [if_neg d]
      have : (decide (b' = b) && decide (p' = p)) = false := by
        by_cases d1 : b' = b
        · rw [decide_eq_false (show ¬ p' = p from fun z => d ⟨d1, z⟩), Bool.and_false]
        · rw [decide_eq_false d1, Bool.false_and]
      rw [this, Bool.or_false]
  · dsimp only at h
    by_cases d : A b' p' = true
    · exact S.2.2.2.2.2 b' p' d
    · have d' : A b' p' = false := by simpa using d
      rw [d', Bool.false_or] at h
      have h' : b' = b ∧ p' = p := by simpa using h
      rw [h'.1, h'.2]; exact ⟨hb, fun _ => E⟩
theorem z50 (P : zPI Z T M I Q) (hb : b < zNb I) : ∀ (n sum pe : Nat) (I1 : Nat → Nat → Int32) (Q1 : Nat → Nat → Int64) (A : Nat → Nat → Bool) (c : Nat → Nat), 150 - pe < n → pe ≤ 150 → zDs M I Q I1 Q1 A c →
    (∃ A' c', zDs M I Q (v_L_persons_50 b n sum pe I1 Q1).2.2.1 (v_L_persons_50 b n sum pe I1 Q1).2.2.2 A' c' ∧ (∀ b' p', p' < 150 → A' b' p' = (A b' p' || (decide (b' = b) && (decide (pe ≤ p') && zEt M b p')))) ∧ (∀ b', b' ≠ b → c' b' = c b') ∧ c' b + fb_ct (zEt M b) pe = c b + fb_ct (zEt M b) 150) ∧
    (v_L_persons_50 b n sum pe I1 Q1).1 + fb_ct (zEt M b) pe = sum + fb_ct (zEt M b) 150 := by
  intro n
  induction n with
  | zero => intro sum pe I1 Q1 A c h; exact absurd h (Nat.not_lt_zero _)
  | succ n ih =>
    intro sum pe I1 Q1 A c h hpe S
    rw [v_L_persons_50]
    by_cases d : 150 ≤ pe
    · rw [if_pos d, show pe = 150 by omega]
      refine ⟨⟨A, c, S, fun b' p' hp' => ?_, fun _ _ => rfl, rfl⟩, rfl⟩
      rw [decide_eq_false (show ¬ 150 ≤ p' by omega)]; simp
    · rw [if_neg d]
      have ct := fb_ct_succ (zEt M b) pe
      by_cases e : v_L_eats I1 Q1 pe b ≤ 0
      · rw [if_pos e]
        have E := (zDs_eat P S hb (by omega)).mp e
        obtain ⟨⟨A', c', S', a1, a2, a3⟩, a4⟩ := ih sum (pe + 1) I1 Q1 A c (by omega) (by omega) S
        rw [E] at ct; simp at ct
        refine ⟨⟨A', c', S', fun b' p' hp' => ?_, a2, by omega⟩, by omega⟩
        rw [a1 b' p' hp']
        by_cases z : p' = pe
        · subst z; rw [E]; simp
        · congr 2
          rcases Nat.lt_or_ge pe p' with y | y
          · rw [decide_eq_true (show pe + 1 ≤ p' from y), decide_eq_true (show pe ≤ p' by omega)]
          · rw [decide_eq_false (show ¬ pe + 1 ≤ p' by omega), decide_eq_false (show ¬ pe ≤ p' by omega)]
      · rw [if_neg e]
        have E : zEt M b pe = true := by
          cases h9 : zEt M b pe
          · exact absurd ((zDs_eat P S hb (by omega)).mpr h9) e
          · rfl
        obtain ⟨⟨A', c', S', a1, a2, a3⟩, a4⟩ := ih (sum + 1) (pe + 1) _ _ _ _ (by omega) (by omega) (zDs_put P S hb (by omega) E)
        rw [E] at ct; simp at ct
        simp at a3
        refine ⟨⟨A', c', S', fun b' p' hp' => ?_, fun b' hb' => by rw [a2 b' hb']; simp [hb'], by omega⟩, by omega⟩
        rw [a1 b' p' hp']
        by_cases z : p' = pe
        · subst z; rw [E, decide_eq_false (show ¬ p' + 1 ≤ p' by omega)]; simp
        · rw [decide_eq_false z]
          rcases Nat.lt_or_ge pe p' with y | y
          · rw [decide_eq_true (show pe + 1 ≤ p' from y), decide_eq_true (show pe ≤ p' by omega)]; simp
          · rw [decide_eq_false (show ¬ pe + 1 ≤ p' by omega), decide_eq_false (show ¬ pe ≤ p' by omega)]; simp
abbrev zGc (M : Nat → Nat → Int32) (b : Nat) : Nat := fb_ct (zEt M b) 150
theorem z39 (P : zPI Z T M I Q) : ∀ (n sum b : Nat) (I1 : Nat → Nat → Int32) (Q1 : Nat → Nat → Int64) (A : Nat → Nat → Bool) (c : Nat → Nat), zNb I - b < n → b ≤ zNb I → zDs M I Q I1 Q1 A c →
    (∃ A' c', zDs M I Q (v_L_persons_39 n sum b I1 Q1).2.2.1 (v_L_persons_39 n sum b I1 Q1).2.2.2 A' c' ∧ (∀ b' p', p' < 150 → A' b' p' = (A b' p' || ((decide (b ≤ b') && decide (b' < zNb I)) && zEt M b' p'))) ∧ (∀ b', c' b' = c b' + if b ≤ b' ∧ b' < zNb I then zGc M b' else 0)) ∧
    (v_L_persons_39 n sum b I1 Q1).1 + zts (zGc M) b = sum + zts (zGc M) (zNb I) := by
  intro n
  induction n with
  | zero => intro sum b I1 Q1 A c h; exact absurd h (Nat.not_lt_zero _)
  | succ n ih =>
    intro sum b I1 Q1 A c h hb S
    have n5 := zP5 P
    have le : (I1 0 0 ≤ nI b) ↔ zNb I ≤ b := by rw [S.1]; exact lw_le P.2.2.1 (by omega)
    rw [v_L_persons_39]
    by_cases d : zNb I ≤ b
    · rw [if_pos (le.mpr d), show b = zNb I by omega]
      refine ⟨⟨A, c, S, fun b' p' hp' => ?_, fun b' => by rw [if_neg (by omega)]; rfl⟩, rfl⟩
      have : (decide (zNb I ≤ b') && decide (b' < zNb I)) = false := by
        by_cases z : zNb I ≤ b'
        · rw [decide_eq_false (show ¬ b' < zNb I by omega), Bool.and_false]
        · rw [decide_eq_false z, Bool.false_and]
      rw [this, Bool.false_and, Bool.or_false]
    · rw [if_neg (fun z => d (le.mp z))]
      obtain ⟨⟨A1, c1, S1, a1, a2, a3⟩, a4⟩ := z50 P (show b < zNb I by omega) 151 sum 0 I1 Q1 A c (by decide) (by decide) S
      have z0 : fb_ct (zEt M b) 0 = 0 := rfl
      rw [z0] at a3 a4
      obtain ⟨⟨A', c', S', e1, e2⟩, e3⟩ := ih _ (b + 1) _ _ A1 c1 (by omega) (by omega) S1
      have ts : zts (zGc M) (b + 1) = zts (zGc M) b + zGc M b := rfl
      have a4' : (v_L_persons_50 b 151 sum 0 I1 Q1).1 = sum + zGc M b := by show _ = sum + fb_ct (zEt M b) 150; omega
      have a3' : c1 b = c b + zGc M b := by show _ = c b + fb_ct (zEt M b) 150; omega
      refine ⟨⟨A', c', S', fun b' p' hp' => ?_, fun b' => ?_⟩, by omega⟩
      · rw [e1 b' p' hp', a1 b' p' hp', decide_eq_true (Nat.zero_le p'), Bool.true_and]
        by_cases z : b' = b
        · subst z
          rw [decide_eq_true rfl, decide_eq_false (show ¬ b' + 1 ≤ b' by omega), decide_eq_true (Nat.le_refl b'), decide_eq_true (show b' < zNb I by omega)]
          simp
        · rw [decide_eq_false z, Bool.false_and, Bool.or_false]
          by_cases y : b ≤ b'
          · rw [decide_eq_true y, decide_eq_true (show b + 1 ≤ b' by omega)]
          · rw [decide_eq_false y, decide_eq_false (show ¬ b + 1 ≤ b' by omega)]
      · rw [e2 b']
        by_cases z : b' = b
        · rw [z, a3', if_neg (by omega), if_pos ⟨Nat.le_refl b, by omega⟩]; rfl
        · rw [a2 b' z]
          by_cases y : b ≤ b' ∧ b' < zNb I
          · rw [if_pos y, if_pos ⟨by omega, y.2⟩]
          · rw [if_neg y, if_neg (fun w => y ⟨by omega, w.2⟩)]
abbrev zDd (yy : Int32) : Nat := ((1 : Int32) + v_L_at yy 3).toNatClampNeg
theorem z29 (P : zPI Z T M I Q) (yy : Int32) : ∀ (n sum d : Nat) (I1 : Nat → Nat → Int32) (Q1 : Nat → Nat → Int64) (A : Nat → Nat → Bool) (c : Nat → Nat), zDd yy - d < n → d ≤ zDd yy → zDs M I Q I1 Q1 A c →
    (∃ A' c', zDs M I Q (v_L_persons_29 yy n sum d I1 Q1).2.2.1 (v_L_persons_29 yy n sum d I1 Q1).2.2.2 A' c' ∧ (∀ b' p', p' < 150 → A' b' p' = (A b' p' || (decide (d < zDd yy) && (decide (b' < zNb I) && zEt M b' p')))) ∧ (∀ b', c' b' = c b' + if b' < zNb I then (zDd yy - d) * zGc M b' else 0)) ∧
    (v_L_persons_29 yy n sum d I1 Q1).1 = sum + (zDd yy - d) * zts (zGc M) (zNb I) := by
  intro n
  induction n with
  | zero => intro sum d I1 Q1 A c h; exact absurd h (Nat.not_lt_zero _)
  | succ n ih =>
    intro sum d I1 Q1 A c h hd S
    rw [v_L_persons_29]
    by_cases e : zDd yy ≤ d
    · rw [if_pos e]
      have z : zDd yy - d = 0 := by omega
      refine ⟨⟨A, c, S, fun b' p' _ => by rw [decide_eq_false (show ¬ d < zDd yy by omega), Bool.false_and, Bool.or_false], fun b' => ?_⟩, by rw [z, Nat.zero_mul]; rfl⟩
      rw [z, Nat.zero_mul]; split <;> rfl
    · rw [if_neg e]
      obtain ⟨⟨A1, c1, S1, a1, a2⟩, a3⟩ := z39 P 6 sum 0 I1 Q1 A c (by have := zP5 P; omega) (Nat.zero_le _) S
      have t0 : zts (zGc M) 0 = 0 := rfl
      rw [t0] at a3
      obtain ⟨⟨A', c', S', e1, e2⟩, e3⟩ := ih _ (d + 1) _ _ A1 c1 (by omega) (by omega) S1
      obtain ⟨m, em⟩ : ∃ m, zDd yy - d = m + 1 := ⟨zDd yy - d - 1, by omega⟩
      have em2 : zDd yy - (d + 1) = m := by omega
      rw [em2] at e2 e3
      rw [em]
      have A1e : ∀ b' p', p' < 150 → A1 b' p' = (A b' p' || (decide (b' < zNb I) && zEt M b' p')) := fun b' p' hp' => by
        rw [a1 b' p' hp', decide_eq_true (Nat.zero_le b'), Bool.true_and]
      refine ⟨⟨A', c', S', fun b' p' hp' => ?_, fun b' => ?_⟩, ?_⟩
      · rw [e1 b' p' hp', A1e b' p' hp', decide_eq_true (show d < zDd yy by omega), Bool.true_and]
        cases decide (d + 1 < zDd yy) <;> cases A b' p' <;> cases (decide (b' < zNb I) && zEt M b' p') <;> rfl
      · rw [e2 b', a2 b']
        by_cases y : b' < zNb I
        · rw [if_pos y, if_pos y, if_pos ⟨Nat.zero_le _, y⟩, Nat.add_mul, Nat.one_mul]; omega
        · rw [if_neg y, if_neg y, if_neg (fun w => y w.2)]
      · rw [e3, Nat.add_mul, Nat.one_mul]; omega
/-- the days, counted both ways -/
theorem zts_sw (M : Nat → Nat → Int32) : ∀ n : Nat, zsu (fun p => nI (fb_ct (fun j => zEt M j p) n)) 150 0 = nI (zts (zGc M) n)
  | 0 => zsu_0 150 0 (fun _ _ _ => rfl)
  | n + 1 => by
    have h : zsu (fun p => nI (fb_ct (fun j => zEt M j p) (n + 1))) 150 0 = zsu (fun p => nI (fb_ct (fun j => zEt M j p) n) + zind (zEt M n) p) 150 0 := zsu_cong 150 0 (fun p _ _ => by
      rw [fb_ct_succ, ← nI_add]
      unfold zind
      cases zEt M n p <;> rfl)
    rw [h, zsu_add, zts_sw M n, zsu_n, nI_add]
    rfl
theorem zDd3 (yy : Int32) : 1 ≤ zDd yy ∧ zDd yy < 4 := by
  have h := znat (zday yy)
  refine ⟨?_, h.2⟩
  obtain ⟨j, hj, e⟩ := vp_in_of (zat3 yy) (by decide)
  show 1 ≤ ((1 : Int32) + v_L_at yy 3).toNatClampNeg
  rw [e, show (1 : Int32) = nI 1 from rfl, nI_add, nI_nat (by omega)]; omega
theorem zpo_pass (P : zPI Z T M I Q) (yy : Int32) : e_X4_pass Z T0 T1 T2 T3 T4 T5 T (nI ((1 : Int32) + v_L_at yy 3).toNatClampNeg) = none := by
  have h := zDd3 yy
  unfold e_X4_pass
  rw [if_neg (show ¬ nI (zDd yy) < 1 from fun z => by have := (zlti (b := 1) (by omega) (by decide)).mp z; omega), if_pos (show nI (zDd yy) ≤ 50 from (zlei (b := 50) (by omega) (by decide)).mpr (by omega))]
theorem zpassZ (P : zPI Z T M I Q) (yy : Int32) : (v_X5_passes M (zDd yy)).1 = nI (v_L_persons_29 yy 4 0 0 I Q).1 ∧ zTw (v_X3_letPass T (nI (zDd yy))) ((v_X5_passes M (zDd yy)).2 0) ∧ zDj M (v_X5_passes M (zDd yy)).2 (zDd yy) := by
  have h := zDd3 yy
  have d := zdays P.2.1 (zcl P.1) (days := zDd yy) (by omega)
  have e := eq_pass P.1 P.2.1 (days := zDd yy) (by omega) (by omega)
  refine ⟨?_, e.1, d.2⟩
  have s := (z29 P yy 4 0 0 I Q _ _ (by omega) (Nat.zero_le _) (zDs_0 M I Q)).2
  rw [d.1, s, Nat.zero_add, Nat.sub_zero]
  have o : zsu (fun p => v_X5_ones (v_X5_breadsOf M p)) 150 0 = nI (zts (zGc M) (zNb I)) := by
    rw [← zts_sw]
    refine zsu_cong 150 0 (fun p _ _ => ?_)
    rw [zon_n P.2.1, lw_nM P.2.2.1]
  rw [o, pk_mul]
theorem zpo_pass2 (P : zPI Z T M I Q) : (v_X4_pass Z T0 T1 T2 T3 T4 T5 T (nI ((1 : Int32) + v_L_at yy 3).toNatClampNeg)).1 = nI (v_L_persons_29 yy 4 0 0 I Q).1 := by
  have h := zDd3 yy
  have e := eq_pass P.1 P.2.1 (days := zDd yy) (by omega) (by omega)
  rw [← (zpassZ P yy).1, ← e.2]
  rfl
end PP
