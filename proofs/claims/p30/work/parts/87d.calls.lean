/-! what agree reads; holds -/
section PF
variable {Z T0 T1 T2 T3 T4 T5 T M I I1 O J : Nat → Nat → Int32} {Q Q1 : Nat → Nat → Int64} {b p sh : Nat} {xx yy mx x : Int32} {hd bf q q1 q2 : Bool}
theorem zpo_cnt (P : zPI Z T M I Q) (k : Nat) (h : v_X4_isCounted (nI k) = true) : e_X4_count Z T (nI k) = none ∧ True := ⟨by unfold e_X4_count; rw [if_pos h], trivial⟩
theorem zcn0 (P : zPI Z T M I Q) : v_X4_count Z T 0 = I 0 0 := by
  unfold v_X4_count v_X4_numberOf v_X3_number
  rw [if_neg (by decide), if_neg (by decide), if_neg (by decide), if_pos rfl, eq_nb P.1, P.2.2.1.1.2.1]
theorem zcn2 (P : zPI Z T M I Q) : v_X4_count Z T 2 = I 0 1 := by
  unfold v_X4_count v_X4_numberOf v_X3_number
  rw [if_neg (by decide), if_neg (by decide), if_neg (by decide), if_neg (by decide), if_neg (by decide), if_pos rfl, P.1.1.2.1, P.2.2.1.1.2.2.1]
theorem zcn3 (P : zPI Z T M I Q) : v_X4_count Z T 3 = I 0 2 := by
  unfold v_X4_count v_X4_numberOf v_X3_number
  rw [if_neg (by decide), if_neg (by decide), if_neg (by decide), if_neg (by decide), if_neg (by decide), if_neg (by decide), if_pos rfl, P.1.1.2.2, P.2.2.1.1.2.2.2.1]
theorem zcn8 (P : zPI Z T M I Q) : v_X4_count Z T 8 = I 0 3 := by
  unfold v_X4_count v_X4_numberOf
  rw [if_pos rfl, P.2.2.2.2.2]
theorem zcn10 (P : zPI Z T M I Q) : v_X4_count Z T 10 = I 0 4 := by
  unfold v_X4_count v_X4_numberOf
  rw [if_neg (by decide), if_pos (by decide), show (Int32.toNatClampNeg ((10 : Int32) - 10)) = 0 by decide, P.1.2.1 0 (by decide)]
  exact (P.2.2.1.1.2.2.2.2 0 (by decide)).symm
theorem zcn12 (P : zPI Z T M I Q) : v_X4_count Z T 12 = I 0 6 := by
  unfold v_X4_count v_X4_numberOf
  rw [if_neg (by decide), if_pos (by decide), show (Int32.toNatClampNeg ((12 : Int32) - 10)) = 2 by decide, P.1.2.1 2 (by decide)]
  exact (P.2.2.1.1.2.2.2.2 2 (by decide)).symm
theorem zcn20 (P : zPI Z T M I Q) : v_X4_count Z T 20 = nI (v_L_room I Q 0) := by
  unfold v_X4_count v_X4_numberOf
  rw [if_neg (by decide), if_neg (by decide), if_pos (by decide), show (Int32.toNatClampNeg ((20 : Int32) - 20)) = 0 by decide, eq_free P.1 (by decide)]
  exact (lq_room P.2.1 P.2.2.1 (g := 0) (by decide)).symm
theorem zcn22 (P : zPI Z T M I Q) : v_X4_count Z T 22 = nI (v_L_room I Q 2) := by
  unfold v_X4_count v_X4_numberOf
  rw [if_neg (by decide), if_neg (by decide), if_pos (by decide), show (Int32.toNatClampNeg ((22 : Int32) - 20)) = 2 by decide, eq_free P.1 (by decide)]
  exact (lq_room P.2.1 P.2.2.1 (g := 2) (by decide)).symm
theorem z20 : ∀ n had held pe, 150 - pe < n → pe ≤ 150 → (v_L_agree_20 Q b n had held pe).1 + fb_ct (zLb Q 3 3 b) pe = had + fb_ct (zLb Q 3 3 b) 150 ∧ (v_L_agree_20 Q b n had held pe).2.1 + fb_ct (zLb Q 1 3 b) pe = held + fb_ct (zLb Q 1 3 b) 150 := by
  intro n
  induction n with
  | zero => intro had held pe h; exact absurd h (Nat.not_lt_zero _)
  | succ n ih =>
    intro had held pe h hp
    rw [v_L_agree_20, has3, has1]
    by_cases c : 150 ≤ pe
    · rw [if_pos c, show pe = 150 by omega]; exact ⟨rfl, rfl⟩
    · rw [if_neg c]
      have s3 := fb_ct_succ (zLb Q 3 3 b) pe
      have s1 := fb_ct_succ (zLb Q 1 3 b) pe
      cases h3 : zLb Q 3 3 b pe <;> cases h1 : zLb Q 1 3 b pe
      · rw [if_neg (by decide), if_neg (by decide)]
        have := ih had held (pe + 1) (by omega) (by omega)
        rw [s3, s1, h3, h1] at this; simp at this; exact this
      · rw [if_neg (by decide), if_pos rfl]
        have := ih had (held + 1) (pe + 1) (by omega) (by omega)
        rw [s3, s1, h3, h1] at this; simp at this; omega
      · rw [if_pos rfl, if_neg (by decide)]
        have := ih (had + 1) held (pe + 1) (by omega) (by omega)
        rw [s3, s1, h3, h1] at this; simp at this; omega
      · rw [if_pos rfl, if_pos rfl]
        have := ih (had + 1) (held + 1) (pe + 1) (by omega) (by omega)
        rw [s3, s1, h3, h1] at this; simp at this; omega
theorem z20c : (v_L_agree_20 Q b 151 0 0 0).1 = fb_ct (zLb Q 3 3 b) 150 ∧ (v_L_agree_20 Q b 151 0 0 0).2.1 = fb_ct (zLb Q 1 3 b) 150 := by
  have h := z20 (Q := Q) (b := b) 151 0 0 0 (by decide) (by decide)
  have z3 : fb_ct (zLb Q 3 3 b) 0 = 0 := rfl
  have z1 : fb_ct (zLb Q 1 3 b) 0 = 0 := rfl
  rw [z3, z1] at h
  omega
theorem zag6 (P : zPI Z T M I Q) (hb : b < zNb I) : v_X4_bread T (nI b) 6 = nI (v_L_agree_20 Q b 151 0 0 0).1 := by
  have b5 := zPb P hb
  show v_X4_bread T (nI b) (nI 6) = _
  rw [(zpo_bread P hb 6 (by decide)).2, (zbN M b).2.2.2.2.1, zpw_ct _ _ (by omega), z20c.1]
  exact congrArg nI (fb_ct_cong (fun p hp => ((P.2.2.1.2.2.2.1 b b5 p hp).2.2).symm))
theorem zag8 (P : zPI Z T M I Q) (hb : b < zNb I) : v_X4_bread T (nI b) 8 = nI (v_L_agree_20 Q b 151 0 0 0).2.1 := by
  have b5 := zPb P hb
  show v_X4_bread T (nI b) (nI 8) = _
  rw [(zpo_bread P hb 8 (by decide)).2, (zbN M b).2.2.2.2.2.2.1, zpw_ct _ _ (by omega), z20c.2]
  exact congrArg nI (fb_ct_cong (fun p hp => ((P.2.2.1.2.2.2.1 b b5 p hp).1).symm))
theorem z75a : ∀ n low high k, (0 : Int32) ≤ low → 100 - k < n → (v_L_agree_75 Q b n low high k).1 = low := by
  intro n
  induction n with
  | zero => intro low high k _ h; exact absurd h (Nat.not_lt_zero _)
  | succ n ih =>
    intro low high k hl h
    rw [v_L_agree_75]
    by_cases c : 100 ≤ k
    · rw [if_pos c]
    · rw [if_neg c, if_pos hl]
      by_cases d : v_L_has_0 Q 2 b k = true
      · rw [if_pos d]; exact ih _ _ _ hl (by omega)
      · rw [if_neg d]; exact ih _ _ _ hl (by omega)
theorem z75b (w : ∀ k, k < 100 → zLb Q 0 2 b k = v_X5_owns M b k) : ∀ n high k, 100 - k < n → k ≤ 100 → (v_L_agree_75 Q b n (-1) high k).1 = v_X5_lowestOf_2 M b n k := by
  intro n
  induction n with
  | zero => intro high k h; exact absurd h (Nat.not_lt_zero _)
  | succ n ih =>
    intro high k h hk
    rw [v_L_agree_75, v_X5_lowestOf_2, has0]
    by_cases c : 100 ≤ k
    · rw [if_pos c, if_pos c, if_pos (by omega)]
    · rw [if_neg c, if_neg c, w k (by omega), if_neg (show ¬ (0 : Int32) ≤ -1 by decide), if_neg (show ¬ k = 100 by omega)]
      by_cases d : v_X5_owns M b k = true
      · rw [if_pos d, if_pos d, z75a n _ _ _ (by rw [Int32.le_iff_toInt_le, nI_toInt (by omega)]; exact Int.natCast_nonneg k) (by omega)]
      · rw [if_neg d, if_neg d]; exact ih _ _ (by omega) (by omega)
theorem zag10 (P : zPI Z T M I Q) (hb : b < zNb I) : v_X4_bread T (nI b) 10 = (v_L_agree_75 Q b 101 (-1) (-1) 0).1 := by
  show v_X4_bread T (nI b) (nI 10) = _
  rw [(zpo_bread P hb 10 (by decide)).2, (zbN M b).2.2.2.2.2.2.2.1, z75b (M := M) (fun k hk => P.2.2.1.2.2.1 b hb k hk) 101 (-1) 0 (by decide) (by decide)]
  rfl
theorem z75h : ∀ n low high k, 100 - k < n → k ≤ 100 → ((∀ j, k ≤ j → j < 100 → zLb Q 0 2 b j = false) → (v_L_agree_75 Q b n low high k).2.1 = high) ∧ ∀ j, k ≤ j → j < 100 → zLb Q 0 2 b j = true → (∀ j', j < j' → j' < 100 → zLb Q 0 2 b j' = false) → (v_L_agree_75 Q b n low high k).2.1 = nI j := by
  intro n
  induction n with
  | zero => intro low high k h; exact absurd h (Nat.not_lt_zero _)
  | succ n ih =>
    intro low high k h hk
    rw [v_L_agree_75, has0]
    by_cases c : 100 ≤ k
    · rw [if_pos c]
      exact ⟨fun _ => rfl, fun j h1 h2 => by omega⟩
    · rw [if_neg c]
      by_cases d : zLb Q 0 2 b k = true
      · rw [if_pos d]
        have key : ∀ low', ((∀ j, k ≤ j → j < 100 → zLb Q 0 2 b j = false) → (v_L_agree_75 Q b n low' (nI k) (k + 1)).2.1 = high) ∧ ∀ j, k ≤ j → j < 100 → zLb Q 0 2 b j = true → (∀ j', j < j' → j' < 100 → zLb Q 0 2 b j' = false) → (v_L_agree_75 Q b n low' (nI k) (k + 1)).2.1 = nI j := by
          intro low'
          have I' := ih low' (nI k) (k + 1) (by omega) (by omega)
          refine ⟨fun a => ?_, fun j h1 h2 h3 h4 => ?_⟩
          · have := a k (Nat.le_refl _) (by omega)
            rw [d] at this; cases this
          · rcases Nat.lt_or_ge k j with z | z
            · exact I'.2 j z h2 h3 h4
            · have : j = k := by omega
              subst this
              exact I'.1 (fun j' h5 h6 => h4 j' (by omega) h6)
        by_cases l0 : 0 ≤ low
        · rw [if_pos l0]; exact key low
        · rw [if_neg l0]; exact key (nI k)
      · rw [if_neg d]
        have I' := ih low high (k + 1) (by omega) (by omega)
        refine ⟨fun a => I'.1 (fun j h1 h2 => a j (by omega) h2), fun j h1 h2 h3 h4 => ?_⟩
        rcases Nat.lt_or_ge k j with z | z
        · exact I'.2 j z h2 h3 h4
        · have : j = k := by omega
          subst this; exact absurd h3 d
theorem zhi3 (w : ∀ k, k < 100 → zLb Q 0 2 b k = v_X5_owns M b k) : ∀ n i, i ≤ 100 → i < n → ((∀ j, j < i → zLb Q 0 2 b j = false) → v_X5_highestOf_3 M b n (nI i + (-1)) = -1) ∧ ∀ j, j < i → zLb Q 0 2 b j = true → (∀ j', j < j' → j' < i → zLb Q 0 2 b j' = false) → v_X5_highestOf_3 M b n (nI i + (-1)) = nI j := by
  intro n
  induction n with
  | zero => intro i _ h; exact absurd h (Nat.not_lt_zero _)
  | succ n ih =>
    intro i hi h
    cases i with
    | zero =>
      refine ⟨fun _ => ?_, fun j h1 => absurd h1 (Nat.not_lt_zero _)⟩
      rw [v_X5_highestOf_3, if_pos (by decide)]; rfl
    | succ i =>
      have e := zm1i i (by omega)
      rw [e.1, v_X5_highestOf_3, if_neg e.2, nI_nat (by omega), ← w i (by omega)]
      have I' := ih i (by omega) (by omega)
      by_cases d : zLb Q 0 2 b i = true
      · rw [if_pos d]
        refine ⟨fun a => ?_, fun j h1 h2 h3 => ?_⟩
        · have := a i (by omega)
          rw [d] at this; cases this
        · rcases Nat.lt_or_ge j i with z | z
          · have := h3 i z (by omega)
            rw [d] at this; cases this
          · rw [show j = i by omega]
      · rw [if_neg d]
        refine ⟨fun a => I'.1 (fun j h1 => a j (by omega)), fun j h1 h2 h3 => ?_⟩
        rcases Nat.lt_or_ge j i with z | z
        · exact I'.2 j z h2 (fun j' h5 h6 => h3 j' h5 (by omega))
        · rw [show j = i by omega] at h2; exact absurd h2 d
theorem zmaxW (W : Nat → Bool) : ∀ n, (∀ j, j < n → W j = false) ∨ ∃ j, j < n ∧ W j = true ∧ ∀ j', j < j' → j' < n → W j' = false := by
  intro n
  induction n with
  | zero => exact Or.inl (fun j h => absurd h (Nat.not_lt_zero _))
  | succ n ih =>
    cases h : W n
    · rcases ih with a | ⟨j, h1, h2, h3⟩
      · left; intro j hj
        rcases Nat.lt_or_ge j n with z | z
        · exact a j z
        · rw [show j = n by omega]; exact h
      · right; refine ⟨j, by omega, h2, fun j' h4 h5 => ?_⟩
        rcases Nat.lt_or_ge j' n with z | z
        · exact h3 j' h4 z
        · rw [show j' = n by omega]; exact h
    · right; exact ⟨n, by omega, h, fun j' h4 h5 => by omega⟩
theorem zag11 (P : zPI Z T M I Q) (hb : b < zNb I) : v_X4_bread T (nI b) 11 = (v_L_agree_75 Q b 101 (-1) (-1) 0).2.1 := by
  show v_X4_bread T (nI b) (nI 11) = _
  rw [(zpo_bread P hb 11 (by decide)).2, (zbN M b).2.2.2.2.2.2.2.2]
  unfold v_X5_highestOf
  have a := zhi3 (M := M) (Q := Q) (b := b) (fun k hk => P.2.2.1.2.2.1 b hb k hk) 101 100 (by decide) (by decide)
  have c := z75h (Q := Q) (b := b) 101 (-1) (-1) 0 (by decide) (by decide)
  rw [show (nI 100 + (-1) : Int32) = 99 by decide] at a
  rcases zmaxW (zLb Q 0 2 b) 100 with h | ⟨j, h1, h2, h3⟩
  · rw [a.1 h, c.1 (fun j _ hj => h j hj)]
  · rw [a.2 j h1 h2 h3, c.2 j (Nat.zero_le _) h1 h2 h3]
/-- holds: the row behind -/
theorem zhr (M : Nat → Nat → Int32) (hp : p < 150) (hb : b < 8) (q1 q2 : Bool) : (∀ j, j ≠ 353 + p → j ≠ 503 + p → v_X5_holds M p b (bI q1) (bI q2) 0 j = M 0 j) ∧ (∀ i, i < 32 → bt (v_X5_holds M p b (bI q1) (bI q2) 0 (353 + p)) i = if i = b then q1 else bt (M 0 (353 + p)) i) ∧ (∀ i, i < 32 → bt (v_X5_holds M p b (bI q1) (bI q2) 0 (503 + p)) i = if i = b then q2 else bt (M 0 (503 + p)) i) := by
  have set : ∀ (x : Int32) (q : Bool) i, i < 32 → bt ((x &&& (zp2 b ^^^ (-1))) ||| ((bI q) <<< ((nI b) &&& 31))) i = if i = b then q else bt x i := by
    intro x q i hi
    rw [zbit0 (by omega)]
    cases q
    · rw [if_neg (by decide), bt_clr (by omega) hi]
      by_cases c : i = b
      · simp [c]
      · simp [c]
    · rw [if_pos rfl, bt_set (by omega) hi, bt_clr (by omega) hi]
      by_cases c : i = b
      · simp [c]
      · simp [c]
  unfold v_X5_holds
  rw [zU_s]
  refine ⟨fun j h1 h2 => by rw [zupd_n _ _ h2, zupd_n _ _ h1], fun i hi => ?_, fun i hi => ?_⟩
  · rw [zupd_n _ _ (by omega), zupd_s]; exact set _ _ i hi
  · rw [zupd_s, zupd_n _ _ (by omega)]; exact set _ _ i hi
theorem zLw_hold (G : zI M) (L : zLw M I Q) (hb : b < zNb I) (hp : p < 150) (q1 q2 : Bool) : zLw (v_X5_holds M p b (bI q1) (bI q2)) I (v_L_put_2 (v_L_put_1 Q 3 b p q1) 3 b p q2) := by
  have b5 := lw_b L hb
  obtain ⟨r0, r1, r2⟩ := zhr M hp (show b < 8 by omega) q1 q2
  have lo : ∀ j, j < 353 → v_X5_holds M p b (bI q1) (bI q2) 0 j = M 0 j := fun j hj => r0 j (by omega) (by omega)
  have hi : ∀ j, 653 ≤ j → v_X5_holds M p b (bI q1) (bI q2) 0 j = M 0 j := fun j hj => r0 j (by omega) (by omega)
  have of' : ∀ b', b' < 5 → ∀ k, k < 6 → v_X5_of (v_X5_holds M p b (bI q1) (bI q2)) b' k = v_X5_of M b' k := fun b' h1 k h2 => lo _ (by omega)
  rw [put1, put2]
  refine ⟨⟨L.1.1, by rw [lo 1 (by decide)]; exact L.1.2.1, by rw [lo 0 (by decide)]; exact L.1.2.2.1, by rw [L.1.2.2.2.1]; exact zsu_cong 150 0 (fun j _ _ => (hi _ (by omega)).symm), fun g hg => by rw [lo _ (by omega)]; exact L.1.2.2.2.2 g hg⟩, ?_, ?_, ?_, ?_, ?_⟩
  · intro b' hb' k hk
    rw [of' b' (lw_b L hb') k hk]; exact L.2.1 b' hb' k hk
  · intro b' hb' k hk
    have b5' := lw_b L hb'
    rw [zPut_ne _ _ _ _ _ (by decide), zPut_ne _ _ _ _ _ (by decide), L.2.2.1 b' hb' k hk]
    unfold v_X5_owns v_X5_isOfGroup
    rw [of' b' b5' 1 (by decide), of' b' b5' 3 (by decide)]
    rcases zgrp G (show b' < 8 by omega) with ⟨c, e⟩ | ⟨c, g, hg, e⟩
    · rw [e, if_pos rfl]; rfl
    · rw [e, if_neg (zig3 g hg).2.1, if_pos rfl, nI_nat (by omega), lo _ (by omega), if_pos rfl]
  · intro b' h1 p' hp'
    have old := L.2.2.2.1 b' h1 p' hp'
    rw [zPut_ne _ _ _ _ _ (show 1 ≠ 2 by decide), zPut_at _ _ _ (show p < 50 * 3 by omega) (show p' < 50 * 3 by omega), zPut_at _ _ _ (show p < 50 * 3 by omega) (show p' < 50 * 3 by omega), zPut_ne _ _ _ _ _ (show 2 ≠ 1 by decide), zPut_ne _ _ _ _ _ (show 3 ≠ 2 by decide), zPut_ne _ _ _ _ _ (show 3 ≠ 1 by decide), hi (653 + p') (by omega)]
    by_cases c : p' = p
    · subst c
      rw [r1 b' (by omega), r2 b' (by omega)]
      by_cases d : b' = b
      · simp [d, old.2.2]
        exact (d ▸ old.2.2)
      · simp [d]; exact old
    · rw [r0 _ (by omega) (by omega), r0 _ (by omega) (by omega)]
      simp [c]; exact old
  · intro b' h1 h2
    have h1' : zNb I ≤ b' := h1
    have ne : b' ≠ b := by omega
    have o := L.2.2.2.2.1 b' h1 h2
    refine ⟨o.1, fun k hk => by rw [zPut_ne _ _ _ _ _ (by decide), zPut_ne _ _ _ _ _ (by decide)]; exact o.2.1 k hk, fun p' hp' => ?_⟩
    rw [zPut_ne _ _ _ _ _ (show 1 ≠ 2 by decide), zPut_at _ _ _ (show p < 50 * 3 by omega) (show p' < 50 * 3 by omega), zPut_at _ _ _ (show p < 50 * 3 by omega) (show p' < 50 * 3 by omega), zPut_ne _ _ _ _ _ (show 2 ≠ 1 by decide), zPut_ne _ _ _ _ _ (show 3 ≠ 2 by decide), zPut_ne _ _ _ _ _ (show 3 ≠ 1 by decide)]
    simp [ne]; exact o.2.2 p' hp'
  · intro g hg k hk b' hb' e
    rw [lo _ (by omega)] at e
    rw [of' b' (lw_b L hb') 1 (by decide)]
    exact L.2.2.2.2.2 g hg k hk b' hb' e
end PF
