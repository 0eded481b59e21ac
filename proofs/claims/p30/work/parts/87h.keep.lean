/-! what stays behind each act, the rest -/
section PR
variable {Z T0 T1 T2 T3 T4 T5 T T' M M' N I J I1 : Nat → Nat → Int32} {Q Q' Q1 : Nat → Nat → Int64} {b p sh n k g : Nat} {xx yy mx x gr sal st : Int32} {q q1 q2 : Bool}
theorem zLw_put (G : zI N) (L : zLw N I Q) (hb : b < zNb I) (hk : k = 0 ∨ k = 2) (x : Int32) : zLw (v_X5_put N b k x) (zU I 1 (upd (I 1) (6 * b + k) x)) Q := by
  have b5 := lw_b L hb
  have Mk : ∀ j, (v_X5_put N b k x) 0 j = upd (N 0) (5 + (6 * b) + k) x j := fun j => by unfold v_X5_put; rw [zU_s]
  have Mo : ∀ j, j ≠ 5 + 6 * b + k → (v_X5_put N b k x) 0 j = N 0 j := fun j hj => by rw [Mk, zupd_n _ _ hj]
  have J0 : (zU I 1 (upd (I 1) (6 * b + k) x)) 0 = I 0 := zU_n _ _ (by decide)
  have J1 : (zU I 1 (upd (I 1) (6 * b + k) x)) 1 = upd (I 1) (6 * b + k) x := zU_s _ _ _
  have of' : ∀ b', b' < 8 → ∀ k', k' < 6 → ¬ (b' = b ∧ k' = k) → v_X5_of (v_X5_put N b k x) b' k' = v_X5_of N b' k' := fun b' h1 k' h2 h3 => Mo _ (by omega)
  refine ⟨by rw [J0]; exact ⟨L.1.1, by rw [Mo 1 (by omega)]; exact L.1.2.1, by rw [Mo 0 (by omega)]; exact L.1.2.2.1, by rw [L.1.2.2.2.1]; exact zsu_cong 150 0 (fun j _ _ => (Mo _ (by omega)).symm), fun g hg => by rw [Mo _ (by omega)]; exact L.1.2.2.2.2 g hg⟩, ?_, ?_, ?_, ?_, ?_⟩
  · rw [J0]
    intro b' hb' k' hk'
    rw [J1]
    by_cases d : b' = b ∧ k' = k
    · rw [d.1, d.2, zupd_s]
      show x = (v_X5_put N b k x) 0 (5 + (6 * b) + k)
      rw [Mk, zupd_s]
    · rw [zupd_n _ _ (by omega), of' b' (by have := lw_b L hb'; omega) k' hk' d]
      exact L.2.1 b' hb' k' hk'
  · rw [J0]
    intro b' hb' k' hk'
    have b8 : b' < 8 := by have := lw_b L hb'; omega
    rw [L.2.2.1 b' hb' k' hk']
    unfold v_X5_owns v_X5_isOfGroup
    rw [of' b' b8 1 (by decide) (by omega), of' b' b8 3 (by decide) (by omega)]
    rcases zgrp G b8 with ⟨c, e⟩ | ⟨c, g, hg, e⟩
    · rw [e, if_pos rfl]; rfl
    · rw [e, if_neg (zig3 g hg).2.1, if_pos rfl, nI_nat (by omega), Mo _ (by omega), if_pos rfl]
  · intro b' h1 p hp
    rw [Mo _ (by omega), Mo _ (by omega), Mo _ (by omega)]
    exact L.2.2.2.1 b' h1 p hp
  · rw [J0]
    intro b' h1 h2
    have h1' : zNb I ≤ b' := h1
    have o := L.2.2.2.2.1 b' h1 h2
    rw [J1, zupd_n _ _ (by omega), zupd_n _ _ (by omega)]
    exact o
  · rw [J0]
    intro g hg k' hk' b' hb' e
    rw [Mo _ (by omega)] at e
    rw [of' b' (by have := lw_b L hb'; omega) 1 (by decide) (by omega)]
    exact L.2.2.2.2.2 g hg k' hk' b' hb' e
theorem zLw_shake (L : zLw M I Q) (G : zI M) (hg : g < 3) (x : Int32) : zLw (zU M 0 (upd (M 0) (2 + g) x)) (zU I 0 (upd (I 0) (4 + g) x)) Q := by
  have Mk : ∀ j, (zU M 0 (upd (M 0) (2 + g) x)) 0 j = upd (M 0) (2 + g) x j := fun j => by rw [zU_s]
  have Mo : ∀ j, j ≠ 2 + g → (zU M 0 (upd (M 0) (2 + g) x)) 0 j = M 0 j := fun j hj => by rw [Mk, zupd_n _ _ hj]
  have J0 : ∀ j, j ≠ 4 + g → (zU I 0 (upd (I 0) (4 + g) x)) 0 j = I 0 j := fun j hj => by rw [zU_s, zupd_n _ _ hj]
  have J1 : (zU I 0 (upd (I 0) (4 + g) x)) 1 = I 1 := zU_n _ _ (by decide)
  have of' : ∀ b', ∀ k', v_X5_of (zU M 0 (upd (M 0) (2 + g) x)) b' k' = v_X5_of M b' k' := fun b' k' => Mo _ (by omega)
  have ow : ∀ b' k', v_X5_owns (zU M 0 (upd (M 0) (2 + g) x)) b' k' = v_X5_owns M b' k' := fun b' k' => by
    unfold v_X5_owns v_X5_isOfGroup
    rw [of', of', Mo _ (by omega)]
  refine ⟨⟨by rw [J0 0 (by omega)]; exact L.1.1, by rw [J0 0 (by omega), Mo 1 (by omega)]; exact L.1.2.1, by rw [J0 1 (by omega), Mo 0 (by omega)]; exact L.1.2.2.1, by rw [J0 2 (by omega), L.1.2.2.2.1]; exact zsu_cong 150 0 (fun j _ _ => (Mo _ (by omega)).symm), fun g' hg' => ?_⟩, ?_, ?_, ?_, ?_, ?_⟩
  · by_cases d : g' = g
    · subst d; rw [zU_s, zupd_s, Mk, zupd_s]
    · rw [J0 _ (by omega), Mo _ (by omega)]; exact L.1.2.2.2.2 g' hg'
  · rw [J0 0 (by omega)]; intro b' hb' k' hk'
    rw [J1, of']; exact L.2.1 b' hb' k' hk'
  · rw [J0 0 (by omega)]; intro b' hb' k' hk'
    rw [ow]; exact L.2.2.1 b' hb' k' hk'
  · intro b' h1 p hp
    rw [Mo _ (by omega), Mo _ (by omega), Mo _ (by omega)]
    exact L.2.2.2.1 b' h1 p hp
  · rw [J0 0 (by omega)]; intro b' h1 h2
    rw [J1]; exact L.2.2.2.2.1 b' h1 h2
  · rw [J0 0 (by omega)]; intro g' hg' k' hk' b' hb' e
    rw [Mo _ (by omega)] at e
    rw [of']; exact L.2.2.2.2.2 g' hg' k' hk' b' hb' e
theorem zI_gsalt (G : zI M) (hg : g < 3) (x : Int32) : zI (zU M 0 (upd (M 0) (2 + g) x)) := by
  unfold zI
  rw [zU_s]
  exact zRow_upd G (by omega) (fun b hb => ⟨by omega, by omega⟩) (by omega)
/-- days -/
theorem zLw_pass (P : zPI Z T M I Q) (yy : Int32) : zLw (v_X5_passes M (zDd yy)).2 (zU (v_L_persons_29 yy 4 0 0 I Q).2.2.1 0 (upd (upd ((v_L_persons_29 yy 4 0 0 I Q).2.2.1 0) 1 (((v_L_persons_29 yy 4 0 0 I Q).2.2.1 0 1) + (nI (zDd yy)))) 2 (((v_L_persons_29 yy 4 0 0 I Q).2.2.1 0 2) + (nI (v_L_persons_29 yy 4 0 0 I Q).1)))) (v_L_persons_29 yy 4 0 0 I Q).2.2.2 := by
  have L := P.2.2.1
  have h := zDd3 yy
  obtain ⟨⟨A, c, S, a1, a2⟩, a3⟩ := z29 P yy 4 0 0 I Q _ _ (by omega) (Nat.zero_le _) (zDs_0 M I Q)
  obtain ⟨e1, e2, e3⟩ := zpassZ P yy
  have dz := (zdays P.2.1 (zcl P.1) (days := zDd yy) (by omega)).1
  generalize (v_L_persons_29 yy 4 0 0 I Q).2.2.1 = I1 at *
  generalize (v_L_persons_29 yy 4 0 0 I Q).2.2.2 = Q1 at *
  generalize (v_L_persons_29 yy 4 0 0 I Q).1 = sum at *
  generalize (v_X5_passes M (zDd yy)).2 = N at *
  generalize zDd yy = D at *
  obtain ⟨d1, d2, d3, d4, d5, d6, d7⟩ := e3
  have Mo : ∀ j, j ≠ 0 → j < 653 → (∀ b, b < 8 → j ≠ 5 + 6 * b + 5) → N 0 j = M 0 j := d2.1
  have J0 : ∀ j, j ≠ 1 → j ≠ 2 → (zU I1 0 (upd (upd (I1 0) 1 (I1 0 1 + nI D)) 2 (I1 0 2 + nI sum))) 0 j = I 0 j := fun j h1 h2 => by
    rw [zU_s, zupd_n _ _ h2, zupd_n _ _ h1, S.1]
  have J1 : (zU I1 0 (upd (upd (I1 0) 1 (I1 0 1 + nI D)) 2 (I1 0 2 + nI sum))) 1 = I1 1 := zU_n _ _ (by decide)
  have of' : ∀ b', b' < 8 → ∀ k', k' < 5 → v_X5_of N b' k' = v_X5_of M b' k' := fun b' h8 k' hk' => Mo _ (by omega) (by omega) (fun b hb => by omega)
  have cb : ∀ b', b' < zNb I → c b' = D * zGc M b' := fun b' hb' => by rw [a2 b', if_pos hb', Nat.zero_add, Nat.sub_zero]
  have cb0 : ∀ b', zNb I ≤ b' → c b' = 0 := fun b' hb' => by rw [a2 b', if_neg (by omega)]
  have Ab : ∀ b' p', p' < 150 → A b' p' = (decide (b' < zNb I) && zEt M b' p') := fun b' p' hp' => by
    rw [a1 b' p' hp', decide_eq_true (show 0 < D by omega), Bool.false_or, Bool.true_and]
  refine ⟨⟨by rw [J0 0 (by decide) (by decide)]; exact L.1.1, by rw [J0 0 (by decide) (by decide), Mo 1 (by decide) (by decide) (fun b hb => by omega)]; exact L.1.2.1, ?_, ?_, fun g hg => by rw [J0 _ (by omega) (by omega), Mo _ (by omega) (by omega) (fun b hb => by omega)]; exact L.1.2.2.2.2 g hg⟩, ?_, ?_, ?_, ?_, ?_⟩
  · rw [zU_s, zupd_n _ _ (by decide), zupd_s, S.1, d3, L.1.2.2.1]
  · rw [zU_s, zupd_s, S.1, L.1.2.2.2.1, ← e1, dz, ← zsu_mul, ← zsu_add]
    exact zsu_cong 150 0 (fun j _ hj => (d5 j (by omega)).symm)
  · rw [J0 0 (by decide) (by decide)]
    intro b' hb' k' hk'
    have b5 := lw_b L hb'
    rw [J1]
    by_cases d : k' = 5
    · subst d
      rw [S.2.2.1 b' b5, lw_of L hb' (by decide), cb b' hb', ← pk_mul]
      show M 0 (5 + (6 * b') + 5) + nI D * nI (zGc M b') = N 0 (5 + (6 * b') + 5)
      rw [d6 b' (by omega), zme_ct]
    · rw [S.2.1 _ (fun b hb => by omega), of' b' (by omega) k' (by omega)]
      exact L.2.1 b' hb' k' hk'
  · rw [J0 0 (by decide) (by decide)]
    intro b' hb' k' hk'
    have b8 : b' < 8 := by have := lw_b L hb'; omega
    have : zLb Q1 0 2 b' k' = zLb Q 0 2 b' k' := by unfold zLb; rw [S.2.2.2.1 0 (by decide)]
    rw [this, L.2.2.1 b' hb' k' hk']
    unfold v_X5_owns v_X5_isOfGroup
    rw [of' b' b8 1 (by decide), of' b' b8 3 (by decide)]
    rcases zgrp P.2.1 b8 with ⟨c9, e⟩ | ⟨c9, g, hg, e⟩
    · rw [e, if_pos rfl]; rfl
    · rw [e, if_neg (zig3 g hg).2.1, if_pos rfl, nI_nat (by omega), Mo _ (by omega) (by omega) (fun b hb => by omega), if_pos rfl]
  · intro b' h1 p hp
    have o := L.2.2.2.1 b' h1 p hp
    have q : ∀ f, f ≠ 3 → zLb Q1 f 3 b' p = zLb Q f 3 b' p := fun f hf => by unfold zLb; rw [S.2.2.2.1 f hf]
    rw [q 1 (by decide), q 2 (by decide), Mo _ (by omega) (by omega) (fun b hb => by omega), Mo (503 + p) (by omega) (by omega) (fun b hb => by omega), S.2.2.2.2.1 b' p hp, Ab b' p hp, d4 p hp, if_neg (by omega), b_or, zbo' P.2.1 (by omega), lw_nM L]
    exact ⟨o.1, o.2.1, by rw [o.2.2]⟩
  · rw [J0 0 (by decide) (by decide)]
    intro b' h1 h2
    have h1' : zNb I ≤ b' := h1
    have o := L.2.2.2.2.1 b' h1 h2
    have q : ∀ f w k', f ≠ 3 → zLb Q1 f w b' k' = zLb Q f w b' k' := fun f w k' hf => by unfold zLb; rw [S.2.2.2.1 f hf]
    rw [J1, S.2.1 (6 * b' + 3) (fun b hb => by omega), S.2.2.1 b' h2, cb0 b' h1']
    refine ⟨⟨o.1.1, by rw [o.1.2]; rfl⟩, fun k' hk' => by rw [q 0 2 k' (by decide)]; exact o.2.1 k' hk', fun p' hp' => ?_⟩
    have o2 := o.2.2 p' hp'
    refine ⟨by rw [q 1 3 p' (by decide)]; exact o2.1, by rw [q 2 3 p' (by decide)]; exact o2.2.1, ?_⟩
    rw [S.2.2.2.2.1 b' p' hp', Ab b' p' hp', o2.2.2, decide_eq_false (show ¬ b' < zNb I by omega)]; rfl
  · rw [J0 0 (by decide) (by decide)]
    intro g hg k' hk' b' hb' e
    rw [Mo _ (by omega) (by omega) (fun b hb => by omega)] at e
    rw [of' b' (by have := lw_b L hb'; omega) 1 (by decide)]
    exact L.2.2.2.2.2 g hg k' hk' b' hb' e
end PR
