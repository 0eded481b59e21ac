/-! what stays behind each act -/
def zN3 (I : Nat → Nat → Int32) : Int32 := if 6 ≤ I 0 3 then I 0 3 else I 0 3 + 1
section PQ
variable {Z T0 T1 T2 T3 T4 T5 T T' M M' I J : Nat → Nat → Int32} {Q Q' : Nat → Nat → Int64} {b p sh n : Nat} {xx yy mx x gr sal st : Int32} {q q1 q2 : Bool}
theorem zLw_ext (h0 : ∀ j, j ≠ 3 → I 0 j = J 0 j) (h1 : ∀ j, I 1 j = J 1 j) (L : zLw M J Q) : zLw M I Q := by
  have e : I 0 0 = J 0 0 := h0 0 (by decide)
  have nb : zNb I = zNb J := by show (I 0 0).toNatClampNeg = (J 0 0).toNatClampNeg; rw [e]
  refine ⟨⟨by rw [e]; exact L.1.1, by rw [e]; exact L.1.2.1, by rw [h0 1 (by decide)]; exact L.1.2.2.1, by rw [h0 2 (by decide)]; exact L.1.2.2.2.1, fun g hg => by rw [h0 _ (by omega)]; exact L.1.2.2.2.2 g hg⟩, ?_, ?_, L.2.2.2.1, ?_, ?_⟩
  · intro b hb k hk; rw [h1]; exact L.2.1 b (by rw [← e]; exact hb) k hk
  · intro b hb; exact L.2.2.1 b (by rw [← e]; exact hb)
  · intro b h2 h3
    have o := L.2.2.2.2.1 b (by rw [← e]; exact h2) h3
    exact ⟨by rw [h1, h1]; exact o.1, o.2⟩
  · intro g hg k hk b hb; exact L.2.2.2.2.2 g hg k hk b (by rw [← e]; exact hb)
theorem zsaveZ (P : zPI Z T M I Q) : vp_in ((v_X1_save Z T0 T1 T2 T3 T4 T5 T).1 0 0) 7 ∧ vp_in ((v_X1_save Z T0 T1 T2 T3 T4 T5 T).1 1 0) 6 ∧ (v_X1_save Z T0 T1 T2 T3 T4 T5 T).1 0 0 = zN3 I := by
  obtain ⟨Z', U0, U1, U2, U3, U4, U5, es, h⟩ := zsv1 (T0 := T0) (T1 := T1) (T2 := T2) (T3 := T3) (T4 := T4) (T5 := T5) (T := T) P.2.2.2.1 P.2.2.2.2.1
  rw [es]
  show vp_in (Z' 0 0) 7 ∧ vp_in (Z' 1 0) 6 ∧ Z' 0 0 = zN3 I
  unfold zN3
  rw [P.2.2.2.2.2]
  obtain ⟨j, hj, e⟩ := vp_in_of P.2.2.2.1 (by decide)
  rcases h with ⟨a, a1, a2, _⟩ | ⟨a, a1, a2, _⟩
  · rw [a1, a2, a, if_pos (by decide)]
    exact ⟨vp_in_nI (n := 6) (by decide) (by decide), vp_in_nI (Nat.mod_lt _ (by decide)) (by decide), rfl⟩
  · rw [a1, a2]
    have j6 : j ≠ 6 := fun z => a (by rw [e, z]; rfl)
    have lt : ¬ (6 : Int32) ≤ Z 0 0 := by
      rw [e]; exact fun z => by have := (zlei (a := 6) (by decide) (by omega)).mp z; omega
    rw [if_neg lt, e, nI_1]
    exact ⟨vp_in_nI (by omega) (by decide), P.2.2.2.2.1, rfl⟩
theorem zPI_mk (P : zPI Z T M I Q) (R : zTw T' (M' 0)) (G : zI M') (L : zLw M' J Q') (h3 : J 0 3 = zN3 I) : zPI (v_X1_save Z T0 T1 T2 T3 T4 T5 T).1 T' M' J Q' := by
  have s := zsaveZ (T0 := T0) (T1 := T1) (T2 := T2) (T3 := T3) (T4 := T4) (T5 := T5) P
  exact ⟨R, G, L, s.1, s.2.1, by rw [h3, s.2.2]⟩
theorem zN3_y (c : (6 : Int32) ≤ I 0 3) : I 0 3 = zN3 I := by unfold zN3; rw [if_pos c]
theorem zN3_n (c : ¬ (6 : Int32) ≤ I 0 3) : I 0 3 + 1 = zN3 I := by unfold zN3; rw [if_neg c]
/-- a bread is opened -/
theorem zopI (P : zPI Z T M I Q) (hn : zNb I < 5) (hg : zgr gr) (sal : Int32) (q : Bool) : zI (zU M 0 (zOpR (M 0) (zNb I) gr sal q)) := by
  obtain ⟨n, hN⟩ : ∃ n, n = zNb I := ⟨_, rfl⟩
  rw [← hN] at hn ⊢
  obtain ⟨a0, a1, a2, a3, a4, a5, a6⟩ := zOpR_at (M 0) n gr sal q
  have po : ∀ j, j ≠ 1 → (j < 5 + 6 * n ∨ 5 + 6 * n + 6 ≤ j) → zOpR (M 0) n gr sal q j = M 0 j := fun j h1 h2 => zOpR_n _ _ _ _ _ h1 h2
  have e1 : M 0 1 = nI n := by rw [← P.2.2.1.1.2.1, hN]; exact (lw_n P.2.2.1).1
  have nbM : (M 0 1).toNatClampNeg = n := by rw [e1, nI_nat (by omega)]
  have nb1 : zOpR (M 0) n gr sal q 1 = nI (n + 1) := by rw [a6, e1, nI_1]
  have G := P.2.1
  unfold zI
  rw [zU_s]
  refine ⟨by rw [nb1]; exact vp_in_nI (by omega) (by decide), fun b hb => ?_, fun k hk => ?_⟩
  · obtain ⟨r1, r2, r3⟩ := G.2.1 b hb
    by_cases d : b = n
    · subst d
      rw [a1, a3]
      refine ⟨hg, (vp_in_nI (by decide) (by decide) : vp_in (nI 0) 101), fun hg => ?_⟩
      have hg2 := (znat hg).2
      have z : zct (zOpR (M 0) b gr sal q) (nI b) (53 + 100 * gr.toNatClampNeg) 100 = 0 := by
        rcases Nat.eq_zero_or_pos (zct (zOpR (M 0) b gr sal q) (nI b) (53 + 100 * gr.toNatClampNeg) 100) with z | z
        · exact z
        · obtain ⟨k, hk, e⟩ := zct_pos _ _ _ _ z
          rw [po _ (by omega) (by omega), show 53 + 100 * gr.toNatClampNeg + k = 53 + (100 * gr.toNatClampNeg + k) by omega] at e
          rcases G.2.2 (100 * gr.toNatClampNeg + k) (by omega) with f | ⟨b', hb', f⟩
          · rw [f] at e; exact absurd e.symm (nI_ne1 hb)
          · rw [f] at e
            have e2 := congrArg Int32.toNatClampNeg e
            rw [nI_nat (by omega), nI_nat (by omega)] at e2; omega
      rw [z]; rfl
    · rw [po (5 + 6 * b + 1) (by omega) (by omega), po (5 + 6 * b + 3) (by omega) (by omega)]
      refine ⟨r1, r2, fun hg => ?_⟩
      have hg2 := (znat hg).2
      rw [r3 hg]
      exact zct_congr _ _ _ (fun k hk => (po _ (by omega) (by omega)).symm)
  · rw [po _ (by omega) (by omega), nb1, nI_nat (by omega)]
    rcases G.2.2 k hk with f | ⟨b', hb', f⟩
    · exact Or.inl f
    · exact Or.inr ⟨b', by omega, f⟩
def zJop (I : Nat → Nat → Int32) (n : Nat) (gr sal st : Int32) : Nat → Nat → Int32 := zU (zU I 0 (upd (I 0) 0 (I 0 0 + 1))) 1 (upd (upd (upd (upd (I 1) (6 * n) 1) (6 * n + 1) gr) (6 * n + 2) sal) (6 * n + 4) st)
theorem zLw_open (P : zPI Z T M I Q) (hn : zNb I < 5) (hgr : zgr gr) (sal : Int32) (q : Bool) (hst : st = bI q) : zLw (zU M 0 (zOpR (M 0) (zNb I) gr sal q)) (zJop I (zNb I) gr sal st) Q := by
  have L := P.2.2.1
  have G := P.2.1
  have n5 := hn
  obtain ⟨n, hN⟩ : ∃ n, n = zNb I := ⟨_, rfl⟩
  rw [← hN] at hn ⊢
  obtain ⟨a0, a1, a2, a3, a4, a5, a6⟩ := zOpR_at (M 0) n gr sal q
  have po : ∀ j, j ≠ 1 → (j < 5 + 6 * n ∨ 5 + 6 * n + 6 ≤ j) → zOpR (M 0) n gr sal q j = M 0 j := fun j h1 h2 => zOpR_n _ _ _ _ _ h1 h2
  have e0 : I 0 0 = nI n := by rw [hN]; exact (lw_n L).1
  have e1 : M 0 1 = nI n := by rw [← L.1.2.1, e0]
  have nbM : (M 0 1).toNatClampNeg = n := by rw [e1, nI_nat (by omega)]
  have J0 : zJop I n gr sal st 0 = upd (I 0) 0 (I 0 0 + 1) := by unfold zJop; rw [zU_n _ _ (by decide), zU_s]
  have J1 : zJop I n gr sal st 1 = upd (upd (upd (upd (I 1) (6 * n) 1) (6 * n + 1) gr) (6 * n + 2) sal) (6 * n + 4) st := by unfold zJop; rw [zU_s]
  have Jo : ∀ j, (j < 6 * n ∨ 6 * n + 5 ≤ j ∨ j = 6 * n + 3) → zJop I n gr sal st 1 j = I 1 j := fun j hj => by
    rw [J1, zupd_n _ _ (by omega), zupd_n _ _ (by omega), zupd_n _ _ (by omega), zupd_n _ _ (by omega)]
  have J00 : zJop I n gr sal st 0 0 = nI (n + 1) := by rw [J0, zupd_s, e0, nI_1]
  have nbJ : zNb (zJop I n gr sal st) = n + 1 := by show (zJop I n gr sal st 0 0).toNatClampNeg = n + 1; rw [J00, nI_nat (by omega)]
  have Jk : ∀ j, j ≠ 0 → zJop I n gr sal st 0 j = I 0 j := fun j hj => by rw [J0, zupd_n _ _ hj]
  have new := L.2.2.2.2.1 n (by show zNb I ≤ n; omega) hn
  have Mk : ∀ j, (zU M 0 (zOpR (M 0) n gr sal q)) 0 j = zOpR (M 0) n gr sal q j := fun j => by rw [zU_s]
  have of' : ∀ b, b ≠ n → b < 8 → ∀ k, k < 6 → v_X5_of (zU M 0 (zOpR (M 0) n gr sal q)) b k = v_X5_of M b k := fun b hb h8 k hk => by
    unfold v_X5_of; rw [Mk, po _ (by omega) (by omega)]
  have ofn : ∀ k, v_X5_of (zU M 0 (zOpR (M 0) n gr sal q)) n k = zOpR (M 0) n gr sal q (5 + 6 * n + k) := fun k => by unfold v_X5_of; rw [Mk]
  have ent : ∀ k, k < 300 → ∀ b, M 0 (53 + k) = nI b → b < 100 → b < n := fun k hk b hb h100 => by
    rcases G.2.2 k hk with f | ⟨b', hb', f⟩
    · rw [f] at hb; exact absurd hb.symm (fun z => by
        rcases Nat.lt_or_ge b 5 with y | y
        · exact zm1n y z.symm
        · exact absurd z.symm ((by decide : ∀ b, b < 100 → ¬ (-1 : Int32) = nI b) b h100))
    · rw [f] at hb
      have := zIeq (by omega) (by omega) hb
      omega
  refine ⟨⟨by rw [J00]; exact vp_in_nI (by omega) (by decide), by rw [J00, Mk, a6, e1, nI_1], by rw [Jk 1 (by decide), Mk, po 0 (by decide) (by omega)]; exact L.1.2.2.1, ?_, fun g hg => by rw [Jk _ (by omega), Mk, po _ (by omega) (by omega)]; exact L.1.2.2.2.2 g hg⟩, ?_, ?_, ?_, ?_, ?_⟩
  · rw [Jk 2 (by decide), L.1.2.2.2.1]
    exact zsu_cong 150 0 (fun j _ _ => by rw [Mk, po _ (by omega) (by omega)])
  · intro b hb k hk
    rw [show ((zJop I n gr sal st) 0 0).toNatClampNeg = n + 1 from nbJ] at hb
    by_cases d : b = n
    · subst d
      rw [ofn]
      have k6 : k = 0 ∨ k = 1 ∨ k = 2 ∨ k = 3 ∨ k = 4 ∨ k = 5 := by omega
      rcases k6 with rfl | rfl | rfl | rfl | rfl | rfl
      · rw [a0, J1, zupd_n _ _ (by omega), zupd_n _ _ (by omega), zupd_n _ _ (by omega)]; exact zupd_s _ _ _
      · rw [a1, J1, zupd_n _ _ (by omega), zupd_n _ _ (by omega), zupd_s]
      · rw [a2, J1, zupd_n _ _ (by omega), zupd_s]
      · rw [a3, Jo _ (by omega)]; exact new.1.1
      · rw [a4, J1, zupd_s]; exact hst
      · rw [a5, Jo _ (by omega)]; exact new.1.2
    · rw [of' b d (by omega) k hk, Jo _ (by omega)]
      exact L.2.1 b (by show b < zNb I; omega) k hk
  · intro b hb k hk
    rw [show ((zJop I n gr sal st) 0 0).toNatClampNeg = n + 1 from nbJ] at hb
    by_cases d : b = n
    · subst d
      rw [new.2.1 k hk]
      unfold v_X5_owns v_X5_isOfGroup
      rw [ofn, ofn, a1, a3]
      by_cases c : gr = -1
      · rw [if_pos c, if_neg (by decide), if_pos (show (0 : Int32) ≤ nI k by rw [Int32.le_iff_toInt_le, nI_toInt (by omega)]; exact Int.natCast_nonneg k)]
      · have g3 := (znat (hgr.resolve_left c)).2
        rw [if_neg c, if_pos rfl, Mk, po _ (by omega) (by omega), if_neg (fun z => by
            rw [show 53 + 100 * gr.toNatClampNeg + k = 53 + (100 * gr.toNatClampNeg + k) by omega] at z
            have := ent _ (by omega) b z (by omega)
            omega)]
    · rw [L.2.2.1 b (by show b < zNb I; omega) k hk]
      unfold v_X5_owns v_X5_isOfGroup
      rw [of' b d (by omega) 1 (by decide), of' b d (by omega) 3 (by decide)]
      rcases zgrp G (show b < 8 by omega) with ⟨c, e⟩ | ⟨c, g, hg, e⟩
      · rw [e, if_pos rfl]; rfl
      · rw [e, if_neg (zig3 g hg).2.1, if_pos rfl, nI_nat (by omega), Mk, po _ (by omega) (by omega), if_pos rfl]
  · intro b h1 p hp
    rw [Mk, Mk, Mk, po _ (by omega) (by omega), po _ (by omega) (by omega), po _ (by omega) (by omega)]
    exact L.2.2.2.1 b h1 p hp
  · intro b h1 h2
    rw [show ((zJop I n gr sal st) 0 0).toNatClampNeg = n + 1 from nbJ] at h1
    have o := L.2.2.2.2.1 b (by show zNb I ≤ b; omega) h2
    exact ⟨by rw [Jo _ (by omega), Jo _ (by omega)]; exact o.1, o.2⟩
  · intro g hg k hk b hb e
    rw [show ((zJop I n gr sal st) 0 0).toNatClampNeg = n + 1 from nbJ] at hb
    rw [Mk, po _ (by omega) (by omega)] at e
    have bn : b < n := ent (100 * g + k) (by omega) b (by rw [show 53 + (100 * g + k) = 53 + 100 * g + k by omega]; exact e) (by omega)
    rw [of' b (by omega) (by omega) 1 (by decide)]
    exact L.2.2.2.2.2 g hg k hk b (by show b < zNb I; omega) e
end PQ
