/-! the law's share and the model's -/
def zVf (T : Nat → Nat → Int32) (b k : Nat) : Int32 := if zOw T b k = true then nI b else if zFr T b k = true then -1 else nI 9
section SHM
variable {M I T : Nat → Nat → Int32} {Q : Nat → Nat → Int64} {b p sh : Nat}
theorem znI9 {b : Nat} (hb : b < 5) : nI 9 ≠ nI b ∧ nI 9 ≠ -1 := ⟨(by decide : ∀ b, b < 5 → nI 9 ≠ nI b) b hb, by decide⟩
theorem zvf_b (R : zTw T (M 0)) (G : zI M) (hb : b < 5) {k : Nat} (hk : k < 100) : zq (zVf T b) (nI b) k = zOw T b k ∧ zq (zVf T b) (-1) k = zFr T b k := by
  unfold zq zVf
  have h9 := znI9 hb
  have h1 := zm1n hb
  by_cases c : zOw T b k = true
  · have d := zof_dis R G (show b < 8 by omega) hk c
    rw [if_pos c, c, d]
    exact ⟨decide_eq_true rfl, decide_eq_false (fun z => h1 z.symm)⟩
  · rw [if_neg c]
    have c' : zOw T b k = false := by simpa using c
    by_cases d : zFr T b k = true
    · rw [if_pos d, c', d]; exact ⟨decide_eq_false h1, decide_eq_true rfl⟩
    · have d' : zFr T b k = false := by simpa using d
      rw [if_neg d, c', d']; exact ⟨decide_eq_false h9.1, decide_eq_false h9.2⟩
theorem zvf_ct (R : zTw T (M 0)) (G : zI M) (hb : b < 5) {n : Nat} (hn : n ≤ 100) : fb_ct (zq (zVf T b) (nI b)) n = fb_ct (zOw T b) n ∧ fb_ct (zq (zVf T b) (-1)) n = fb_ct (zFr T b) n :=
  ⟨fb_ct_cong (fun k hk => (zvf_b R G hb (by omega)).1), fb_ct_cong (fun k hk => (zvf_b R G hb (by omega)).2)⟩
theorem zIeq {a b : Nat} (ha : a < 2 ^ 31) (hb : b < 2 ^ 31) (h : nI a = nI b) : a = b := by
  have := congrArg Int32.toNatClampNeg h
  rwa [nI_nat ha, nI_nat hb] at this
theorem zgrp (G : zI M) (hb : b < 8) : (v_X5_isOfGroup M b = false ∧ v_X5_of M b 1 = -1) ∨ (v_X5_isOfGroup M b = true ∧ ∃ g, g < 3 ∧ v_X5_of M b 1 = nI g) := by
  unfold v_X5_isOfGroup
  rcases zI_G G b hb with h | h
  · have h2 : v_X5_of M b 1 = -1 := h
    left; rw [h2, if_pos rfl]; exact ⟨rfl, rfl⟩
  · obtain ⟨j, hj, e⟩ := vp_in_of h (by decide)
    have h2 : v_X5_of M b 1 = nI j := e
    right; rw [h2, if_neg (zig3 j hj).2.1]; exact ⟨rfl, j, hj, rfl⟩
theorem zSh0_of (R : zTw T (M 0)) (G : zI M) (L : zLw M I Q) (hb : b < zNb I) : zSh0 (I 1 (6 * b + 1)) I Q b (zVf T b) := by
  have b5 := lw_b L hb
  refine ⟨L.1.1, hb, rfl, fun j hj => ?_⟩
  have e1 := (zvf_b R G b5 hj).1
  have e2 := (zvf_b R G b5 hj).2
  have f1 : (zVf T b j = nI b) ↔ zOw T b j = true := by rw [← e1]; exact zq_t.symm
  have f2 : (zVf T b j = -1) ↔ zFr T b j = true := by rw [← e2]; exact zq_t.symm
  rw [f1, f2, lw_of L hb (by decide)]
  unfold zOth
  rcases zgrp G (show b < 8 by omega) with ⟨c, e⟩ | ⟨c, g, hg, e⟩
  · obtain ⟨u1, u2⟩ := zou_own R G (show b < 8 by omega) (by rw [c]; decide) hj
    rw [e, u1, u2]
    constructor
    · intro _
      by_cases d : j < zSh M b
      · right; rw [decide_eq_true d]
      · left; rw [decide_eq_false d]; rfl
    · intro _ z; exact absurd z (by decide)
  · obtain ⟨u1, u2⟩ := zog_own R G (show b < 8 by omega) c hj
    have eg : zGo M b = 53 + 100 * g := by show 53 + 100 * (v_X5_of M b 1).toNatClampNeg = _; rw [e, nI_nat (by omega)]
    have o1 : zOw T b j = true ↔ M 0 (53 + 100 * g + j) = nI b := by rw [u1, zq_t]; show M 0 (zGo M b + j) = nI b ↔ _; rw [eg]
    have o2 : zFr T b j = true ↔ M 0 (53 + 100 * g + j) = -1 := by rw [u2, zq_t]; show M 0 (zGo M b + j) = -1 ↔ _; rw [eg]
    rw [o1, o2, e]
    constructor
    · intro a
      have a := a (by rw [Int32.le_iff_toInt_le, nI_toInt (by omega)]; exact Int.natCast_nonneg g)
      rcases G.2.2 (100 * g + j) (by omega) with h | ⟨b0, h1, h2⟩
      · left; rw [← h]; congr 1; omega
      · have h2 : M 0 (53 + 100 * g + j) = nI b0 := by rw [← h2]; congr 1; omega
        have h1 : b0 < zNb I := by rw [← lw_nM L]; exact h1
        have hgr := L.2.2.2.2.2 g hg j hj b0 h1 h2
        by_cases d : b0 = b
        · right; rw [h2, d]
        · refine absurd ⟨?_, ?_⟩ (a b0 h1 d)
          · rw [lw_of L h1 (by decide)]; exact hgr
          · rw [lw_own L h1 hg hj hgr, h2]; simp
    · intro a _ j' h1 h2
      rintro ⟨c1, c2⟩
      rw [lw_of L h1 (by decide)] at c1
      rw [lw_own L h1 hg hj c1] at c2
      have c3 : M 0 (53 + 100 * g + j) = nI j' := by simpa using c2
      have j5 := lw_b L h1
      rcases a with a | a
      · rw [a] at c3; exact absurd c3 (zm1n j5)
      · rw [a] at c3; exact h2 (zIeq (by omega) (by omega) c3).symm
theorem zsh_of (L : zLw M I Q) (G : zI M) (hb : b < zNb I) : I 1 (6 * b + 3) = nI (zSh M b) ∧ zSh M b ≤ 100 := by
  have b5 := lw_b L hb
  have h := znat (show vp_in (v_X5_of M b 3) 101 from (G.2.1 b (by omega)).2.1)
  exact ⟨by rw [lw_of L hb (by decide)]; exact h.1, by show (v_X5_of M b 3).toNatClampNeg ≤ 100; have := h.2; omega⟩
theorem zSx_of (R : zTw T (M 0)) (G : zI M) (L : zLw M I Q) (hb : b < zNb I) : zSx I Q b (zVf T b) I Q := by
  have b5 := lw_b L hb
  refine ⟨rfl, fun _ _ => rfl, fun _ _ => rfl, fun _ _ _ _ => rfl, fun j hj => ?_, ?_⟩
  · have := (zvf_b R G b5 hj).1
    rw [L.2.2.1 b hb j hj, ← eq_owns R G (by omega) hj]
    exact this.symm
  · rw [(zvf_ct R G b5 (Nat.le_refl 100)).1, (zsh_of L G hb).1]
    exact congrArg nI (zSn_sh R G (by omega)).symm
theorem zhm (R : zTw T (M 0)) (G : zI M) (hb : b < 5) (h : sh ≤ zSn T b + zFn T b) : sh ≤ fb_ct (zq (zVf T b) (nI b)) 100 + fb_ct (zq (zVf T b) (-1)) 100 := by
  have := zvf_ct R G hb (Nat.le_refl 100)
  rw [this.1, this.2]; exact h
theorem zSw_of (R : zTw T (M 0)) (G : zI M) (L : zLw M I Q) (hb : b < zNb I) (h : sh ≤ zSn T b + zFn T b) : zSw (I 1 (6 * b + 1)) I Q b sh :=
  ⟨_, zSh0_of R G L hb, zSx_of R G L hb, zhm R G (lw_b L hb) h⟩
/-- the shared row, bucket by bucket -/
theorem zvf_in (R : zTw T (M 0)) (G : zI M) (hb : b < 5) {k : Nat} (hk : k < 100) :
    decide ((if fb_ct (zq (zVf T b) (nI b)) 100 ≤ sh then zUp b (sh - fb_ct (zq (zVf T b) (nI b)) 100) (zVf T b) else zDn b (fb_ct (zq (zVf T b) (nI b)) 100 - sh) (zVf T b)) k = nI b) = zin T b sh k := by
  have h9 := znI9 hb
  have hm := zm1n hb
  have ct := zvf_ct R G hb (Nat.le_refl 100)
  have ctk := zvf_ct R G hb (show k ≤ 100 by omega)
  have ctk1 := zvf_ct R G hb (show k + 1 ≤ 100 by omega)
  have e1 := (zvf_b R G hb hk).1
  have e2 := (zvf_b R G hb hk).2
  have f1 : (zVf T b k = nI b) ↔ zOw T b k = true := by rw [← e1]; exact zq_t.symm
  have f2 : (zVf T b k = -1) ↔ zFr T b k = true := by rw [← e2]; exact zq_t.symm
  have up : zOw T b k = true → fb_ct (zOw T b) k < fb_ct (zOw T b) 100 := fun h => by
    have := fb_ct_mono (zOw T b) (show k + 1 ≤ 100 by omega)
    rw [fb_ct_succ, h] at this
    simp at this; omega
  unfold zin
  rw [ct.1]
  show _ = (zOw T b k && decide (fb_ct (zOw T b) k < sh) || zFr T b k && decide (fb_ct (zOw T b) 100 + fb_ct (zFr T b) k < sh))
  by_cases c : fb_ct (zOw T b) 100 ≤ sh
  · rw [if_pos c]
    unfold zUp
    rw [ctk.2]
    by_cases o : zOw T b k = true
    · have nf : ¬ zVf T b k = -1 := fun z => by rw [f1.mpr o] at z; exact hm z.symm
      rw [if_neg (fun z => nf z.1), f1.mpr o, o, decide_eq_true rfl, decide_eq_true (show fb_ct (zOw T b) k < sh by have := up o; omega)]; rfl
    · have o' : zOw T b k = false := by simpa using o
      rw [o', Bool.false_and, Bool.false_or]
      by_cases fr : zFr T b k = true
      · rw [fr, Bool.true_and]
        by_cases d : fb_ct (zFr T b) k < sh - fb_ct (zOw T b) 100
        · rw [if_pos ⟨f2.mpr fr, d⟩, decide_eq_true rfl, decide_eq_true (show fb_ct (zOw T b) 100 + fb_ct (zFr T b) k < sh by omega)]
        · rw [if_neg (fun z => d z.2), decide_eq_false (fun z => o (f1.mp z)), decide_eq_false (show ¬ fb_ct (zOw T b) 100 + fb_ct (zFr T b) k < sh by omega)]
      · have fr' : zFr T b k = false := by simpa using fr
        rw [fr', Bool.false_and, if_neg (fun z => fr (f2.mp z.1)), decide_eq_false (fun z => o (f1.mp z))]
  · rw [if_neg c]
    unfold zDn
    rw [ct.1, ctk1.1, decide_eq_false (show ¬ fb_ct (zOw T b) 100 + fb_ct (zFr T b) k < sh by omega), Bool.and_false, Bool.or_false]
    by_cases o : zOw T b k = true
    · rw [o, Bool.true_and, fb_ct_succ (zOw T b) k, o, if_pos rfl]
      by_cases d : fb_ct (zOw T b) k < sh
      · rw [if_neg (fun z => by have := z.2; omega), decide_eq_true d, decide_eq_true (f1.mpr o)]
      · rw [if_pos ⟨f1.mpr o, by omega⟩, decide_eq_false d, decide_eq_false hm]
    · have o' : zOw T b k = false := by simpa using o
      rw [o', Bool.false_and, if_neg (fun z => o (f1.mp z.1)), decide_eq_false (fun z => o (f1.mp z))]
theorem zup_oth {b b' m : Nat} (hb : b < 5) (hb' : b' < 5) (ne : b' ≠ b) (f : Nat → Int32) (j : Nat) : (zUp b m f j = nI b' ↔ f j = nI b') ∧ (zDn b m f j = nI b' ↔ f j = nI b') := by
  have n1 : nI b ≠ nI b' := fun z => ne (zIeq (by omega) (by omega) z).symm
  unfold zUp zDn
  constructor
  · by_cases c : f j = -1 ∧ fb_ct (zq f (-1)) j < m
    · rw [if_pos c, c.1]; exact ⟨fun z => absurd z n1, fun z => absurd z (zm1n hb')⟩
    · rw [if_neg c]
  · by_cases c : f j = nI b ∧ fb_ct (zq f (nI b)) 100 < fb_ct (zq f (nI b)) (j + 1) + m
    · rw [if_pos c, c.1]; exact ⟨fun z => absurd z (zm1n hb'), fun z => absurd z n1⟩
    · rw [if_neg c]
theorem zup_from {b m : Nat} {f : Nat → Int32} {j : Nat} {x : Int32} (hx : x ≠ -1) : (zUp b m f j = x → f j = x ∨ x = nI b) ∧ (zDn b m f j = x → f j = x ∨ x = nI b) := by
  unfold zUp zDn
  constructor
  · by_cases c : f j = -1 ∧ fb_ct (zq f (-1)) j < m
    · rw [if_pos c]; exact fun z => Or.inr z.symm
    · rw [if_neg c]; exact Or.inl
  · by_cases c : f j = nI b ∧ fb_ct (zq f (nI b)) 100 < fb_ct (zq f (nI b)) (j + 1) + m
    · rw [if_pos c]; exact fun z => absurd z.symm hx
    · rw [if_neg c]; exact Or.inl
/-- the model's owners behind setShare: entries of a group -/
theorem zsm_own (G : zI M) (hb : b < 5) (hto : sh ≤ 100) (room : zRoom M b sh) {g k : Nat} (hg : g < 3) (hk : k < 100) :
    v_X5_setShare M b sh 0 (53 + 100 * g + k) = M 0 (53 + 100 * g + k) ∨ (v_X5_of M b 1 = nI g ∧ ∃ m, v_X5_setShare M b sh 0 (53 + 100 * g + k) = zUp b m (zBk M b M) k ∨ v_X5_setShare M b sh 0 (53 + 100 * g + k) = zDn b m (zBk M b M) k) := by
  rcases zgrp G (show b < 8 by omega) with ⟨c, e⟩ | ⟨c, g0, hg0, e⟩
  · left
    have hs := (znat (show vp_in (v_X5_of M b 3) 101 from (G.2.1 b (by omega)).2.1)).2
    rw [zow0 (by omega) hto (show zSh M b ≤ 100 by have h : zSh M b < 101 := hs; omega) (by rw [c]; decide)]
    unfold v_X5_put; rw [zU_s, zupd_n _ _ (by omega)]
  · have eg : zGo M b = 53 + 100 * g0 := by show 53 + 100 * (v_X5_of M b 1).toNatClampNeg = _; rw [e, nI_nat (by omega)]
    obtain ⟨w1, w2⟩ := zow (show b < 8 by omega) G hto c room
    by_cases d : g = g0
    · subst d
      right
      refine ⟨e, ?_⟩
      have := w1 k hk
      have h2 : v_X5_setShare M b sh 0 (53 + 100 * g + k) = if zSh M b ≤ sh then zUp b (sh - zSh M b) (zBk M b M) k else zDn b (zSh M b - sh) (zBk M b M) k := by
        rw [← this]; show _ = v_X5_setShare M b sh 0 (zGo M b + k); rw [eg]
      by_cases q : zSh M b ≤ sh
      · rw [if_pos q] at h2; exact ⟨_, Or.inl h2⟩
      · rw [if_neg q] at h2; exact ⟨_, Or.inr h2⟩
    · left
      exact w2 _ (by rw [eg]; omega) (by omega)
theorem zsm_oth (G : zI M) (hb : b < 5) (hto : sh ≤ 100) (room : zRoom M b sh) {g k b' : Nat} (hg : g < 3) (hk : k < 100) (hb' : b' < 5) (ne : b' ≠ b) : v_X5_setShare M b sh 0 (53 + 100 * g + k) = nI b' ↔ M 0 (53 + 100 * g + k) = nI b' := by
  rcases zsm_own G hb hto room hg hk with h | ⟨e, m, h⟩
  · rw [h]
  · have eg : zGo M b = 53 + 100 * g := by show 53 + 100 * (v_X5_of M b 1).toNatClampNeg = _; rw [e, nI_nat (by omega)]
    have ek : zBk M b M k = M 0 (53 + 100 * g + k) := by show M 0 (zGo M b + k) = _; rw [eg]
    rcases h with h | h
    · rw [h, (zup_oth hb hb' ne _ k).1, ek]
    · rw [h, (zup_oth hb hb' ne _ k).2, ek]
theorem zLw_share (R : zTw T (M 0)) (G : zI M) (L : zLw M I Q) (hb : b < zNb I) (hto : sh ≤ 100) (h : sh ≤ zSn T b + zFn T b) : zLw (v_X5_setShare M b sh) (v_L_share I Q b sh).1 (v_L_share I Q b sh).2 := by
  have b5 := lw_b L hb
  have room : zRoom M b sh := (zrm_iff R G (by omega) hto).mpr h
  have hbr : b < (M 0 1).toNatClampNeg := by rw [lw_nM L]; exact hb
  obtain ⟨k1, k2, k3, k4, k5⟩ := zss (show b < 8 by omega) G hbr hto room
  obtain ⟨S, sh3⟩ := lq_share hto rfl (zSh0_of R G L hb) (zSx_of R G L hb) (zhm R G b5 h)
  have nb : ∀ J : Nat → Nat → Int32, J 0 = I 0 → zNb J = zNb I := fun J e => by show (J 0 0).toNatClampNeg = (I 0 0).toNatClampNeg; rw [e]
  have nbI := nb _ S.1
  have of' : ∀ b', b' < 5 → ∀ k, k < 6 → ¬ (b' = b ∧ k = 3) → v_X5_of (v_X5_setShare M b sh) b' k = v_X5_of M b' k := fun b' h1 k h2 h3 => k2 _ (by omega) (by omega)
  refine ⟨⟨by rw [S.1]; exact L.1.1, by rw [S.1, k2 1 (by decide) (by omega)]; exact L.1.2.1, by rw [S.1, k2 0 (by decide) (by omega)]; exact L.1.2.2.1, ?_, fun g hg => by rw [S.1, k2 (2 + g) (by omega) (by omega)]; exact L.1.2.2.2.2 g hg⟩, ?_, ?_, ?_, ?_, ?_⟩
  · rw [S.1, L.1.2.2.2.1]
    exact zsu_cong 150 0 (fun j _ _ => (k4 _ (by omega)).symm)
  · intro b' hb' k hk
    rw [show ((v_L_share I Q b sh).1 0 0).toNatClampNeg = zNb I from nbI] at hb'
    have b5' := lw_b L hb'
    by_cases d : b' = b ∧ k = 3
    · rw [d.1, d.2, sh3]; exact k3.symm
    · rw [of' b' b5' k hk d, S.2.1 _ (by omega)]; exact lw_of L hb' hk
  · intro b' hb' k hk
    rw [show ((v_L_share I Q b sh).1 0 0).toNatClampNeg = zNb I from nbI] at hb'
    have b5' := lw_b L hb'
    by_cases d : b' = b
    · subst d
      rw [S.2.2.2.2.1 k hk, zowS R G (by omega) hbr hto room hk]
      exact zvf_in R G b5 hk
    · rw [S.2.2.2.1 b' k d hk, L.2.2.1 b' hb' k hk]
      unfold v_X5_owns v_X5_isOfGroup
      rw [of' b' b5' 1 (by decide) (fun z => d z.1), of' b' b5' 3 (by decide) (fun z => d z.1)]
      rcases zgrp G (show b' < 8 by omega) with ⟨c, e⟩ | ⟨c, g, hg, e⟩
      · rw [e, if_pos rfl]; rfl
      · rw [e, if_neg (zig3 g hg).2.1, if_pos rfl, nI_nat (by omega)]
        have z := zsm_oth G b5 hto room hg hk b5' d
        by_cases q : M 0 (53 + 100 * g + k) = nI b'
        · rw [if_pos rfl, if_pos q, if_pos (z.mpr q)]
        · rw [if_pos rfl, if_neg q, if_neg (fun y => q (z.mp y))]
  · intro b' h1 p hp
    have := L.2.2.2.1 b' h1 p hp
    unfold zLb at this ⊢
    rw [S.2.2.1 1 (by decide), S.2.2.1 2 (by decide), S.2.2.1 3 (by decide), k4 _ (by omega), k4 _ (by omega), k4 _ (by omega)]
    exact this
  · intro b' h1 h2
    rw [show ((v_L_share I Q b sh).1 0 0).toNatClampNeg = zNb I from nbI] at h1
    have ne : b' ≠ b := by omega
    have := L.2.2.2.2.1 b' h1 h2
    refine ⟨⟨by rw [S.2.1 _ (by omega)]; exact this.1.1, by rw [S.2.1 _ (by omega)]; exact this.1.2⟩, fun k hk => by rw [S.2.2.2.1 b' k ne hk]; exact this.2.1 k hk, fun p hp => ?_⟩
    have q := this.2.2 p hp
    unfold zLb at q ⊢
    rw [S.2.2.1 1 (by decide), S.2.2.1 2 (by decide), S.2.2.1 3 (by decide)]
    exact q
  · intro g hg k hk b' hb' e
    rw [show ((v_L_share I Q b sh).1 0 0).toNatClampNeg = zNb I from nbI] at hb'
    have b5' := lw_b L hb'
    rw [of' b' b5' 1 (by decide) (fun z => absurd z.2 (by decide))]
    rcases zsm_own G b5 hto room hg hk with q | ⟨eg, m, q⟩
    · rw [q] at e; exact L.2.2.2.2.2 g hg k hk b' hb' e
    · have ek : zBk M b M k = M 0 (53 + 100 * g + k) := by show M 0 (53 + 100 * (v_X5_of M b 1).toNatClampNeg + k) = _; rw [eg, nI_nat (by omega)]
      have fr : zBk M b M k = nI b' ∨ nI b' = nI b := by
        rcases q with q | q
        · exact (zup_from (fun z => zm1n b5' z.symm)).1 (q.symm.trans e)
        · exact (zup_from (fun z => zm1n b5' z.symm)).2 (q.symm.trans e)
      rcases fr with q1 | q1
      · rw [ek] at q1; exact L.2.2.2.2.2 g hg k hk b' hb' q1
      · rw [zIeq (by omega) (by omega) q1]; exact eg
end SHM
