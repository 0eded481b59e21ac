/-! the law's other calls -/
def zDk (I I1 : Nat → Nat → Int32) : Prop := I1 0 = I 0 ∧ ∀ b, I1 1 (6 * b + 1) = I 1 (6 * b + 1)
section PE
variable {Z T0 T1 T2 T3 T4 T5 T M I I1 O J : Nat → Nat → Int32} {Q Q1 : Nat → Nat → Int64} {b p sh : Nat} {xx yy mx x : Int32} {hd bf q : Bool}
/-- a bread more -/
def zOpR (r : Nat → Int32) (n : Nat) (gr sal : Int32) (q : Bool) : Nat → Int32 := upd (upd (upd (upd (upd (upd (upd r 1 (r 1 + 1)) (5 + 6 * n + 0) 1) (5 + 6 * n + 1) gr) (5 + 6 * n + 2) sal) (5 + 6 * n + 3) 0) (5 + 6 * n + 4) (bI q)) (5 + 6 * n + 5) 0
theorem zOpR_n (r : Nat → Int32) (n : Nat) (gr sal : Int32) (q : Bool) {j : Nat} (h1 : j ≠ 1) (h2 : j < 5 + 6 * n ∨ 5 + 6 * n + 6 ≤ j) : zOpR r n gr sal q j = r j := by
  unfold zOpR
  rw [zupd_n _ _ (by omega), zupd_n _ _ (by omega), zupd_n _ _ (by omega), zupd_n _ _ (by omega), zupd_n _ _ (by omega), zupd_n _ _ (by omega), zupd_n _ _ (by omega)]
theorem zOpR_at (r : Nat → Int32) (n : Nat) (gr sal : Int32) (q : Bool) : zOpR r n gr sal q (5 + 6 * n + 0) = 1 ∧ zOpR r n gr sal q (5 + 6 * n + 1) = gr ∧ zOpR r n gr sal q (5 + 6 * n + 2) = sal ∧ zOpR r n gr sal q (5 + 6 * n + 3) = 0 ∧ zOpR r n gr sal q (5 + 6 * n + 4) = bI q ∧ zOpR r n gr sal q (5 + 6 * n + 5) = 0 ∧ zOpR r n gr sal q 1 = r 1 + 1 := by
  unfold zOpR
  refine ⟨?_, ?_, ?_, ?_, ?_, ?_, ?_⟩
  · rw [zupd_n _ _ (by omega), zupd_n _ _ (by omega), zupd_n _ _ (by omega), zupd_n _ _ (by omega), zupd_n _ _ (by omega), zupd_s]
  · rw [zupd_n _ _ (by omega), zupd_n _ _ (by omega), zupd_n _ _ (by omega), zupd_n _ _ (by omega), zupd_s]
  · rw [zupd_n _ _ (by omega), zupd_n _ _ (by omega), zupd_n _ _ (by omega), zupd_s]
  · rw [zupd_n _ _ (by omega), zupd_n _ _ (by omega), zupd_s]
  · rw [zupd_n _ _ (by omega), zupd_s]
  · rw [zupd_s]
  · rw [zupd_n _ _ (by omega), zupd_n _ _ (by omega), zupd_n _ _ (by omega), zupd_n _ _ (by omega), zupd_n _ _ (by omega), zupd_n _ _ (by omega), zupd_s]
theorem zopT (P : zPI Z T M I Q) (hn : zNb I < 5) (gr sal : Int32) (q : Bool) : (v_X3_addBread T gr sal q).1 = nI (zNb I) ∧ zTw (v_X3_addBread T gr sal q).2 (zOpR (M 0) (zNb I) gr sal q) := by
  have e := (lw_n P.2.2.1).1
  have e1 : M 0 1 = nI (zNb I) := by rw [← P.2.2.1.1.2.1]; exact e
  have c : ¬ M 0 1 = 8 := fun z => by
    rw [e1] at z
    have := zIeq (a := zNb I) (b := 8) (by omega) (by decide) z
    omega
  obtain ⟨a0, a1, a2, a3, a4, a5, a6⟩ := zOpR_at (M 0) (zNb I) gr sal q
  exact zTw_open P.1 P.2.1 c gr sal q _ (lw_nM P.2.2.1).symm a0 a1 a2 a3 a4 a5 a6 (fun j h1 h2 => zOpR_n _ _ _ _ _ h1 h2)
theorem zgr4 (y : Int32) : zgr (v_L_at y 4 - 1) := by
  obtain ⟨j, hj, e⟩ := vp_in_of (show vp_in (v_L_at y 4) 4 from zlat (n := 4) (by decide) (by decide)) (by decide)
  rw [e]
  have := (by decide : ∀ j, j < 4 → (nI j - 1 = -1) ∨ (0 < j ∧ nI j - 1 = nI (j - 1))) j hj
  rcases this with h | ⟨h, h2⟩
  · exact Or.inl h
  · rw [h2]; exact Or.inr (vp_in_nI (by omega) (by decide))
theorem zpo_open (P : zPI Z T M I Q) (hn : zNb I < 5) (y z : Int32) (q : Bool) : e_X4_open Z T0 T1 T2 T3 T4 T5 T (v_L_at y 4 - 1) (v_L_at z 10000) q = none ∧ (v_X4_open Z T0 T1 T2 T3 T4 T5 T (v_L_at y 4 - 1) (v_L_at z 10000) q).1 = nI (zNb I) := by
  have s := zneedS (zatK z)
  have lt : T 0 0 < 8 := by
    rw [eq_nb P.1, ← P.2.2.1.1.2.1, (lw_n P.2.2.1).1]
    exact (zlti (b := 8) (by omega) (by decide)).mpr (by omega)
  constructor
  · unfold e_X4_open
    rcases zgr4 y with h | h
    · rw [h, if_pos rfl, if_pos s, if_pos lt]
    · obtain ⟨g, hg, e⟩ := vp_in_of h (by decide)
      have k := (by decide : ∀ g, g < 3 → ¬ nI g = -1 ∧ v_X4_isGroup (nI g) = true) g hg
      rw [e, if_neg k.1, if_pos k.2, if_pos s, if_pos lt]
  · have a := (zopT P hn (v_L_at y 4 - 1) (v_L_at z 10000) q).1
    rw [← a]
    unfold v_X4_open
    split
    · rfl
    · rfl
theorem zpo_end (P : zPI Z T M I Q) (hb : b < zNb I) (c : ¬ I 1 (6 * b) = 0) : e_X4_end Z T0 T1 T2 T3 T4 T5 T (nI b) = none := by
  unfold e_X4_end
  rw [if_pos (zneedB P hb), if_pos (zneedO P hb c)]
theorem zpw_ct (M : Nat → Nat → Int32) (f : Nat) (hb : b < 8) : v_X5_personsWith M f b = nI (fb_ct (fun p => bt (M 0 (f + p)) b) 150) := by
  rw [zpw5 M f b (fun p => M 0 (f + p)) hb (fun _ _ => rfl), ← zsu_n]
  refine zsu_cong 150 0 (fun j _ _ => ?_)
  show ((M 0 (f + j) >>> ((nI b) &&& 31)) &&& 1) = zind _ j
  rw [zsh1 (by omega)]
  rfl
theorem zendR (P : zPI Z T M I Q) (hb : b < zNb I) : zTw (v_X3_closeBread T b) (v_X5_ends M b 0) := eq_ends P.1 P.2.1 (by have := zPb P hb; omega) (by rw [lw_nM P.2.2.1]; exact hb)
theorem zend_ate (P : zPI Z T M I Q) (hb : b < zNb I) {j : Nat} (hj : 353 ≤ j) : v_X5_ends M b 0 j = M 0 j := by
  have b5 := zPb P hb
  have rm : zRoom M b 0 := (zrm_iff P.1 P.2.1 (by omega) (by decide)).mpr (Nat.zero_le _)
  have S := zss (to := 0) (show b < 8 by omega) P.2.1 (by rw [lw_nM P.2.2.1]; exact hb) (by decide) rm
  unfold v_X5_ends v_X5_put
  rw [zU_s, zupd_n _ _ (by omega), S.2.2.2.1 j hj]
theorem z491 (P : zPI Z T M I Q) (hb : (v_L_at yy (I 0 0)).toNatClampNeg < zNb I) : (v_L_breads_491 I Q yy 151 0 0).1 = fb_ct (fun pe => zLb Q 3 3 (v_L_at yy (I 0 0)).toNatClampNeg pe) 150 := by
  refine zlN0 (fun n m i => (v_L_breads_491 I Q yy n m i).1) _ 150 (fun n m i h => ?_) (fun n m i h => ?_) (by decide)
  · show (v_L_breads_491 I Q yy (n + 1) m i).1 = m
    rw [v_L_breads_491, if_pos h]
  · show (v_L_breads_491 I Q yy (n + 1) m i).1 = (v_L_breads_491 I Q yy n _ (i + 1)).1
    have S := (lq_share (sh := 0) (by decide) rfl (zSh0_of P.1 P.2.1 P.2.2.1 hb) (zSx_of P.1 P.2.1 P.2.2.1 hb) (Nat.zero_le _)).1
    have e : zLb (v_L_share I Q (v_L_at yy (I 0 0)).toNatClampNeg 0).2 3 3 (v_L_at yy (I 0 0)).toNatClampNeg i = zLb Q 3 3 (v_L_at yy (I 0 0)).toNatClampNeg i := by
      unfold zLb; rw [S.2.2.1 3 (by decide)]
    rw [v_L_breads_491, if_neg (by omega), has3, e]
    by_cases c : zLb Q 3 3 (v_L_at yy (I 0 0)).toNatClampNeg i = true
    · rw [if_pos c, if_pos c]
    · rw [if_neg c, if_neg c]
theorem zpo_end2 (P : zPI Z T M I Q) (hb : (v_L_at yy (I 0 0)).toNatClampNeg < zNb I) (c : ¬ I 1 (6 * (v_L_at yy (I 0 0)).toNatClampNeg) = 0) : (v_X4_end Z T0 T1 T2 T3 T4 T5 T (nI (v_L_at yy (I 0 0)).toNatClampNeg)).1 = nI (v_L_breads_491 I Q yy 151 0 0).1 := by
  rw [z491 P hb]
  generalize (v_L_at yy (I 0 0)).toNatClampNeg = b at *
  have b5 := zPb P hb
  unfold v_X4_end
  dsimp only
  rw [nI_nat (by omega), eq_pw13 (zendR P hb) (by omega), zpw_ct _ _ (by omega)]
  refine congrArg nI (fb_ct_cong (fun p hp => ?_))
  rw [zend_ate P hb (by omega), (P.2.2.1.2.2.2.1 b b5 p hp).2.2]
theorem zpo_shake (P : zPI Z T M I Q) (hg : vp_in x 3) (y : Int32) : e_X4_shake Z T0 T1 T2 T3 T4 T5 T (nI x.toNatClampNeg) (v_L_at y 10000) = none ∧ (v_X4_shake Z T0 T1 T2 T3 T4 T5 T (nI x.toNatClampNeg) (v_L_at y 10000)).1 = I 0 (4 + x.toNatClampNeg) := by
  have h := (znat hg).2
  constructor
  · unfold e_X4_shake
    rw [if_pos (zneedG h), if_pos (zneedS (zatK y))]
  · show T 9 (nI x.toNatClampNeg).toNatClampNeg = _
    rw [nI_nat (by omega), P.2.2.1.1.2.2.2.2 _ h]
    exact P.1.2.1 _ h
theorem zgr_neg (P : zPI Z T M I Q) (hb : b < zNb I) : (I 1 (6 * b + 1) < 0) ↔ v_X5_isOfGroup M b = false := by
  have b5 := zPb P hb
  rw [lw_of P.2.2.1 hb (by decide)]
  rcases zgrp P.2.1 (show b < 8 by omega) with ⟨c, e⟩ | ⟨c, g, hg, e⟩
  · rw [c, e]; exact ⟨fun _ => rfl, fun _ => by decide⟩
  · rw [c, e]; exact ⟨fun z => absurd z (znge0 (by omega)), fun z => by cases z⟩
theorem zpo_best (P : zPI Z T M I Q) (hb : b < zNb I) (u : I 1 (6 * b) = 0 ∨ ¬ I 1 (6 * b + 1) < 0) : e_X4_bestSalt T (nI b) 5 = none ∧ v_X4_bestSalt T (nI b) 5 = -1 := by
  have b5 := zPb P hb
  have s5 : e_X4_needSalt 5 = none := by decide
  constructor
  · unfold e_X4_bestSalt
    rw [if_pos (zneedB P hb), if_pos s5]
  · unfold v_X4_bestSalt v_X4_bestSaltFrom
    rw [zopenB P hb]
    by_cases o : v_X5_isOpen M b = true
    · have c := (zop_iff P hb).mpr o
      have d := u.resolve_left c
      have g : v_X5_isOfGroup M b = true := by
        cases h : v_X5_isOfGroup M b
        · exact absurd ((zgr_neg P hb).mpr h) d
        · rfl
      rw [if_pos o, if_pos]
      unfold v_X3_isInGroup
      rw [nI_nat (by omega), eq_grp P.1 P.2.1 (by omega), g]
    · rw [if_neg o]
theorem zpo_resalt (P : zPI Z T M I Q) (hb : b < zNb I) (c : ¬ I 1 (6 * b) = 0) (d : I 1 (6 * b + 1) < 0) (y : Int32) : e_X4_resalt Z T0 T1 T2 T3 T4 T5 T (nI b) (v_L_at y 10000) = none := by
  have b5 := zPb P hb
  unfold e_X4_resalt
  rw [if_pos (zneedB P hb), if_pos (zneedS (zatK y)), if_pos (zneedO P hb c), if_neg]
  unfold v_X3_isInGroup
  rw [nI_nat (by omega), eq_grp P.1 P.2.1 (by omega), (zgr_neg P hb).mp d]
  decide
theorem zcb_ct (T : Nat → Nat → Int32) (b : Nat) (s : Int32) : v_X3_changedBySalt T b s = fb_ct (fun p => (!decide (v_X3_reasonBy T p b s = 0)) ^^ v_X3_isEating T p b) 150 := by
  unfold v_X3_changedBySalt
  refine zlN0 (v_X3_changedBySalt_5 T b s) _ 150 (fun n m i h => by rw [v_X3_changedBySalt_5, if_pos h]) (fun n m i h => ?_) (by decide)
  rw [v_X3_changedBySalt_5, if_neg (by omega)]
  by_cases c : v_X3_reasonBy T i b s = 0
  · rw [if_pos c]
    cases e : v_X3_isEating T i b
    · rw [if_pos (by rfl)]; simp [c]
    · rw [if_neg (by decide)]; simp [c]
  · rw [if_neg c]
    cases e : v_X3_isEating T i b
    · rw [if_neg (by decide)]; simp [c]
    · rw [if_pos (by rfl)]; simp [c]
def zP688 (I : Nat → Nat → Int32) (Q : Nat → Nat → Int64) (b : Nat) (s : Int32) (pe : Nat) : Bool := !zLb Q 1 3 b pe && (!zLb Q 2 3 b pe && ((decide (I 1 (6 * b + 4) = 0) || !zLb Q 3 3 b pe) && (decide (I 1 (6 * b + 3) ≤ nI (v_L_bucket pe s)) ^^ decide (I 1 (6 * b + 3) ≤ nI (v_L_bucket pe (I 1 (6 * b + 2)))))))
theorem z688 : (v_L_breads_688 I Q yy 151 0 0).1 = fb_ct (zP688 I Q (v_L_at yy (I 0 0)).toNatClampNeg (v_L_at (yy >>> (5 &&& 31)) 10000)) 150 := by
  refine zlN0 (fun n m i => (v_L_breads_688 I Q yy n m i).1) _ 150 (fun n m i h => ?_) (fun n m i h => ?_) (by decide)
  · show (v_L_breads_688 I Q yy (n + 1) m i).1 = m
    rw [v_L_breads_688, if_pos h]
  · show (v_L_breads_688 I Q yy (n + 1) m i).1 = (v_L_breads_688 I Q yy n _ (i + 1)).1
    rw [v_L_breads_688, if_neg (by omega), has1, has2, has3]
    unfold zP688
    generalize (v_L_at yy (I 0 0)).toNatClampNeg = b
    cases h1 : zLb Q 1 3 b i
    · rw [if_neg (by decide)]
      cases h2 : zLb Q 2 3 b i
      · rw [if_neg (by decide)]
        by_cases h4 : I 1 (6 * b + 4) = 0
        · rw [if_pos h4]
          by_cases c1 : I 1 (6 * b + 3) ≤ nI (v_L_bucket i (v_L_at (yy >>> (5 &&& 31)) 10000))
          · rw [if_pos c1]
            by_cases c2 : I 1 (6 * b + 3) ≤ nI (v_L_bucket i (I 1 (6 * b + 2)))
            · rw [if_pos c2]; simp [h4, c1, c2]
            · rw [if_neg c2]; simp [h4, c1, c2]
          · rw [if_neg c1]
            by_cases c2 : I 1 (6 * b + 3) ≤ nI (v_L_bucket i (I 1 (6 * b + 2)))
            · rw [if_pos c2]; simp [h4, c1, c2]
            · rw [if_neg c2]; simp [h4, c1, c2]
        · rw [if_neg h4]
          cases h3 : zLb Q 3 3 b i
          · rw [if_neg (by decide)]
            by_cases c1 : I 1 (6 * b + 3) ≤ nI (v_L_bucket i (v_L_at (yy >>> (5 &&& 31)) 10000))
            · rw [if_pos c1]
              by_cases c2 : I 1 (6 * b + 3) ≤ nI (v_L_bucket i (I 1 (6 * b + 2)))
              · rw [if_pos c2]; simp [h4, c1, c2]
              · rw [if_neg c2]; simp [h4, c1, c2]
            · rw [if_neg c1]
              by_cases c2 : I 1 (6 * b + 3) ≤ nI (v_L_bucket i (I 1 (6 * b + 2)))
              · rw [if_pos c2]; simp [h4, c1, c2]
              · rw [if_neg c2]; simp [h4, c1, c2]
          · rw [if_pos rfl]; simp [h4]
      · rw [if_pos rfl]; simp
    · rw [if_pos rfl]; simp
theorem zpo_resalt2 (P : zPI Z T M I Q) (hb : (v_L_at yy (I 0 0)).toNatClampNeg < zNb I) (c : ¬ I 1 (6 * (v_L_at yy (I 0 0)).toNatClampNeg) = 0) (d : I 1 (6 * (v_L_at yy (I 0 0)).toNatClampNeg + 1) < 0) : (v_X4_resalt Z T0 T1 T2 T3 T4 T5 T (nI (v_L_at yy (I 0 0)).toNatClampNeg) (v_L_at (yy >>> (5 &&& 31)) 10000)).1 = nI (v_L_breads_688 I Q yy 151 0 0).1 := by
  rw [z688]
  generalize (v_L_at yy (I 0 0)).toNatClampNeg = b at *
  generalize v_L_at (yy >>> (5 &&& 31)) 10000 = s
  have b5 := zPb P hb
  have b8 : b < 8 := by omega
  show nI (v_X3_changedBySalt T (nI b).toNatClampNeg s) = _
  rw [nI_nat (by omega), zcb_ct]
  refine congrArg nI (fb_ct_cong (fun p hp => ?_))
  have L := P.2.2.1
  have hh := L.2.2.2.1 b b5 p hp
  have ng := (zgr_neg P hb).mp d
  have op : bt (T 3 0) b = true := by rw [← eq_open P.1 b8]; exact (zop_iff P hb).mp c
  have ow : ∀ k, v_X5_owns M b k = !decide (I 1 (6 * b + 3) ≤ nI k) := fun k => by
    unfold v_X5_owns
    rw [if_neg (by rw [ng]; decide), lw_of L hb (by decide)]
    by_cases z : v_X5_of M b 3 ≤ nI k
    · rw [if_pos z, decide_eq_true z]; rfl
    · rw [if_neg z, decide_eq_false z]; rfl
  have sal : v_X5_saltOf M b = I 1 (6 * b + 2) := by
    unfold v_X5_saltOf
    rw [if_neg (by rw [ng]; decide), lw_of L hb (by decide)]
  have st : decide (I 1 (6 * b + 4) = 0) = !bt (T 4 0) b := by
    rw [lw_of L hb (by decide), (P.1.br b8).2.2.2.2.2]
    cases bt (T 4 0) b <;> rfl
  have e12 := (P.1.2.2.2.1 p hp).1
  unfold zP688
  rw [eq_isE P.1 P.2.1 hp b8, eq_eatS P.1 P.2.1 hp b8]
  unfold zEt
  rw [eq_eatM P.1 hp b8, op, if_pos rfl, if_pos rfl, hh.1, hh.2.1, hh.2.2, lq_bucket, lq_bucket, ow, ow, sal, st, ← e12.1, ← e12.2.1, ← e12.2.2.1]
  cases bt (T 11 p) b <;> cases bt (T 12 p) b <;> cases bt (T 13 p) b <;> cases bt (T 4 0) b <;> cases decide (I 1 (6 * b + 3) ≤ nI (v_X5_bucketBy (nI p) s)) <;> cases decide (I 1 (6 * b + 3) ≤ nI (v_X5_bucketBy (nI p) (I 1 (6 * b + 2)))) <;> rfl
theorem zdk_0 (I : Nat → Nat → Int32) : zDk I I := ⟨rfl, fun _ => rfl⟩
theorem zdk_u {y : Int32} (h : zDk I I1) : zDk I (zU I1 1 (upd (I1 1) (6 * b + 5) y)) := ⟨(zU_n _ _ (by decide)).trans h.1, fun b' => by rw [zU_s, zupd_n _ _ (by omega)]; exact h.2 b'⟩
theorem zdk_50a (b : Nat) : ∀ (n sum pe : Nat) (I1 : Nat → Nat → Int32) (Q1 : Nat → Nat → Int64), 150 - pe < n → zDk I I1 → zDk I (v_L_persons_50 b n sum pe I1 Q1).2.2.1 := by
  intro n
  induction n with
  | zero => intro sum pe I1 Q1 h; exact absurd h (Nat.not_lt_zero _)
  | succ n ih =>
    intro sum pe I1 Q1 h k
    rw [v_L_persons_50]
    by_cases c : 150 ≤ pe
    · rw [if_pos c]; exact k
    · rw [if_neg c]
      by_cases d : v_L_eats I1 Q1 pe b ≤ 0
      · rw [if_pos d]; exact ih _ _ _ _ (by omega) k
      · rw [if_neg d]; exact ih _ _ _ _ (by omega) (zdk_u k)
theorem zdk_50 (h : zDk I I1) (b sum : Nat) (Q1 : Nat → Nat → Int64) : zDk I (v_L_persons_50 b 151 sum 0 I1 Q1).2.2.1 := zdk_50a b 151 sum 0 I1 Q1 (by decide) h
theorem zdk_n (P : zPI Z T M I Q) (h : zDk I I1) : vp_in (I1 0 0) 6 := by rw [h.1]; exact P.2.2.1.1.1
theorem zdk_b (P : zPI Z T M I Q) (h : zDk I I1) (c : ¬ I1 0 0 ≤ nI b) (hb : b ≤ 5) : b < zNb I := zbn P (by rw [← h.1]; exact c) hb
theorem zdk_gr (P : zPI Z T M I Q) (h : zDk I I1) (hb : b < zNb I) : zgr (I1 1 (6 * b + 1)) := by rw [h.2]; exact zpo_gr P hb
theorem zdk_39a (h6 : vp_in (I 0 0) 6) : ∀ (n sum b : Nat) (I1 : Nat → Nat → Int32) (Q1 : Nat → Nat → Int64), 5 - b < n → b ≤ 5 → zDk I I1 → zDk I (v_L_persons_39 n sum b I1 Q1).2.2.1 := by
  intro n
  induction n with
  | zero => intro sum b I1 Q1 h; exact absurd h (Nat.not_lt_zero _)
  | succ n ih =>
    intro sum b I1 Q1 h hb k
    rw [v_L_persons_39]
    by_cases c : I1 0 0 ≤ nI b
    · rw [if_pos c]; exact k
    · rw [if_neg c]
      have b5 := znb5 (by rw [k.1]; exact h6) c hb
      exact ih _ _ _ _ (by omega) (by omega) (zdk_50 k b _ _)
theorem zdk_39 (P : zPI Z T M I Q) (h : zDk I I1) (sum : Nat) (Q1 : Nat → Nat → Int64) : zDk I (v_L_persons_39 6 sum 0 I1 Q1).2.2.1 := zdk_39a P.2.2.1.1.1 6 sum 0 I1 Q1 (by decide) (by decide) h
end PE
