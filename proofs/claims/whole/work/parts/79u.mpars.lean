/-- what the reader of the buffer leaves behind -/
theorem zrt_at : ∀ (n i : Nat) (M : Nat → Nat → Int32), vp_in (M 3 0) 61 → i ≤ (M 3 0).toNatClampNeg → 60 - i < n → vp_in (M 8 0) 24 → 3 * (M 8 0).toNatClampNeg + zph M ≤ i → zPI M →
    (∀ k, k ≠ 7 → k ≠ 8 → k ≠ 9 → k ≠ 10 → (v_X5_rightUpTo_12 n i M).2 k = M k) ∧ vp_in ((v_X5_rightUpTo_12 n i M).2 8 0) 24 ∧ ((v_X5_rightUpTo_12 n i M).1 = M 3 0 → zPI (v_X5_rightUpTo_12 n i M).2) ∧ (∃ j, j ≤ (M 3 0).toNatClampNeg ∧ (v_X5_rightUpTo_12 n i M).1 = nI j)
  | 0, i, M, _, _, h, _, _, _ => absurd h (Nat.not_lt_zero _)
  | n + 1, i, M, h3, hi, hn, h8, hph, hp => by
    rw [v_X5_rightUpTo_12]
    by_cases c : Int32.toNatClampNeg (M 3 0) ≤ i
    · rw [if_pos c]; exact ⟨fun _ _ _ _ _ => rfl, h8, fun _ => hp, i, hi, rfl⟩
    · rw [if_neg c]
      have hL := (znat h3).2
      have h23 := ztk23 h8 hph (show i < 60 by omega)
      have ht := ztakes M (M 4 i) h23
      have e3 : (v_X5_takes M (M 4 i)).2 3 = M 3 := ht.1 3 (by decide) (by decide) (by decide) (by decide)
      by_cases d : (v_X5_takes M (M 4 i)).1 = true
      · rw [if_pos d]
        have q := zrt_at n (i + 1) (v_X5_takes M (M 4 i)).2 (by rw [e3]; exact h3) (by rw [e3]; omega) (by omega) ht.2.1 (Nat.le_trans ht.2.2 (Nat.succ_le_succ hph)) (zPI_takes hp h23 d)
        rw [e3] at q
        exact ⟨fun k a b c d => (q.1 k a b c d).trans (ht.1 k a b c d), q.2⟩
      · rw [if_neg d]
        refine ⟨ht.1, ht.2.1, fun e => ?_, i, hi, rfl⟩
        exfalso
        have e2 : nI i = nI (M 3 0).toNatClampNeg := e.trans (znat h3).1
        have := (nI_eq (a := i) (b := (M 3 0).toNatClampNeg) (by omega) (by omega)).mp e2
        omega
theorem zrt {M : Nat → Nat → Int32} (h3 : vp_in (M 3 0) 61) : (∀ k, k ≠ 7 → k ≠ 8 → k ≠ 9 → k ≠ 10 → (v_X5_rightUpTo M).2 k = M k) ∧ vp_in ((v_X5_rightUpTo M).2 8 0) 24 ∧ ((v_X5_rightUpTo M).1 = M 3 0 → zPI (v_X5_rightUpTo M).2) ∧ (∃ j, j ≤ (M 3 0).toNatClampNeg ∧ (v_X5_rightUpTo M).1 = nI j) := by
  unfold v_X5_rightUpTo
  have e3 : zU (zU M 8 (fun _ => 0)) 10 (fun _ => 0) 3 = M 3 := by rw [zU_n _ _ (by decide), zU_n _ _ (by decide)]
  have e8 : zU (zU M 8 (fun _ => 0)) 10 (fun _ => 0) 8 0 = nI 0 := by rw [zU_n _ _ (by decide), zU_s]; rfl
  have e10 : zU (zU M 8 (fun _ => 0)) 10 (fun _ => 0) 10 0 = 0 := by rw [zU_s]
  have q := zrt_at 61 0 (zU (zU M 8 (fun _ => 0)) 10 (fun _ => 0)) (by rw [e3]; exact h3) (Nat.zero_le _) (by decide) (by rw [e8]; exact vp_in_nI (by decide) (by decide)) (by rw [e8, zph_0 e10]; decide) (by
    refine ⟨Or.inl e10, fun p hp => ?_⟩
    rw [e8] at hp; exact absurd hp (Nat.not_lt_zero _))
  rw [e3] at q
  exact ⟨fun k a b c d => (q.1 k a b c d).trans (by rw [zU_n _ _ d, zU_n _ _ b]), q.2⟩
/-- behind a whole row of commands: the numbers of all of them -/
theorem zrt_all {M : Nat → Nat → Int32} (h3 : vp_in (M 3 0) 61) (e : (v_X5_rightUpTo M).1 = (v_X5_rightUpTo M).2 3 0) (c : v_X5_isEnded (v_X5_rightUpTo M).2 = true) : ∀ p, p ≤ ((v_X5_rightUpTo M).2 8 0).toNatClampNeg → zNum (v_X5_rightUpTo M).2 p := by
  have q := zrt h3
  have e3 : (v_X5_rightUpTo M).2 3 = M 3 := q.1 3 (by decide) (by decide) (by decide) (by decide)
  rw [e3] at e
  have hp := q.2.2.1 e
  intro p hle
  rcases Nat.lt_or_ge p ((v_X5_rightUpTo M).2 8 0).toNatClampNeg with h | h
  · exact hp.2 p h
  · have : p = ((v_X5_rightUpTo M).2 8 0).toNatClampNeg := by omega
    rw [this]; exact zPI_en hp c
/-- the state in which the commands of a row begin -/
def zRn (M : Nat → Nat → Int32) : Nat → Nat → Int32 := zU (v_X5_save (zU (v_X5_rightUpTo M).2 5 (fun _ => 0))) 3 (fun _ => 0)
theorem zRn_1 {M : Nat → Nat → Int32} (h1 : vp_in (M 1 0) 7) (h3 : vp_in (M 3 0) 61) : vp_in (zU (v_X5_rightUpTo M).2 5 (fun _ => 0) 1 0) 7 := by
  rw [zU_n _ _ (by decide), (zrt h3).1 1 (by decide) (by decide) (by decide) (by decide)]; exact h1
theorem zRn_f {M : Nat → Nat → Int32} (h1 : vp_in (M 1 0) 7) (h3 : vp_in (M 3 0) 61) {k : Nat} (a1 : k ≠ 1) (a2 : k ≠ 2) (a3 : k ≠ 3) (a5 : k ≠ 5) : zRn M k = (v_X5_rightUpTo M).2 k := by
  unfold zRn
  rw [zU_n _ _ a3, (zsv _ (zRn_1 h1 h3)).1 k a1 a2, zU_n _ _ a5]
theorem zRn_0 {M : Nat → Nat → Int32} (h1 : vp_in (M 1 0) 7) (h3 : vp_in (M 3 0) 61) : zRn M 0 = M 0 :=
  (zRn_f h1 h3 (by decide) (by decide) (by decide) (by decide)).trans ((zrt h3).1 0 (by decide) (by decide) (by decide) (by decide))
theorem zRn_N {M : Nat → Nat → Int32} (h1 : vp_in (M 1 0) 7) (h3 : vp_in (M 3 0) 61) (e : (v_X5_rightUpTo M).1 = (v_X5_rightUpTo M).2 3 0) (c : v_X5_isEnded (v_X5_rightUpTo M).2 = true) : ∀ p, p ≤ (zRn M 8 0).toNatClampNeg → zNum (zRn M) p := by
  intro p hp
  have e7 : zRn M 7 = (v_X5_rightUpTo M).2 7 := zRn_f h1 h3 (by decide) (by decide) (by decide) (by decide)
  rw [zRn_f h1 h3 (by decide) (by decide) (by decide) (by decide)] at hp
  exact zNum_c (by rw [e7]) (by rw [e7]) (zrt_all h3 e c p hp)
theorem zRn_8 {M : Nat → Nat → Int32} (h1 : vp_in (M 1 0) 7) (h3 : vp_in (M 3 0) 61) : vp_in (zRn M 8 0) 24 := by
  rw [zRn_f h1 h3 (by decide) (by decide) (by decide) (by decide)]; exact (zrt h3).2.1
theorem zcr_8 {M : Nat → Nat → Int32} {p : Nat} (h : zI M) (q : zNum M p) (a : vp_in (M 8 0) 24) : vp_in ((v_X5_carries M p).2 8 0) 24 := by
  rw [(zcr_I h q).2 8 (by decide)]; exact a
theorem zcr_N {M : Nat → Nat → Int32} {p : Nat} (h : zI M) (q : zNum M p) (a : ∀ r, r ≤ (M 8 0).toNatClampNeg → zNum M r) : ∀ r, r ≤ ((v_X5_carries M p).2 8 0).toNatClampNeg → zNum (v_X5_carries M p).2 r := by
  intro r hr
  have z := (zcr_I h q).2
  rw [z 8 (by decide)] at hr
  exact zNum_c (by rw [z 7 (by decide)]) (by rw [z 7 (by decide)]) (a r hr)
