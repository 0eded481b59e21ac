/-! what looks ahead puts the row back -/
theorem zls_at {b : Nat} (hb : b < 8) (many : Int32) : ∀ (n i : Nat) (M : Nat → Nat → Int32), 101 - i < n → zI M → b < (M 0 1).toNatClampNeg → (v_X5_leastShare_2 b many n i M).2 0 = M 0 ∧ ∀ k, k ≠ 0 → k ≠ 11 → (v_X5_leastShare_2 b many n i M).2 k = M k
  | 0, _, _, h, _, _ => absurd h (Nat.not_lt_zero _)
  | n + 1, i, M, h, hI, hbr => by
    rw [v_X5_leastShare_2]
    by_cases c : 100 < i
    · rw [if_pos c]; exact ⟨rfl, fun _ _ _ => rfl⟩
    · rw [if_neg c]
      by_cases o : v_X5_isOpen M b = true
      · rw [if_pos o]
        have s := zst_all (to := i) hb hI (by omega) hbr
        by_cases d : (v_X5_sharedThen M b i).1 < many
        · rw [if_pos d]
          have r := zls_at hb many n (i + 1) (v_X5_sharedThen M b i).2 (by omega) (zI_row s.1 hI) (by rw [s.1]; exact hbr)
          exact ⟨r.1.trans s.1, fun k h0 h1 => (r.2 k h0 h1).trans (s.2 k h0 h1)⟩
        · rw [if_neg d]; exact s
      · rw [if_neg o]; exact ⟨rfl, fun _ _ _ => rfl⟩
theorem zls {M : Nat → Nat → Int32} {b : Nat} (hb : b < 8) (many : Int32) (hI : zI M) (hbr : b < (M 0 1).toNatClampNeg) : (v_X5_leastShare M b many).2 0 = M 0 ∧ ∀ k, k ≠ 0 → k ≠ 11 → (v_X5_leastShare M b many).2 k = M k := by
  unfold v_X5_leastShare; exact zls_at hb many 102 0 M (by omega) hI hbr
theorem zsf_put {M N : Nat → Nat → Int32} {b : Nat} (h0 : ∀ j, j ≠ 5 + 6 * b + 2 → N 0 j = M 0 j) (x : Int32) : ∀ j, j ≠ 5 + 6 * b + 2 → v_X5_put N b 2 x 0 j = M 0 j := fun j hj => by
  unfold v_X5_put; rw [zU_s, zupd_n _ _ hj]; exact h0 j hj
theorem zsf_pk {M N : Nat → Nat → Int32} {b : Nat} (hk : ∀ k, k ≠ 0 → N k = M k) (x : Int32) : ∀ k, k ≠ 0 → v_X5_put N b 2 x k = M k := fun k h => by
  unfold v_X5_put; rw [zU_n _ _ h]; exact hk k h
theorem zsf_at (M : Nat → Nat → Int32) (b sal : Nat) : ∀ (n : Nat) (best most : Int32) (x : Nat) (N : Nat → Nat → Int32), sal + 20 - x < n → (∀ k, k ≠ 0 → N k = M k) → (∀ j, j ≠ 5 + 6 * b + 2 → N 0 j = M 0 j) →
    (v_X5_saltFor_26 M b sal n best most x N).2 0 = M 0 ∧ ∀ k, k ≠ 0 → (v_X5_saltFor_26 M b sal n best most x N).2 k = M k
  | 0, _, _, _, _, h, _, _ => absurd h (Nat.not_lt_zero _)
  | n + 1, best, most, x, N, h, hk, h0 => by
    have back : v_X5_put N b 2 (v_X5_of M b 2) 0 = M 0 ∧ ∀ k, k ≠ 0 → v_X5_put N b 2 (v_X5_of M b 2) k = M k := by
      refine ⟨funext fun j => ?_, zsf_pk hk _⟩
      by_cases q : j = 5 + 6 * b + 2
      · unfold v_X5_put v_X5_of; rw [zU_s, q, zupd_s]
      · exact zsf_put h0 _ j q
    rw [v_X5_saltFor_26]
    by_cases c : sal + 20 ≤ x
    · rw [if_pos c]; (dsimp only; exact back)
    · rw [if_neg c]
      have ih := fun best most => zsf_at M b sal n best most (x + 1) (v_X5_put N b 2 (nI x)) (by omega) (zsf_pk hk _) (zsf_put h0 _)
      by_cases d : v_X5_isSalt (nI x) = true
      · rw [if_pos d]
        by_cases f : v_X5_eaters (v_X5_put N b 2 (nI x)) b ≤ most
        · rw [if_pos f, if_pos f]; exact ih _ _
        · rw [if_neg f, if_neg f]; exact ih _ _
      · rw [if_neg d]; (dsimp only; exact back)
theorem zsf (M : Nat → Nat → Int32) (b sal : Nat) : (v_X5_saltFor M b sal).2 0 = M 0 ∧ ∀ k, k ≠ 0 → (v_X5_saltFor M b sal).2 k = M k := by
  unfold v_X5_saltFor
  by_cases c : v_X5_hasOwnSalt M b = true
  · rw [if_pos c]; exact zsf_at M b sal 21 (-1) (-1) sal M (by omega) (fun _ _ => rfl) (fun _ _ => rfl)
  · rw [if_neg c]; exact ⟨rfl, fun _ _ => rfl⟩
theorem znn_at (M : Nat → Nat → Int32) {b : Nat} (hb : b < 8) (hM : zI M) : ∀ (n : Nat) (found : Int32) (k : Nat) (N : Nat → Nat → Int32), 101 - k < n → zI N → b < (N 0 1).toNatClampNeg → (∀ j, j ≠ 0 → j ≠ 6 → j ≠ 11 → N j = M j) → (∀ j, j < 300 → N 11 j = M 0 (53 + j)) → (∀ j, j < 53 → j ≠ 5 + 6 * b + 3 → N 0 j = M 0 j) → (∀ j, 353 ≤ j → N 0 j = M 0 j) →
    (v_X5_nextNow_18 M b n found k N).2 0 = M 0 ∧ ∀ j, j ≠ 0 → j ≠ 6 → j ≠ 11 → (v_X5_nextNow_18 M b n found k N).2 j = M j
  | 0, _, _, _, h, _, _, _, _, _, _ => absurd h (Nat.not_lt_zero _)
  | n + 1, found, k, N, h, hI, hbr, hk, h11, hlo, hhi => by
    have back : v_X5_layBack N b (nI (Int32.toNatClampNeg ((v_X5_keepShare M b).1))) 0 = M 0 ∧ ∀ j, j ≠ 0 → j ≠ 6 → j ≠ 11 → v_X5_layBack N b (nI (Int32.toNatClampNeg ((v_X5_keepShare M b).1))) j = M j := by
      refine ⟨funext fun j => ?_, fun j a6 a7 a8 => by rw [zlb_f _ hb _ a6]; exact hk j a6 a7 a8⟩
      rw [zlb_0 _ hb]
      by_cases c : 53 ≤ j ∧ j < 353
      · rw [if_pos c, h11 _ (by omega), show 53 + (j - 53) = j by omega]
      · rw [if_neg c]
        by_cases d : j = 5 + (6 * b) + 3
        · rw [if_pos d, zks_1, ← (znat (show vp_in (v_X5_of M b 3) 101 from (hM.2.1 b hb).2.1)).1, d]; rfl
        · rw [if_neg d]
          by_cases f : j < 53
          · exact hlo j f d
          · exact hhi j (by omega)
    rw [v_X5_nextNow_18]
    by_cases c : 100 < k
    · rw [if_pos c]; (dsimp only; exact back)
    · rw [if_neg c]
      by_cases d : found = -1
      · rw [if_pos d]
        by_cases o : v_X5_canRaise N b (nI k) = true
        · rw [if_pos o]
          have s := zssc hb hI hbr (show k ≤ 100 by omega) (Or.inl o)
          exact znn_at M hb hM n _ (k + 1) _ (by omega) s.2.2.2.2 (by rw [s.2.1 1 (by decide) (by omega)]; exact hbr) (fun j a b c => by rw [s.1 j a]; exact hk j a b c) (fun j hj => by rw [s.1 11 (by decide)]; exact h11 j hj)
            (fun j a b => by rw [s.2.1 j a b]; exact hlo j a b) (fun j a => by rw [s.2.2.2.1 j a]; exact hhi j a)
        · rw [if_neg o]; (dsimp only; exact back)
      · rw [if_neg d]; (dsimp only; exact back)
theorem znn {M : Nat → Nat → Int32} {b : Nat} (hb : b < 8) (hI : zI M) (hbr : b < (M 0 1).toNatClampNeg) : (v_X5_nextNow M b).2 0 = M 0 ∧ ∀ j, j ≠ 0 → j ≠ 6 → j ≠ 11 → (v_X5_nextNow M b).2 j = M j := by
  unfold v_X5_nextNow
  have e : ∀ j, j ≠ 6 → j ≠ 11 → v_X5_layAhead ((v_X5_keepShare M b).2) b j = M j := fun j a c => (zla_f _ b a).trans (zks_f M b c)
  refine znn_at M hb hI 102 (-1) _ _ (by omega) (zI_row (e 0 (by decide) (by decide)) hI) (by rw [e 0 (by decide) (by decide)]; exact hbr) (fun j _ a c => e j a c) (fun j hj => ?_) (fun j _ _ => by rw [e 0 (by decide) (by decide)]) (fun j _ => by rw [e 0 (by decide) (by decide)])
  rw [zla_f _ b (by decide), zks_11 M b hj]
theorem zltn {x : Int32} {i : Nat} (c : ¬ x ≤ nI i) (h : vp_in x 9) (hi : i ≤ 8) : i < x.toNatClampNeg := by
  obtain ⟨j, hj, rfl⟩ := vp_in_of h (by decide)
  have h2 : ¬ j ≤ i := fun q => c (nI_le q (by omega))
  rw [nI_nat (by omega)]; omega
theorem zdiv5 {k : Nat} (h : k < 2 ^ 31) : nI k / 5 = nI (k / 5) := zdivn (b := 5) h (by decide) (by decide)
theorem zrem5 {k : Nat} (h : k < 2 ^ 31) : nI k - nI k / 5 * 5 = nI (k % 5) := pk_rem (d := 5) h (by decide) (by decide)
theorem zw1012 {k : Nat} (h : v_X5_within (nI k) 10 12 = true) (hk : k < 23) : 10 ≤ k ∧ k ≤ 12 := by
  obtain ⟨h1, h2⟩ := zwithin h
  have a1 : ¬ k < 10 := fun z => h1 (nI_lt (b := 10) z (by decide))
  have a2 : ¬ 12 < k := fun z => h2 (nI_lt (a := 12) z (by omega))
  omega
