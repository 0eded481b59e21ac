/-! what save, layAhead, keepShare, layBack do -/
theorem zsv_b : ∀ (n i : Nat) (M : Nat → Nat → Int32), v_X5_save_54b n i M = v_X5_save_54 n i M
  | 0, _, _ => rfl
  | n + 1, i, M => by rw [v_X5_save_54b, v_X5_save_54, zsv_b n]
theorem zsv54 : ∀ (n i : Nat) (M : Nat → Nat → Int32), 954 - i < n → i ≤ 954 → (∀ k, k ≠ 1 → k ≠ 2 → v_X5_save_54 n i M k = M k) ∧ v_X5_save_54 n i M 1 0 = M 1 0 + 1 ∧
    (∀ j, i ≤ j → j < 954 → v_X5_save_54 n i M 2 (954 * (Int32.toNatClampNeg (M 1 0)) + j) = M 0 j) ∧
    (∀ q, ¬ (954 * (Int32.toNatClampNeg (M 1 0)) + i ≤ q ∧ q < 954 * (Int32.toNatClampNeg (M 1 0)) + 954) → v_X5_save_54 n i M 2 q = M 2 q)
  | 0, _, _, h, _ => absurd h (Nat.not_lt_zero _)
  | n + 1, i, M, h, hi => by
    rw [v_X5_save_54]
    by_cases c : 954 ≤ i
    · rw [if_pos c]
      refine ⟨fun k h1 _ => zU_n _ _ h1 ▸ rfl, by rw [zU_s], fun j h1 h2 => by omega, fun q _ => by rw [zU_n _ _ (by decide)]⟩
    · rw [if_neg c]
      obtain ⟨a1, a2, a3, a4⟩ := zsv54 n (i + 1) (zU M 2 (upd (M 2) (954 * (Int32.toNatClampNeg (M 1 0)) + i) (M 0 i))) (by omega) (by omega)
      rw [zU_n M (k := 2) (j := 1) _ (by decide)] at a2 a3 a4
      rw [zU_n M (k := 2) (j := 0) _ (by decide)] at a3
      rw [zU_s] at a4
      refine ⟨fun k h1 h2 => by rw [a1 k h1 h2, zU_n _ _ h2], a2, fun j h1 h2 => ?_, fun q hq => ?_⟩
      · by_cases e : j = i
        · subst e; rw [a4 _ (by omega), zupd_s]
        · exact a3 j (by omega) h2
      · rw [a4 q (by omega), zupd_n _ _ (by omega)]
theorem zsv13 : ∀ (n k : Nat) (M : Nat → Nat → Int32), 5724 - k < n → 954 ≤ k → k ≤ 5724 → ∃ N : Nat → Nat → Int32, v_X5_save_13 n k M = v_X5_save_54 955 0 (zU N 1 (fun _ => (N 1 0) - 1)) ∧ (∀ f, f ≠ 2 → N f = M f) ∧
    (∀ j, k ≤ j + 954 → j < 4770 → N 2 j = M 2 (j + 954)) ∧ (∀ j, ¬ (k ≤ j + 954 ∧ j < 4770) → N 2 j = M 2 j)
  | 0, _, _, h, _, _ => absurd h (Nat.not_lt_zero _)
  | n + 1, k, M, h, h1, h2 => by
    rw [v_X5_save_13]
    by_cases c : 5724 ≤ k
    · rw [if_pos c, zsv_b]
      exact ⟨M, rfl, fun _ _ => rfl, fun j a b => by omega, fun _ _ => rfl⟩
    · rw [if_neg c]
      obtain ⟨N, a0, a1, a2, a3⟩ := zsv13 n (k + 1) (zU M 2 (upd (M 2) (k - 954) (M 2 k))) (by omega) (by omega) (by omega)
      refine ⟨N, a0, fun f hf => by rw [a1 f hf, zU_n _ _ hf], fun j b1 b2 => ?_, fun j hj => ?_⟩
      · by_cases e : j + 954 = k
        · rw [a3 j (by omega), zU_s, show k - 954 = j by omega, zupd_s, e]
        · rw [a2 j (by omega) b2, zU_s, zupd_n _ _ (by omega)]
      · rw [a3 j (by omega), zU_s, zupd_n _ _ (by omega)]
/-- the reference saves its row -/
def zSv (M R : Nat → Nat → Int32) : Prop := (∀ k, k ≠ 1 → k ≠ 2 → R k = M k) ∧
  ((M 1 0 ≠ 6 ∧ R 1 0 = nI ((M 1 0).toNatClampNeg + 1) ∧ (∀ j, j < 954 → R 2 (954 * (M 1 0).toNatClampNeg + j) = M 0 j) ∧ (∀ q, q < 954 * (M 1 0).toNatClampNeg → R 2 q = M 2 q)) ∨
   (M 1 0 = 6 ∧ R 1 0 = 6 ∧ (∀ j, j < 954 → R 2 (4770 + j) = M 0 j) ∧ (∀ q, q < 4770 → R 2 q = M 2 (q + 954))))
theorem zsv (M : Nat → Nat → Int32) (h : vp_in (M 1 0) 7) : zSv M (v_X5_save M) := by
  unfold v_X5_save
  by_cases c : M 1 0 = 6
  · rw [if_pos c]
    obtain ⟨N, a0, a1, a2, a3⟩ := zsv13 4771 954 M (by omega) (by omega) (by omega)
    rw [a0]
    have e1 : N 1 0 = 6 := by rw [a1 1 (by decide)]; exact c
    have e5 : Int32.toNatClampNeg (zU N 1 (fun _ => (N 1 0) - 1) 1 0) = 5 := by
      rw [zU_s, e1]; decide
    obtain ⟨b1, b2, b3, b4⟩ := zsv54 955 0 (zU N 1 (fun _ => (N 1 0) - 1)) (by omega) (by omega)
    rw [e5] at b3 b4
    rw [zU_n N (k := 1) (j := 0) _ (by decide)] at b3
    rw [zU_n N (k := 1) (j := 2) _ (by decide)] at b4
    refine ⟨fun k h1 h2 => by rw [b1 k h1 h2, zU_n _ _ h1, a1 k h2], Or.inr ⟨c, ?_, fun j hj => ?_, fun q hq => ?_⟩⟩
    · rw [b2, zU_s, e1]; decide
    · rw [show 4770 + j = 954 * 5 + j by omega, b3 j (by omega) hj, a1 0 (by decide)]
    · rw [b4 q (by omega), a2 q (by omega) (by omega)]
  · rw [if_neg c]
    obtain ⟨b1, b2, b3, b4⟩ := zsv54 955 0 M (by omega) (by omega)
    refine ⟨b1, Or.inl ⟨c, ?_, fun j hj => b3 j (by omega) hj, fun q hq => b4 q (by omega)⟩⟩
    rw [b2, (znat h).1, nI_nat (Nat.lt_trans (znat h).2 (by decide))]; exact nI_1 _
theorem zsv_row {M : Nat → Nat → Int32} (h : vp_in (M 1 0) 7) : v_X5_save M 0 = M 0 := (zsv M h).1 0 (by decide) (by decide)
theorem zeats_k (M : Nat → Nat → Int32) (p b : Nat) : v_X5_eatsNow M p b = v_X5_eatsNow (fun _ => M 0) p b := rfl
theorem zeats_row {M N : Nat → Nat → Int32} (h : N 0 = M 0) (p b : Nat) : v_X5_eatsNow N p b = v_X5_eatsNow M p b := by
  rw [zeats_k N, zeats_k M, h]
theorem zla_at (b : Nat) : ∀ (n i : Nat) (M : Nat → Nat → Int32), 150 - i < n → i ≤ 150 → (∀ k, k ≠ 6 → v_X5_layAhead_2 b n i M k = M k) ∧ (∀ j, j < 150 → v_X5_layAhead_2 b n i M 6 j = if i ≤ j then (if v_X5_eatsNow M j b ≤ 0 then 0 else 1) else M 6 j)
  | 0, _, _, h, _ => absurd h (Nat.not_lt_zero _)
  | n + 1, i, M, h, hi => by
    rw [v_X5_layAhead_2]
    by_cases c : 150 ≤ i
    · rw [if_pos c]; exact ⟨fun _ _ => rfl, fun j hj => by rw [if_neg (by omega)]⟩
    · rw [if_neg c]
      have key : ∀ x : Int32, (if v_X5_eatsNow M i b ≤ 0 then (0 : Int32) else 1) = x → (∀ k, k ≠ 6 → v_X5_layAhead_2 b n (i + 1) (zU M 6 (upd (M 6) i x)) k = M k) ∧ (∀ j, j < 150 → v_X5_layAhead_2 b n (i + 1) (zU M 6 (upd (M 6) i x)) 6 j = if i ≤ j then (if v_X5_eatsNow M j b ≤ 0 then 0 else 1) else M 6 j) := by
        intro x hx
        obtain ⟨a1, a2⟩ := zla_at b n (i + 1) (zU M 6 (upd (M 6) i x)) (by omega) (by omega)
        refine ⟨fun k hk => by rw [a1 k hk, zU_n _ _ hk], fun j hj => ?_⟩
        rw [a2 j hj, zeats_row (M := M) (zU_n _ _ (by decide)), zU_s]
        by_cases e : j = i
        · subst e; rw [if_neg (by omega), if_pos (Nat.le_refl _), zupd_s, hx]
        · rw [zupd_n _ _ e]
          by_cases f : i ≤ j
          · rw [if_pos f, if_pos (by omega)]
          · rw [if_neg f, if_neg (by omega)]
      by_cases d : v_X5_eatsNow M i b ≤ 0
      · rw [if_pos d]; exact key 0 (if_pos d)
      · rw [if_neg d]; exact key 1 (if_neg d)
theorem zla_f (M : Nat → Nat → Int32) (b : Nat) {k : Nat} (hk : k ≠ 6) : v_X5_layAhead M b k = M k := by
  unfold v_X5_layAhead; exact (zla_at b 151 0 M (by omega) (by omega)).1 k hk
theorem zla_6 (M : Nat → Nat → Int32) (b : Nat) {j : Nat} (hj : j < 150) : v_X5_layAhead M b 6 j = if v_X5_eatsNow M j b ≤ 0 then 0 else 1 := by
  have h := (zla_at b 151 0 M (by omega) (by omega)).2 j hj
  rw [if_pos (Nat.zero_le _)] at h
  unfold v_X5_layAhead; exact h
theorem zks_at (b : Nat) : ∀ (n i : Nat) (M : Nat → Nat → Int32), 300 - i < n → i ≤ 300 → (v_X5_keepShare_2 b n i M).1 = v_X5_of M b 3 ∧ (∀ k, k ≠ 11 → (v_X5_keepShare_2 b n i M).2 k = M k) ∧ (∀ j, j < 300 → (v_X5_keepShare_2 b n i M).2 11 j = if i ≤ j then M 0 (53 + j) else M 11 j)
  | 0, _, _, h, _ => absurd h (Nat.not_lt_zero _)
  | n + 1, i, M, h, hi => by
    rw [v_X5_keepShare_2]
    by_cases c : 300 ≤ i
    · rw [if_pos c]; exact ⟨rfl, fun _ _ => rfl, fun j hj => by rw [if_neg (by omega)]⟩
    · rw [if_neg c]
      obtain ⟨a0, a1, a2⟩ := zks_at b n (i + 1) (zU M 11 (upd (M 11) i (M 0 (53 + i)))) (by omega) (by omega)
      refine ⟨?_, fun k hk => by rw [a1 k hk, zU_n _ _ hk], fun j hj => ?_⟩
      · rw [a0]; unfold v_X5_of; rw [zU_n _ _ (by decide)]
      · rw [a2 j hj, zU_s, zU_n _ _ (by decide)]
        by_cases e : j = i
        · subst e; rw [if_neg (by omega), if_pos (Nat.le_refl _), zupd_s]
        · rw [zupd_n _ _ e]
          by_cases f : i ≤ j
          · rw [if_pos f, if_pos (by omega)]
          · rw [if_neg f, if_neg (by omega)]
theorem zks_1 (M : Nat → Nat → Int32) (b : Nat) : (v_X5_keepShare M b).1 = v_X5_of M b 3 := by
  unfold v_X5_keepShare; exact (zks_at b 301 0 M (by omega) (by omega)).1
theorem zks_f (M : Nat → Nat → Int32) (b : Nat) {k : Nat} (hk : k ≠ 11) : (v_X5_keepShare M b).2 k = M k := by
  unfold v_X5_keepShare; exact (zks_at b 301 0 M (by omega) (by omega)).2.1 k hk
theorem zks_11 (M : Nat → Nat → Int32) (b : Nat) {j : Nat} (hj : j < 300) : (v_X5_keepShare M b).2 11 j = M 0 (53 + j) := by
  have h := (zks_at b 301 0 M (by omega) (by omega)).2.2 j hj
  rw [if_pos (Nat.zero_le _)] at h
  unfold v_X5_keepShare; exact h
theorem zlb_at (b : Nat) (sh : Int32) (hb : b < 8) : ∀ (n i : Nat) (M : Nat → Nat → Int32), 300 - i < n → i ≤ 300 → (∀ k, k ≠ 0 → v_X5_layBack_2 b sh n i M k = M k) ∧
    (∀ j, v_X5_layBack_2 b sh n i M 0 j = if 53 + i ≤ j ∧ j < 353 then M 11 (j - 53) else if j = 5 + (6 * b) + 3 then sh else M 0 j)
  | 0, _, _, h, _ => absurd h (Nat.not_lt_zero _)
  | n + 1, i, M, h, hi => by
    rw [v_X5_layBack_2]
    by_cases c : 300 ≤ i
    · rw [if_pos c]
      unfold v_X5_put
      refine ⟨fun k hk => zU_n _ _ hk, fun j => ?_⟩
      rw [if_neg (by omega), zU_s]; rfl
    · rw [if_neg c]
      obtain ⟨a1, a2⟩ := zlb_at b sh hb n (i + 1) (zU M 0 (upd (M 0) (53 + i) (M 11 i))) (by omega) (by omega)
      refine ⟨fun k hk => by rw [a1 k hk, zU_n _ _ hk], fun j => ?_⟩
      rw [a2 j, zU_s, zU_n _ _ (by decide)]
      by_cases e : j = 53 + i
      · subst e
        rw [if_neg (by omega), if_neg (by omega), zupd_s, if_pos (by omega), show 53 + i - 53 = i by omega]
      · rw [zupd_n _ _ e]
        by_cases f : 53 + i ≤ j ∧ j < 353
        · rw [if_pos f, if_pos ⟨by omega, f.2⟩]
        · rw [if_neg f, if_neg (fun z => f ⟨by omega, z.2⟩)]
theorem zlb_f (M : Nat → Nat → Int32) {b : Nat} (hb : b < 8) (sh : Int32) {k : Nat} (hk : k ≠ 0) : v_X5_layBack M b sh k = M k := by
  unfold v_X5_layBack; exact (zlb_at b sh hb 301 0 M (by omega) (by omega)).1 k hk
theorem zlb_0 (M : Nat → Nat → Int32) {b : Nat} (hb : b < 8) (sh : Int32) (j : Nat) : v_X5_layBack M b sh 0 j = if 53 ≤ j ∧ j < 353 then M 11 (j - 53) else if j = 5 + (6 * b) + 3 then sh else M 0 j := by
  unfold v_X5_layBack; exact (zlb_at b sh hb 301 0 M (by omega) (by omega)).2 j
