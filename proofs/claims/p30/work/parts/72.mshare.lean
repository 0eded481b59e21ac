/-! buckets given and taken, counted -/
theorem zupd_s (f : Nat → Int32) (k : Nat) (x : Int32) : upd f k x k = x := by unfold upd; rw [if_pos rfl]
theorem zupd_n (f : Nat → Int32) {k j : Nat} (x : Int32) (h : j ≠ k) : upd f k x j = f j := by unfold upd; rw [if_neg h]
theorem nI_nat {k : Nat} (h : k < 2 ^ 31) : (nI k).toNatClampNeg = k := by
  have e : (nI k).toNatClampNeg = (nI k).toInt.toNat := rfl
  rw [e, nI_toInt h]; exact Int.toNat_natCast k
theorem nI_dec {k : Nat} (h : k + 1 < 2 ^ 31) : nI (k + 1) + (-1) = nI k := by
  apply Int32.toInt_inj.mp
  rw [zdecp (by rw [nI_toInt h]; omega), nI_toInt h, nI_toInt (by omega)]; omega
theorem zct_upd (f : Nat → Int32) (t : Nat) (x y : Int32) (off : Nat) : ∀ n : Nat, zct (upd f t y) x off n + (if off ≤ t ∧ t < off + n ∧ f t = x then 1 else 0) = zct f x off n + (if off ≤ t ∧ t < off + n ∧ y = x then 1 else 0)
  | 0 => by
    rw [if_neg (by omega), if_neg (by omega)]; rfl
  | n + 1 => by
    have ih := zct_upd f t x y off n
    show zct (upd f t y) x off n + (if upd f t y (off + n) = x then 1 else 0) + _ = zct f x off n + (if f (off + n) = x then 1 else 0) + _
    by_cases q : t = off + n
    · subst q
      rw [if_neg (by omega), if_neg (by omega)] at ih
      rw [zupd_s]
      by_cases a1 : f (off + n) = x <;> by_cases a2 : y = x
      · rw [if_pos a2, if_pos a1, if_pos ⟨by omega, by omega, a1⟩, if_pos ⟨by omega, by omega, a2⟩]; omega
      · rw [if_neg a2, if_pos a1, if_pos ⟨by omega, by omega, a1⟩, if_neg (fun h => a2 h.2.2)]; omega
      · rw [if_pos a2, if_neg a1, if_neg (fun h => a1 h.2.2), if_pos ⟨by omega, by omega, a2⟩]; omega
      · rw [if_neg a2, if_neg a1, if_neg (fun h => a1 h.2.2), if_neg (fun h => a2 h.2.2)]; omega
    · rw [zupd_n _ _ (Ne.symm q)]
      have e1 : (if off ≤ t ∧ t < off + (n + 1) ∧ f t = x then 1 else 0) = (if off ≤ t ∧ t < off + n ∧ f t = x then 1 else 0) := by
        by_cases a : off ≤ t ∧ t < off + n ∧ f t = x
        · rw [if_pos a, if_pos ⟨a.1, by omega, a.2.2⟩]
        · rw [if_neg a, if_neg (fun h => a ⟨h.1, by omega, h.2.2⟩)]
      have e2 : (if off ≤ t ∧ t < off + (n + 1) ∧ y = x then 1 else 0) = (if off ≤ t ∧ t < off + n ∧ y = x then 1 else 0) := by
        by_cases a : off ≤ t ∧ t < off + n ∧ y = x
        · rw [if_pos a, if_pos ⟨a.1, by omega, a.2.2⟩]
        · rw [if_neg a, if_neg (fun h => a ⟨h.1, by omega, h.2.2⟩)]
      rw [e1, e2]; omega
theorem zct_pos (f : Nat → Int32) (x : Int32) (off : Nat) : ∀ n : Nat, 0 < zct f x off n → ∃ k, k < n ∧ f (off + k) = x
  | 0, h => absurd h (Nat.lt_irrefl 0)
  | n + 1, h => by
    by_cases q : f (off + n) = x
    · exact ⟨n, by omega, q⟩
    · have h2 : 0 < zct f x off n + (if f (off + n) = x then 1 else 0) := h
      rw [if_neg q] at h2
      obtain ⟨k, hk, e⟩ := zct_pos f x off n h2
      exact ⟨k, by omega, e⟩
theorem zct_congr {f g : Nat → Int32} (x : Int32) (off : Nat) : ∀ n : Nat, (∀ k, k < n → f (off + k) = g (off + k)) → zct f x off n = zct g x off n
  | 0, _ => rfl
  | n + 1, h => by
    show zct f x off n + (if f (off + n) = x then 1 else 0) = zct g x off n + (if g (off + n) = x then 1 else 0)
    rw [zct_congr x off n (fun k hk => h k (by omega)), h n (by omega)]
theorem zct_le (f : Nat → Int32) (x : Int32) (off : Nat) : ∀ n : Nat, zct f x off n ≤ n
  | 0 => Nat.le_refl 0
  | n + 1 => by
    have := zct_le f x off n
    show zct f x off n + (if f (off + n) = x then 1 else 0) ≤ n + 1
    by_cases q : f (off + n) = x
    · rw [if_pos q]; omega
    · rw [if_neg q]; omega
theorem zgl_at (N : Nat → Nat → Int32) (b : Nat) : ∀ (n k t : Nat), k ≤ t → N 0 t = -1 → t - k < n → ∃ t', k ≤ t' ∧ t' ≤ t ∧ N 0 t' = -1 ∧ (∀ j, k ≤ j → j < t' → N 0 j ≠ -1) ∧ v_X5_giveLowest_13 N b n k = zU N 0 (upd (N 0) t' (nI b))
  | 0, k, t, _, _, h => absurd h (Nat.not_lt_zero _)
  | n + 1, k, t, h1, h2, h3 => by
    by_cases q : N 0 k = -1
    · refine ⟨k, Nat.le_refl _, h1, q, fun j a b => by omega, ?_⟩
      rw [v_X5_giveLowest_13, if_pos q]
    · have h4 := zne (f := N 0) q h2 h1
      obtain ⟨t', a1, a2, a3, a4, a5⟩ := zgl_at N b n (k + 1) t h4 h2 (by omega)
      refine ⟨t', by omega, a2, a3, fun j b1 b2 => ?_, ?_⟩
      · by_cases e : j = k
        · rw [e]; exact q
        · exact a4 j (by omega) b2
      · rw [v_X5_giveLowest_13, if_neg q]; exact a5
theorem zgl_char {N : Nat → Nat → Int32} {b : Nat} (h : ∃ k, k < 100 ∧ N 0 (53 + (100 * (Int32.toNatClampNeg (v_X5_of N b 1))) + k) = -1) :
    ∃ t, 53 + (100 * (Int32.toNatClampNeg (v_X5_of N b 1))) ≤ t ∧ t < 53 + (100 * (Int32.toNatClampNeg (v_X5_of N b 1))) + 100 ∧ N 0 t = -1 ∧ (∀ j, 53 + (100 * (Int32.toNatClampNeg (v_X5_of N b 1))) ≤ j → j < t → N 0 j ≠ -1) ∧ v_X5_giveLowest N b = zU N 0 (upd (N 0) t (nI b)) := by
  obtain ⟨k, hk, e⟩ := h
  obtain ⟨t, a1, a2, a3, a4, a5⟩ := zgl_at N b 101 (53 + (100 * (Int32.toNatClampNeg (v_X5_of N b 1)))) _ (by omega) e (by omega)
  exact ⟨t, a1, by omega, a3, a4, a5⟩
theorem zth_at (N : Nat → Nat → Int32) (b : Nat) : ∀ (n k t : Nat), t ≤ k → N 0 t = nI b → k - t < n → k < 1000 → ∃ t', t ≤ t' ∧ t' ≤ k ∧ N 0 t' = nI b ∧ (∀ j, t' < j → j ≤ k → N 0 j ≠ nI b) ∧ v_X5_takeHighest_18 N b n (nI k) = zU N 0 (upd (N 0) t' (-1))
  | 0, k, t, _, _, h, _ => absurd h (Nat.not_lt_zero _)
  | n + 1, k, t, h1, h2, h3, h5 => by
    by_cases q : N 0 k = nI b
    · refine ⟨k, h1, Nat.le_refl _, q, fun j a b => by omega, ?_⟩
      rw [v_X5_takeHighest_18, nI_nat (by omega), if_pos q]
    · have h4 : t ≠ k := fun e => q (by rw [← e]; exact h2)
      obtain ⟨k', rfl⟩ : ∃ k', k = k' + 1 := ⟨k - 1, by omega⟩
      obtain ⟨t', a1, a2, a3, a4, a5⟩ := zth_at N b n k' t (by omega) h2 (by omega) (by omega)
      refine ⟨t', a1, by omega, a3, fun j b1 b2 => ?_, ?_⟩
      · by_cases e : j = k' + 1
        · rw [e]; exact q
        · exact a4 j b1 (by omega)
      · rw [v_X5_takeHighest_18, nI_nat (by omega), if_neg q, nI_dec (by omega)]; exact a5
theorem zth_char {N : Nat → Nat → Int32} {b : Nat} (hg : vp_in (v_X5_of N b 1) 3) (h : ∃ k, k < 100 ∧ N 0 (53 + (100 * (Int32.toNatClampNeg (v_X5_of N b 1))) + k) = nI b) :
    ∃ t, 53 + (100 * (Int32.toNatClampNeg (v_X5_of N b 1))) ≤ t ∧ t < 53 + (100 * (Int32.toNatClampNeg (v_X5_of N b 1))) + 100 ∧ N 0 t = nI b ∧ (∀ j, t < j → j < 53 + (100 * (Int32.toNatClampNeg (v_X5_of N b 1))) + 100 → N 0 j ≠ nI b) ∧ v_X5_takeHighest N b = zU N 0 (upd (N 0) t (-1)) := by
  obtain ⟨k, hk, e⟩ := h
  have hg2 := (znat hg).2
  obtain ⟨t, a1, a2, a3, a4, a5⟩ := zth_at N b 101 ((53 + (100 * (Int32.toNatClampNeg (v_X5_of N b 1))) + 100) - 1) _ (by omega) e (by omega) (by omega)
  exact ⟨t, by omega, by omega, a3, fun j b1 b2 => a4 j b1 (by omega), a5⟩
section ZW
variable {M N : Nat → Nat → Int32} {b to k : Nat}
theorem zof_eq (r : ∀ j : Nat, j < 53 → N 0 j = M 0 j) (hb : b < 8) {k : Nat} (hk : k < 6) : v_X5_of N b k = v_X5_of M b k := r _ (by omega)
theorem zisg_eq (r : ∀ j : Nat, j < 53 → N 0 j = M 0 j) (hb : b < 8) : v_X5_isOfGroup N b = v_X5_isOfGroup M b := by
  unfold v_X5_isOfGroup; rw [zof_eq r hb (by decide)]
theorem zig (r : ∀ j : Nat, j < 53 → N 0 j = M 0 j) (hb : b < 8) (i : zI M) (c : v_X5_isOfGroup N b = true) : vp_in (v_X5_of N b 1) 3 := by
  rw [zisg_eq r hb] at c
  rw [zof_eq r hb (by decide)]; exact zmg c hb (zI_G i)
theorem zown0 (hb : b < 8) (i : zI M) : v_X5_isOfGroup M b = true → Int32.toNatClampNeg (v_X5_of M b 3) ≤ zct (M 0) (nI b) (53 + (100 * (Int32.toNatClampNeg (v_X5_of M b 1)))) 100 := fun c =>
  Nat.le_of_eq ((i.2.1 b hb).2.2 (zmg c hb (zI_G i)))
theorem nI_ne1 (hb : b < 8) : nI b ≠ -1 := fun e => by
  have h1 := congrArg Int32.toInt e
  have h3 : (-1 : Int32).toInt = -1 := by decide
  rw [nI_toInt (by omega), h3] at h1; omega
end ZW
def v_X5_setShare_33 (b : Nat) (to : Nat) : Nat → Nat → (Nat → Nat → Int32) → (Nat → Nat → Int32)
  | 0, _, _ => ((fun _ _ => 0))
  | n + 1, k, M1' => (if Int32.toNatClampNeg (v_X5_of M1' b 3) ≤ k then v_X5_put M1' b 3 (nI to) else (if (v_X5_isOfGroup M1' b) = true then v_X5_setShare_33 b to n (k + 1) (v_X5_takeHighest M1' b) else v_X5_put M1' b 3 (nI to)))
def v_X5_setShare_7 (b : Nat) (to : Nat) : Nat → Nat → (Nat → Nat → Int32) → (Nat → Nat → Int32)
  | 0, _, _ => ((fun _ _ => 0))
  | n + 1, i, M1 => (if to ≤ i then v_X5_setShare_33 b to 102 to M1 else (if (v_X5_isOfGroup M1 b) = true then v_X5_setShare_7 b to n (i + 1) (v_X5_giveLowest M1 b) else v_X5_setShare_33 b to 102 to M1))
def v_X5_setShare (M : Nat → Nat → Int32) (b : Nat) (to : Nat) : (Nat → Nat → Int32) := v_X5_setShare_7 b to 101 (Int32.toNatClampNeg (v_X5_of M b 3)) M
