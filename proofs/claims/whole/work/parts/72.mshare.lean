/-! buckets given and taken, counted -/
theorem zupd_s (f : Nat → Int32) (k : Nat) (x : Int32) : upd f k x k = x := by unfold upd; rw [if_pos rfl]
theorem zupd_n (f : Nat → Int32) {k j : Nat} (x : Int32) (h : j ≠ k) : upd f k x j = f j := by unfold upd; rw [if_neg h]
theorem nI_nat {k : Nat} (h : k < 2 ^ 31) : (nI k).toNatClampNeg = k := by
  have e : (nI k).toNatClampNeg = (nI k).toInt.toNat := rfl
  rw [e, nI_toInt h]; exact Int.toNat_natCast k
theorem nI_dec {k : Nat} (h : k + 1 < 2 ^ 31) : nI (k + 1) + (-1) = nI k := by
  apply Int32.toInt_inj.mp
  rw [zdecp (by rw [nI_toInt h]; omega), nI_toInt h, nI_toInt (by omega)]; omega
theorem zct_upd (f : Nat → Int32) (t : Nat) (x y : Int32) (off : Nat) : ∀ n : Nat, zct (upd f t y) x off n + (if off ≤ t ∧ t < off + n ∧ f t = x then 1 else 0) = zct f x off n + (if off ≤ t ∧ t < off + n ∧ y = x then 1 else 0)
  | 0 => by
    rw [if_neg (by omega), if_neg (by omega)]; rfl
  | n + 1 => by
    have ih := zct_upd f t x y off n
    show zct (upd f t y) x off n + (if upd f t y (off + n) = x then 1 else 0) + _ = zct f x off n + (if f (off + n) = x then 1 else 0) + _
    by_cases q : t = off + n
    · subst q
      rw [if_neg (by omega), if_neg (by omega)] at ih
      rw [zupd_s]
      by_cases a1 : f (off + n) = x <;> by_cases a2 : y = x
      · rw [if_pos a2, if_pos a1, if_pos ⟨by omega, by omega, a1⟩, if_pos ⟨by omega, by omega, a2⟩]; omega
      · rw [if_neg a2, if_pos a1, if_pos ⟨by omega, by omega, a1⟩, if_neg (fun h => a2 h.2.2)]; omega
      · rw [if_pos a2, if_neg a1, if_neg (fun h => a1 h.2.2), if_pos ⟨by omega, by omega, a2⟩]; omega
      · rw [if_neg a2, if_neg a1, if_neg (fun h => a1 h.2.2), if_neg (fun h => a2 h.2.2)]; omega
    · rw [zupd_n _ _ (Ne.symm q)]
      have e1 : (if off ≤ t ∧ t < off + (n + 1) ∧ f t = x then 1 else 0) = (if off ≤ t ∧ t < off + n ∧ f t = x then 1 else 0) := by
        by_cases a : off ≤ t ∧ t < off + n ∧ f t = x
        · rw [if_pos a, if_pos ⟨a.1, by omega, a.2.2⟩]
        · rw [if_neg a, if_neg (fun h => a ⟨h.1, by omega, h.2.2⟩)]
      have e2 : (if off ≤ t ∧ t < off + (n + 1) ∧ y = x then 1 else 0) = (if off ≤ t ∧ t < off + n ∧ y = x then 1 else 0) := by
        by_cases a : off ≤ t ∧ t < off + n ∧ y = x
        · rw [if_pos a, if_pos ⟨a.1, by omega, a.2.2⟩]
        · rw [if_neg a, if_neg (fun h => a ⟨h.1, by omega, h.2.2⟩)]
      rw [e1, e2]; omega
theorem zct_pos (f : Nat → Int32) (x : Int32) (off : Nat) : ∀ n : Nat, 0 < zct f x off n → ∃ k, k < n ∧ f (off + k) = x
  | 0, h => absurd h (Nat.lt_irrefl 0)
  | n + 1, h => by
    by_cases q : f (off + n) = x
    · exact ⟨n, by omega, q⟩
    · have h2 : 0 < zct f x off n + (if f (off + n) = x then 1 else 0) := h
      rw [if_neg q] at h2
      obtain ⟨k, hk, e⟩ := zct_pos f x off n h2
      exact ⟨k, by omega, e⟩
theorem zct_congr {f g : Nat → Int32} (x : Int32) (off : Nat) : ∀ n : Nat, (∀ k, k < n → f (off + k) = g (off + k)) → zct f x off n = zct g x off n
  | 0, _ => rfl
  | n + 1, h => by
    show zct f x off n + (if f (off + n) = x then 1 else 0) = zct g x off n + (if g (off + n) = x then 1 else 0)
    rw [zct_congr x off n (fun k hk => h k (by omega)), h n (by omega)]
theorem zct_le (f : Nat → Int32) (x : Int32) (off : Nat) : ∀ n : Nat, zct f x off n ≤ n
  | 0 => Nat.le_refl 0
  | n + 1 => by
    have := zct_le f x off n
    show zct f x off n + (if f (off + n) = x then 1 else 0) ≤ n + 1
    by_cases q : f (off + n) = x
    · rw [if_pos q]; omega
    · rw [if_neg q]; omega
theorem zgl_at (N : Nat → Nat → Int32) (b : Nat) : ∀ (n k t : Nat), k ≤ t → N 0 t = -1 → t - k < n → ∃ t', k ≤ t' ∧ t' ≤ t ∧ N 0 t' = -1 ∧ (∀ j, k ≤ j → j < t' → N 0 j ≠ -1) ∧ v_X5_giveLowest_13 N b n k = zU N 0 (upd (N 0) t' (nI b))
  | 0, k, t, _, _, h => absurd h (Nat.not_lt_zero _)
  | n + 1, k, t, h1, h2, h3 => by
    by_cases q : N 0 k = -1
    · refine ⟨k, Nat.le_refl _, h1, q, fun j a b => by omega, ?_⟩
      rw [v_X5_giveLowest_13, if_pos q]
    · have h4 := zne (f := N 0) q h2 h1
      obtain ⟨t', a1, a2, a3, a4, a5⟩ := zgl_at N b n (k + 1) t h4 h2 (by omega)
      refine ⟨t', by omega, a2, a3, fun j b1 b2 => ?_, ?_⟩
      · by_cases e : j = k
        · rw [e]; exact q
        · exact a4 j (by omega) b2
      · rw [v_X5_giveLowest_13, if_neg q]; exact a5
theorem zgl_char {N : Nat → Nat → Int32} {b : Nat} (h : ∃ k, k < 100 ∧ N 0 (53 + (100 * (Int32.toNatClampNeg (v_X5_of N b 1))) + k) = -1) :
    ∃ t, 53 + (100 * (Int32.toNatClampNeg (v_X5_of N b 1))) ≤ t ∧ t < 53 + (100 * (Int32.toNatClampNeg (v_X5_of N b 1))) + 100 ∧ N 0 t = -1 ∧ (∀ j, 53 + (100 * (Int32.toNatClampNeg (v_X5_of N b 1))) ≤ j → j < t → N 0 j ≠ -1) ∧ v_X5_giveLowest N b = zU N 0 (upd (N 0) t (nI b)) := by
  obtain ⟨k, hk, e⟩ := h
  obtain ⟨t, a1, a2, a3, a4, a5⟩ := zgl_at N b 101 (53 + (100 * (Int32.toNatClampNeg (v_X5_of N b 1)))) _ (by omega) e (by omega)
  exact ⟨t, a1, by omega, a3, a4, a5⟩
theorem zth_at (N : Nat → Nat → Int32) (b : Nat) : ∀ (n k t : Nat), t ≤ k → N 0 t = nI b → k - t < n → k < 1000 → ∃ t', t ≤ t' ∧ t' ≤ k ∧ N 0 t' = nI b ∧ (∀ j, t' < j → j ≤ k → N 0 j ≠ nI b) ∧ v_X5_takeHighest_18 N b n (nI k) = zU N 0 (upd (N 0) t' (-1))
  | 0, k, t, _, _, h, _ => absurd h (Nat.not_lt_zero _)
  | n + 1, k, t, h1, h2, h3, h5 => by
    by_cases q : N 0 k = nI b
    · refine ⟨k, h1, Nat.le_refl _, q, fun j a b => by omega, ?_⟩
      rw [v_X5_takeHighest_18, nI_nat (by omega), if_pos q]
    · have h4 : t ≠ k := fun e => q (by rw [← e]; exact h2)
      obtain ⟨k', rfl⟩ : ∃ k', k = k' + 1 := ⟨k - 1, by omega⟩
      obtain ⟨t', a1, a2, a3, a4, a5⟩ := zth_at N b n k' t (by omega) h2 (by omega) (by omega)
      refine ⟨t', a1, by omega, a3, fun j b1 b2 => ?_, ?_⟩
      · by_cases e : j = k' + 1
        · rw [e]; exact q
        · exact a4 j b1 (by omega)
      · rw [v_X5_takeHighest_18, nI_nat (by omega), if_neg q, nI_dec (by omega)]; exact a5
theorem zth_char {N : Nat → Nat → Int32} {b : Nat} (hg : vp_in (v_X5_of N b 1) 3) (h : ∃ k, k < 100 ∧ N 0 (53 + (100 * (Int32.toNatClampNeg (v_X5_of N b 1))) + k) = nI b) :
    ∃ t, 53 + (100 * (Int32.toNatClampNeg (v_X5_of N b 1))) ≤ t ∧ t < 53 + (100 * (Int32.toNatClampNeg (v_X5_of N b 1))) + 100 ∧ N 0 t = nI b ∧ (∀ j, t < j → j < 53 + (100 * (Int32.toNatClampNeg (v_X5_of N b 1))) + 100 → N 0 j ≠ nI b) ∧ v_X5_takeHighest N b = zU N 0 (upd (N 0) t (-1)) := by
  obtain ⟨k, hk, e⟩ := h
  have hg2 := (znat hg).2
  obtain ⟨t, a1, a2, a3, a4, a5⟩ := zth_at N b 101 ((53 + (100 * (Int32.toNatClampNeg (v_X5_of N b 1))) + 100) - 1) _ (by omega) e (by omega) (by omega)
  exact ⟨t, by omega, by omega, a3, fun j b1 b2 => a4 j b1 (by omega), a5⟩
section ZW
variable {M N : Nat → Nat → Int32} {b to k : Nat}
theorem zof_eq (r : ∀ j : Nat, j < 53 → N 0 j = M 0 j) (hb : b < 8) {k : Nat} (hk : k < 6) : v_X5_of N b k = v_X5_of M b k := r _ (by omega)
theorem zsh_of (r : ∀ j : Nat, j < 53 → N 0 j = M 0 j) (hb : b < 8) (i : zI M) : vp_in (v_X5_of N b 3) 101 := by
  rw [zof_eq r hb (by decide)]; exact (i.2.1 b hb).2.1
theorem zisg_eq (r : ∀ j : Nat, j < 53 → N 0 j = M 0 j) (hb : b < 8) : v_X5_isOfGroup N b = v_X5_isOfGroup M b := by
  unfold v_X5_isOfGroup; rw [zof_eq r hb (by decide)]
theorem zig (r : ∀ j : Nat, j < 53 → N 0 j = M 0 j) (hb : b < 8) (i : zI M) (c : v_X5_isOfGroup N b = true) : vp_in (v_X5_of N b 1) 3 := by
  rw [zisg_eq r hb] at c
  rw [zof_eq r hb (by decide)]; exact zmg c hb (zI_G i)
theorem zown0 (hb : b < 8) (i : zI M) : v_X5_isOfGroup M b = true → Int32.toNatClampNeg (v_X5_of M b 3) ≤ zct (M 0) (nI b) (53 + (100 * (Int32.toNatClampNeg (v_X5_of M b 1)))) 100 := fun c =>
  Nat.le_of_eq ((i.2.1 b hb).2.2 (zmg c hb (zI_G i)))
theorem zgl (r : ∀ j : Nat, j < 53 → N 0 j = M 0 j) (hb : b < 8) (i : zI M) (c : v_X5_isOfGroup N b = true) (lt : ¬ to ≤ k)
    (fr : v_X5_isOfGroup M b = true → to - k ≤ zct (N 0) (-1) (53 + (100 * (Int32.toNatClampNeg (v_X5_of M b 1)))) 100) : ∃ k, k < 100 ∧ N 0 (53 + (100 * (Int32.toNatClampNeg (v_X5_of N b 1))) + k) = -1 := by
  have h := fr (by rw [← zisg_eq r hb]; exact c)
  rw [zof_eq r hb (by decide)]
  exact zct_pos (N 0) (-1) _ 100 (by omega)
theorem zgl_row (r : ∀ j : Nat, j < 53 → N 0 j = M 0 j) (hb : b < 8) (i : zI M) (c : v_X5_isOfGroup N b = true) (lt : ¬ to ≤ k)
    (fr : v_X5_isOfGroup M b = true → to - k ≤ zct (N 0) (-1) (53 + (100 * (Int32.toNatClampNeg (v_X5_of M b 1)))) 100) : ∀ j : Nat, j < 53 → v_X5_giveLowest N b 0 j = M 0 j := by
  obtain ⟨t, a1, a2, a3, a4, a5⟩ := zgl_char (zgl r hb i c lt fr)
  intro j hj
  rw [a5, zU_s, zupd_n _ _ (by omega)]; exact r j hj
theorem nI_ne1 (hb : b < 8) : nI b ≠ -1 := fun e => by
  have h1 := congrArg Int32.toInt e
  have h3 : (-1 : Int32).toInt = -1 := by decide
  rw [nI_toInt (by omega), h3] at h1; omega
theorem zgl_fr (r : ∀ j : Nat, j < 53 → N 0 j = M 0 j) (hb : b < 8) (i : zI M) (c : v_X5_isOfGroup N b = true) (lt : ¬ to ≤ k)
    (fr : v_X5_isOfGroup M b = true → to - k ≤ zct (N 0) (-1) (53 + (100 * (Int32.toNatClampNeg (v_X5_of M b 1)))) 100) :
    v_X5_isOfGroup M b = true → to - (k + 1) ≤ zct (v_X5_giveLowest N b 0) (-1) (53 + (100 * (Int32.toNatClampNeg (v_X5_of M b 1)))) 100 := by
  intro c2
  obtain ⟨t, a1, a2, a3, a4, a5⟩ := zgl_char (zgl r hb i c lt fr)
  have h := fr c2
  rw [zof_eq r hb (by decide)] at a1 a2
  rw [a5, zU_s]
  have e := zct_upd (N 0) t (-1) (nI b) (53 + (100 * (Int32.toNatClampNeg (v_X5_of M b 1)))) 100
  rw [if_pos ⟨a1, a2, a3⟩, if_neg (fun h => nI_ne1 hb h.2.2)] at e
  omega
theorem zgl_ow (r : ∀ j : Nat, j < 53 → N 0 j = M 0 j) (hb : b < 8) (i : zI M) (c : v_X5_isOfGroup N b = true) (lt : ¬ to ≤ k)
    (fr : v_X5_isOfGroup M b = true → to - k ≤ zct (N 0) (-1) (53 + (100 * (Int32.toNatClampNeg (v_X5_of M b 1)))) 100) {S : Nat}
    (ow : v_X5_isOfGroup M b = true → S ≤ zct (N 0) (nI b) (53 + (100 * (Int32.toNatClampNeg (v_X5_of M b 1)))) 100) :
    v_X5_isOfGroup M b = true → S ≤ zct (v_X5_giveLowest N b 0) (nI b) (53 + (100 * (Int32.toNatClampNeg (v_X5_of M b 1)))) 100 := by
  intro c2
  obtain ⟨t, a1, a2, a3, a4, a5⟩ := zgl_char (zgl r hb i c lt fr)
  have h := ow c2
  rw [zof_eq r hb (by decide)] at a1 a2
  rw [a5, zU_s]
  have e := zct_upd (N 0) t (nI b) (nI b) (53 + (100 * (Int32.toNatClampNeg (v_X5_of M b 1)))) 100
  rw [if_neg (fun h => nI_ne1 hb (h.2.2.symm.trans a3)), if_pos ⟨a1, a2, rfl⟩] at e
  omega
theorem zth (r : ∀ j : Nat, j < 53 → N 0 j = M 0 j) (hb : b < 8) (i : zI M) (c : v_X5_isOfGroup N b = true) (lt : ¬ Int32.toNatClampNeg (v_X5_of N b 3) ≤ k)
    (ow : v_X5_isOfGroup M b = true → Int32.toNatClampNeg (v_X5_of M b 3) - k ≤ zct (N 0) (nI b) (53 + (100 * (Int32.toNatClampNeg (v_X5_of M b 1)))) 100) : ∃ k, k < 100 ∧ N 0 (53 + (100 * (Int32.toNatClampNeg (v_X5_of N b 1))) + k) = nI b := by
  have h := ow (by rw [← zisg_eq r hb]; exact c)
  rw [zof_eq r hb (by decide)] at lt
  rw [zof_eq r hb (by decide)]
  exact zct_pos (N 0) (nI b) _ 100 (by omega)
theorem zth_row (r : ∀ j : Nat, j < 53 → N 0 j = M 0 j) (hb : b < 8) (i : zI M) (c : v_X5_isOfGroup N b = true) (lt : ¬ Int32.toNatClampNeg (v_X5_of N b 3) ≤ k)
    (ow : v_X5_isOfGroup M b = true → Int32.toNatClampNeg (v_X5_of M b 3) - k ≤ zct (N 0) (nI b) (53 + (100 * (Int32.toNatClampNeg (v_X5_of M b 1)))) 100) : ∀ j : Nat, j < 53 → v_X5_takeHighest N b 0 j = M 0 j := by
  obtain ⟨t, a1, a2, a3, a4, a5⟩ := zth_char (zig r hb i c) (zth r hb i c lt ow)
  intro j hj
  rw [a5, zU_s, zupd_n _ _ (by omega)]; exact r j hj
theorem zth_ow (r : ∀ j : Nat, j < 53 → N 0 j = M 0 j) (hb : b < 8) (i : zI M) (c : v_X5_isOfGroup N b = true) (lt : ¬ Int32.toNatClampNeg (v_X5_of N b 3) ≤ k)
    (ow : v_X5_isOfGroup M b = true → Int32.toNatClampNeg (v_X5_of M b 3) - k ≤ zct (N 0) (nI b) (53 + (100 * (Int32.toNatClampNeg (v_X5_of M b 1)))) 100) :
    v_X5_isOfGroup M b = true → Int32.toNatClampNeg (v_X5_of M b 3) - (k + 1) ≤ zct (v_X5_takeHighest N b 0) (nI b) (53 + (100 * (Int32.toNatClampNeg (v_X5_of M b 1)))) 100 := by
  intro c2
  obtain ⟨t, a1, a2, a3, a4, a5⟩ := zth_char (zig r hb i c) (zth r hb i c lt ow)
  have h := ow c2
  rw [zof_eq r hb (by decide)] at a1 a2
  rw [a5, zU_s]
  have e := zct_upd (N 0) t (nI b) (-1) (53 + (100 * (Int32.toNatClampNeg (v_X5_of M b 1)))) 100
  rw [if_pos ⟨a1, a2, a3⟩, if_neg (fun h => nI_ne1 hb h.2.2.symm)] at e
  omega
end ZW
def v_X5_setShare_33 (b : Nat) (to : Nat) : Nat → Nat → (Nat → Nat → Int32) → (Nat → Nat → Int32)
  | 0, _, _ => ((fun _ _ => 0))
  | n + 1, k, M1' => (if Int32.toNatClampNeg (v_X5_of M1' b 3) ≤ k then v_X5_put M1' b 3 (nI to) else (if (v_X5_isOfGroup M1' b) = true then v_X5_setShare_33 b to n (k + 1) (v_X5_takeHighest M1' b) else v_X5_put M1' b 3 (nI to)))
def v_X5_setShare_7 (b : Nat) (to : Nat) : Nat → Nat → (Nat → Nat → Int32) → (Nat → Nat → Int32)
  | 0, _, _ => ((fun _ _ => 0))
  | n + 1, i, M1 => (if to ≤ i then v_X5_setShare_33 b to 102 to M1 else (if (v_X5_isOfGroup M1 b) = true then v_X5_setShare_7 b to n (i + 1) (v_X5_giveLowest M1 b) else v_X5_setShare_33 b to 102 to M1))
def v_X5_setShare (M : Nat → Nat → Int32) (b : Nat) (to : Nat) : (Nat → Nat → Int32) := v_X5_setShare_7 b to 101 (Int32.toNatClampNeg (v_X5_of M b 3)) M
set_option maxHeartbeats 400000 in
set_option maxRecDepth 100000 in
theorem c_X5_setShare (l : Launch) (D : va_G) (g : Nat → ClassId) (u : Nat → Nat) (M : Nat → Nat → Int32) (w : Int64) (b : Nat) (to : Nat) (z0 : b < 8) (z1 : zI M) (z2 : to ≤ 100) (z3 : v_X5_isOfGroup M b = true → to ≤ (Int32.toNatClampNeg (v_X5_of M b 3)) + zct (M 0) (-1) (53 + (100 * (Int32.toNatClampNeg (v_X5_of M b 1)))) 100) : Wr l D (zT g) yX5_setShare wsX5_setShare (rmOf 2 44) [.ref (u 0), .int (nI b), .int (nI to)] (zB_X5 (g 0) u M w) (none) (zB_X5 (g 0) u (v_X5_setShare M b to) w) := by
  refine Wr.of (cc := cX5_setShare) (maxL := 4) (ret := none) (by decide) rfl (Nat.le_of_ble_eq_true rfl) ?_
  intro p e s m below meth c ls hx hb hr hml hown hts hlocks hP hD hS hK hl
  have hown : s.vm.findClass RX5 = some m.cls := hown
  obtain ⟨q, hq⟩ : ∃ q : (Nat → Nat → Int32), q = v_X5_setShare M b to := ⟨_, rfl⟩
  rw [← hq]
  unfold v_X5_setShare at hq
  have hl : lv_has ls 4 [(0, .ref (u 0)), (1, .int (nI b)), (2, .int (nI to))] := hl
  refine lv_aload_n hx hb dX5_setShare_0 rfl (lv_at hl 0 rfl) ?_
  refine lv_iload_n hx hb dX5_setShare_1 rfl (lv_at hl 1 rfl) ?_
  refine lv_iconst (v := 3) hx hb dX5_setShare_2 (by decide) ?_
  refine zcV (ci := 5) (n := 2) (c_X5_of l D g u M w b 3 (by omega)) hx hb hml hown hts gX5_setShare_X5_of rfl ⟨rfl, by decide, by decide, by decide⟩ ⟨Nat.le_of_ble_eq_true rfl, Nat.le_of_ble_eq_true rfl⟩ ⟨rfl, rfl⟩ hK hP rfl rfl rfl hl.1 rfl rfl (Nat.le_of_ble_eq_true rfl) ⟨Nat.zero_le _, Nat.zero_le _⟩ dX5_setShare_3 ?_
  have w_2 := znat (z1.2.1 b z0).2.1
  have w_2b := w_2.2
  refine lv_is w_2.1 ?_
  refine lv_istore_n (lv' := [(3, .int (nI (Int32.toNatClampNeg (v_X5_of M b 3)))), (0, .ref (u 0)), (1, .int (nI b)), (2, .int (nI to))]) hx hb dX5_setShare_6 rfl hl (by decide) rfl (fun ls hl => ?_)
  have L7 : ∀ (n : Nat) (i : Nat) (M1 : Nat → Nat → Int32), (∀ j : Nat, j < 53 → M1 0 j = M 0 j) → (i ≤ 100) → (v_X5_isOfGroup M b = true → to - i ≤ zct (M1 0) (-1) (53 + (100 * (Int32.toNatClampNeg (v_X5_of M b 1)))) 100) → (v_X5_isOfGroup M b = true → Int32.toNatClampNeg (v_X5_of M b 3) ≤ zct (M1 0) (nI b) (53 + (100 * (Int32.toNatClampNeg (v_X5_of M b 1)))) 100) → to - i < n → ∀ (H : Heap) (locs : List Loc), va_P D vwCl (zB_X5 (g 0) u M1 w) H → va_D (zA (zB_X5 (g 0) u M w)) (zB_X5 (g 0) u M1 w) → va_S (zA (zB_X5 (g 0) u M w)) s.heap H locs → ∀ (ls : Array Slot), lv_has ls 4 [(0, .ref (u 0)), (1, .int (nI b)), (2, .int (nI to)), (3, .int (nI i))] → q = v_X5_setShare_7 b to n i M1 → W p l e (rmOf 2 44) s m [.ref (u 0), .int (nI b), .int (nI to)].toArray below meth c H locs 0 0 (MQ below (zQw D (zB_X5 (g 0) u M w) (none) (zB_X5 (g 0) u q w)) [.ref (u 0), .int (nI b), .int (nI to)].toArray s 0 0 (zA (zB_X5 (g 0) u M w))) (F0 m 7 ls []) := by
    intro n
    induction n with
    | zero => intro i M1 v7_0 v7_1 v7_2 v7_3 hn; exact absurd hn (Nat.not_lt_zero _)
    | succ n ih7 =>
      intro i M1 v7_0 v7_1 v7_2 v7_3 hn7 H locs hP hD hS ls hl hq
      rw [v_X5_setShare_7] at hq
      refine lv_iload_n hx hb dX5_setShare_7 rfl (lv_at hl 3 rfl) ?_
      refine lv_iload_n hx hb dX5_setShare_8 rfl (lv_at hl 2 rfl) ?_
      refine lv_icmp_ge (tgt := 31) hx hb dX5_setShare_9 (by decide) (fun c_3 => ?_) (fun c_3 => ?_)
      · have c_3 : to ≤ i := (nI_leI (a := to) (b := i) (by omega) (by omega)).mp c_3
        have hq := hq.trans (if_pos c_3)
        refine lv_iload_n hx hb dX5_setShare_31 rfl (lv_at hl 2 rfl) ?_
        refine lv_istore_n (lv' := [(3, .int (nI to)), (0, .ref (u 0)), (1, .int (nI b)), (2, .int (nI to))]) hx hb dX5_setShare_32 rfl hl (by decide) rfl (fun ls hl => ?_)
        have L33 : ∀ (n : Nat) (k : Nat) (M1' : Nat → Nat → Int32), (∀ j : Nat, j < 53 → M1' 0 j = M 0 j) → (v_X5_isOfGroup M b = true → (Int32.toNatClampNeg (v_X5_of M b 3)) - k ≤ zct (M1' 0) (nI b) (53 + (100 * (Int32.toNatClampNeg (v_X5_of M b 1)))) 100) → (to ≤ k) → (k ≤ 101) → 101 - k < n → ∀ (H : Heap) (locs : List Loc), va_P D vwCl (zB_X5 (g 0) u M1' w) H → va_D (zA (zB_X5 (g 0) u M w)) (zB_X5 (g 0) u M1' w) → va_S (zA (zB_X5 (g 0) u M w)) s.heap H locs → ∀ (ls : Array Slot), lv_has ls 4 [(0, .ref (u 0)), (1, .int (nI b)), (2, .int (nI to)), (3, .int (nI k))] → q = v_X5_setShare_33 b to n k M1' → W p l e (rmOf 2 44) s m [.ref (u 0), .int (nI b), .int (nI to)].toArray below meth c H locs 0 0 (MQ below (zQw D (zB_X5 (g 0) u M w) (none) (zB_X5 (g 0) u q w)) [.ref (u 0), .int (nI b), .int (nI to)].toArray s 0 0 (zA (zB_X5 (g 0) u M w))) (F0 m 33 ls []) := by
          intro n
          induction n with
          | zero => intro k M1' v33_0 v33_1 v33_2 v33_3 hn; exact absurd hn (Nat.not_lt_zero _)
          | succ n ih33 =>
            intro k M1' v33_0 v33_1 v33_2 v33_3 hn33 H locs hP hD hS ls hl hq
            rw [v_X5_setShare_33] at hq
            refine lv_iload_n hx hb dX5_setShare_33 rfl (lv_at hl 3 rfl) ?_
            refine lv_aload_n hx hb dX5_setShare_34 rfl (lv_at hl 0 rfl) ?_
            refine lv_iload_n hx hb dX5_setShare_35 rfl (lv_at hl 1 rfl) ?_
            refine lv_iconst (v := 3) hx hb dX5_setShare_36 (by decide) ?_
            refine zcV (ci := 5) (n := 2) (c_X5_of l D g u M1' w b 3 (by omega)) hx hb hml hown hts gX5_setShare_X5_of rfl ⟨rfl, by decide, by decide, by decide⟩ ⟨Nat.le_of_ble_eq_true rfl, Nat.le_of_ble_eq_true rfl⟩ ⟨rfl, rfl⟩ hK hP rfl rfl rfl hl.1 rfl rfl (Nat.le_of_ble_eq_true rfl) ⟨Nat.zero_le _, Nat.zero_le _⟩ dX5_setShare_37 ?_
            have w_5 := znat (zsh_of v33_0 z0 z1)
            have w_5b := w_5.2
            refine lv_is w_5.1 ?_
            refine lv_icmp_ge (tgt := 62) hx hb dX5_setShare_40 (by decide) (fun c_6 => ?_) (fun c_6 => ?_)
            · have c_6 : Int32.toNatClampNeg (v_X5_of M1' b 3) ≤ k := (nI_leI (a := Int32.toNatClampNeg (v_X5_of M1' b 3)) (b := k) (by omega) (by omega)).mp c_6
              have hq := hq.trans (if_pos c_6)
              refine lv_aload_n hx hb dX5_setShare_62 rfl (lv_at hl 0 rfl) ?_
              refine lv_iload_n hx hb dX5_setShare_63 rfl (lv_at hl 1 rfl) ?_
              refine lv_iconst (v := 3) hx hb dX5_setShare_64 (by decide) ?_
              refine lv_iload_n hx hb dX5_setShare_65 rfl (lv_at hl 2 rfl) ?_
              refine zcVw (ci := 5) (n := 3) (c_X5_put l D g u M1' w b 3 (nI to) (by omega)) hx hb hml hown hts gX5_setShare_X5_put rfl ⟨rfl, by decide, by decide, by decide⟩ ⟨Nat.le_of_ble_eq_true rfl, Nat.le_of_ble_eq_true rfl⟩ ⟨rfl, rfl⟩ hK hP hD rfl rfl rfl hS hl.1 rfl rfl (Nat.le_of_ble_eq_true rfl) ⟨Nat.zero_le _, Nat.zero_le _⟩ dX5_setShare_66 (fun H1 locs hP1 hk1 hS => ?_)
              have hD := zD_addr (ws' := zB_X5 (g 0) u (v_X5_put M1' b 3 (nI to)) w) hD (by simp only [zF, List.flatten_cons, List.flatten_nil, List.append_nil, List.map_append, List.map_cons, List.map_nil, zad_X0, zad_X1, zad_X2, zad_X3, zad_X4, zad_X5]); have hP := hP1
              clear hP1 hk1
              have hP : va_P D vwCl (zB_X5 (g 0) u (v_X5_put M1' b 3 (nI to)) w) H1 := hP
              have hD : va_D (zA (zB_X5 (g 0) u M w)) (zB_X5 (g 0) u (v_X5_put M1' b 3 (nI to)) w) := hD
              exact zretw_v hx hb hr hlocks dX5_setShare_69 hP hS (congrArg (fun z9 => zB_X5 (g 0) u z9 w) hq)
            · have c_6 : ¬ (Int32.toNatClampNeg (v_X5_of M1' b 3) ≤ k) := fun h9 => c_6 ((nI_leI (a := Int32.toNatClampNeg (v_X5_of M1' b 3)) (b := k) (by omega) (by omega)).mpr h9)
              have hq := hq.trans (if_neg c_6)
              refine lv_aload_n hx hb dX5_setShare_43 rfl (lv_at hl 0 rfl) ?_
              refine lv_iload_n hx hb dX5_setShare_44 rfl (lv_at hl 1 rfl) ?_
              refine zcV (ci := 5) (n := 1) (c_X5_isOfGroup l D g u M1' w b z0) hx hb hml hown hts gX5_setShare_X5_isOfGroup rfl ⟨rfl, by decide, by decide, by decide⟩ ⟨Nat.le_of_ble_eq_true rfl, Nat.le_of_ble_eq_true rfl⟩ ⟨rfl, rfl⟩ hK hP rfl rfl rfl hl.1 rfl rfl (Nat.le_of_ble_eq_true rfl) ⟨Nat.zero_le _, Nat.zero_le _⟩ dX5_setShare_45 ?_
              refine zif_eq (tgt := 62) hx hb dX5_setShare_48 (by decide) (fun c_9 => ?_) (fun c_9 => ?_)
              · have hq := hq.trans (zif_f c_9)
                refine lv_aload_n hx hb dX5_setShare_62 rfl (lv_at hl 0 rfl) ?_
                refine lv_iload_n hx hb dX5_setShare_63 rfl (lv_at hl 1 rfl) ?_
                refine lv_iconst (v := 3) hx hb dX5_setShare_64 (by decide) ?_
                refine lv_iload_n hx hb dX5_setShare_65 rfl (lv_at hl 2 rfl) ?_
                refine zcVw (ci := 5) (n := 3) (c_X5_put l D g u M1' w b 3 (nI to) (by omega)) hx hb hml hown hts gX5_setShare_X5_put rfl ⟨rfl, by decide, by decide, by decide⟩ ⟨Nat.le_of_ble_eq_true rfl, Nat.le_of_ble_eq_true rfl⟩ ⟨rfl, rfl⟩ hK hP hD rfl rfl rfl hS hl.1 rfl rfl (Nat.le_of_ble_eq_true rfl) ⟨Nat.zero_le _, Nat.zero_le _⟩ dX5_setShare_66 (fun H1 locs hP1 hk1 hS => ?_)
                have hD := zD_addr (ws' := zB_X5 (g 0) u (v_X5_put M1' b 3 (nI to)) w) hD (by simp only [zF, List.flatten_cons, List.flatten_nil, List.append_nil, List.map_append, List.map_cons, List.map_nil, zad_X0, zad_X1, zad_X2, zad_X3, zad_X4, zad_X5]); have hP := hP1
                clear hP1 hk1
                have hP : va_P D vwCl (zB_X5 (g 0) u (v_X5_put M1' b 3 (nI to)) w) H1 := hP
                have hD : va_D (zA (zB_X5 (g 0) u M w)) (zB_X5 (g 0) u (v_X5_put M1' b 3 (nI to)) w) := hD
                exact zretw_v hx hb hr hlocks dX5_setShare_69 hP hS (congrArg (fun z9 => zB_X5 (g 0) u z9 w) hq)
              · have hq := hq.trans (zif_t c_9)
                refine lv_aload_n hx hb dX5_setShare_51 rfl (lv_at hl 0 rfl) ?_
                refine lv_iload_n hx hb dX5_setShare_52 rfl (lv_at hl 1 rfl) ?_
                refine zcVw (ci := 5) (n := 1) (c_X5_takeHighest l D g u M1' w b z0 (zig v33_0 z0 z1 (by with_reducible assumption)) (zth v33_0 z0 z1 (by with_reducible assumption) (by with_reducible assumption) v33_1)) hx hb hml hown hts gX5_setShare_X5_takeHighest rfl ⟨rfl, by decide, by decide, by decide⟩ ⟨Nat.le_of_ble_eq_true rfl, Nat.le_of_ble_eq_true rfl⟩ ⟨rfl, rfl⟩ hK hP hD rfl rfl rfl hS hl.1 rfl rfl (Nat.le_of_ble_eq_true rfl) ⟨Nat.zero_le _, Nat.zero_le _⟩ dX5_setShare_53 (fun H1 locs hP1 hk1 hS => ?_)
                have hD := zD_addr (ws' := zB_X5 (g 0) u (v_X5_takeHighest M1' b) w) hD (by simp only [zF, List.flatten_cons, List.flatten_nil, List.append_nil, List.map_append, List.map_cons, List.map_nil, zad_X0, zad_X1, zad_X2, zad_X3, zad_X4, zad_X5]); have hP := hP1
                clear hP1 hk1
                have hP : va_P D vwCl (zB_X5 (g 0) u (v_X5_takeHighest M1' b) w) H1 := hP
                have hD : va_D (zA (zB_X5 (g 0) u M w)) (zB_X5 (g 0) u (v_X5_takeHighest M1' b) w) := hD
                refine lv_iinc (v := (nI (k + 1))) (lv' := [(3, .int (nI (k + 1))), (0, .ref (u 0)), (1, .int (nI b)), (2, .int (nI to))]) hx hb dX5_setShare_56 hl (k := 3) rfl (nI_add _ 1) (by decide) rfl (fun ls hl => ?_)
                refine lv_goto (tgt := 33) hx hb dX5_setShare_59 (by decide) ?_
                exact ih33 (k + 1) (v_X5_takeHighest M1' b) (zth_row v33_0 z0 z1 (by with_reducible assumption) (by with_reducible assumption) v33_1) (zth_ow v33_0 z0 z1 (by with_reducible assumption) (by with_reducible assumption) v33_1) (by omega) (by omega) (by omega) _ _ hP hD hS ls (lv_sub hl [1, 2, 3, 0] rfl) hq
        exact L33 102 to M1 v7_0 (fun h9 => Nat.le_trans (Nat.sub_le _ _) (v7_3 h9)) (Nat.le_refl _) (by omega) (by omega) _ _ hP hD hS ls (lv_sub hl [1, 2, 3, 0] rfl) hq
      · have c_3 : ¬ (to ≤ i) := fun h9 => c_3 ((nI_leI (a := to) (b := i) (by omega) (by omega)).mpr h9)
        have hq := hq.trans (if_neg c_3)
        refine lv_aload_n hx hb dX5_setShare_12 rfl (lv_at hl 0 rfl) ?_
        refine lv_iload_n hx hb dX5_setShare_13 rfl (lv_at hl 1 rfl) ?_
        refine zcV (ci := 5) (n := 1) (c_X5_isOfGroup l D g u M1 w b z0) hx hb hml hown hts gX5_setShare_X5_isOfGroup rfl ⟨rfl, by decide, by decide, by decide⟩ ⟨Nat.le_of_ble_eq_true rfl, Nat.le_of_ble_eq_true rfl⟩ ⟨rfl, rfl⟩ hK hP rfl rfl rfl hl.1 rfl rfl (Nat.le_of_ble_eq_true rfl) ⟨Nat.zero_le _, Nat.zero_le _⟩ dX5_setShare_14 ?_
        refine zif_eq (tgt := 31) hx hb dX5_setShare_17 (by decide) (fun c_13 => ?_) (fun c_13 => ?_)
        · have hq := hq.trans (zif_f c_13)
          refine lv_iload_n hx hb dX5_setShare_31 rfl (lv_at hl 2 rfl) ?_
          refine lv_istore_n (lv' := [(3, .int (nI to)), (0, .ref (u 0)), (1, .int (nI b)), (2, .int (nI to))]) hx hb dX5_setShare_32 rfl hl (by decide) rfl (fun ls hl => ?_)
          have L33 : ∀ (n : Nat) (k : Nat) (M1' : Nat → Nat → Int32), (∀ j : Nat, j < 53 → M1' 0 j = M 0 j) → (v_X5_isOfGroup M b = true → (Int32.toNatClampNeg (v_X5_of M b 3)) - k ≤ zct (M1' 0) (nI b) (53 + (100 * (Int32.toNatClampNeg (v_X5_of M b 1)))) 100) → (to ≤ k) → (k ≤ 101) → 101 - k < n → ∀ (H : Heap) (locs : List Loc), va_P D vwCl (zB_X5 (g 0) u M1' w) H → va_D (zA (zB_X5 (g 0) u M w)) (zB_X5 (g 0) u M1' w) → va_S (zA (zB_X5 (g 0) u M w)) s.heap H locs → ∀ (ls : Array Slot), lv_has ls 4 [(0, .ref (u 0)), (1, .int (nI b)), (2, .int (nI to)), (3, .int (nI k))] → q = v_X5_setShare_33 b to n k M1' → W p l e (rmOf 2 44) s m [.ref (u 0), .int (nI b), .int (nI to)].toArray below meth c H locs 0 0 (MQ below (zQw D (zB_X5 (g 0) u M w) (none) (zB_X5 (g 0) u q w)) [.ref (u 0), .int (nI b), .int (nI to)].toArray s 0 0 (zA (zB_X5 (g 0) u M w))) (F0 m 33 ls []) := by
            intro n
            induction n with
            | zero => intro k M1' v33_0 v33_1 v33_2 v33_3 hn; exact absurd hn (Nat.not_lt_zero _)
            | succ n ih33 =>
              intro k M1' v33_0 v33_1 v33_2 v33_3 hn33 H locs hP hD hS ls hl hq
              rw [v_X5_setShare_33] at hq
              refine lv_iload_n hx hb dX5_setShare_33 rfl (lv_at hl 3 rfl) ?_
              refine lv_aload_n hx hb dX5_setShare_34 rfl (lv_at hl 0 rfl) ?_
              refine lv_iload_n hx hb dX5_setShare_35 rfl (lv_at hl 1 rfl) ?_
              refine lv_iconst (v := 3) hx hb dX5_setShare_36 (by decide) ?_
              refine zcV (ci := 5) (n := 2) (c_X5_of l D g u M1' w b 3 (by omega)) hx hb hml hown hts gX5_setShare_X5_of rfl ⟨rfl, by decide, by decide, by decide⟩ ⟨Nat.le_of_ble_eq_true rfl, Nat.le_of_ble_eq_true rfl⟩ ⟨rfl, rfl⟩ hK hP rfl rfl rfl hl.1 rfl rfl (Nat.le_of_ble_eq_true rfl) ⟨Nat.zero_le _, Nat.zero_le _⟩ dX5_setShare_37 ?_
              have w_15 := znat (zsh_of v33_0 z0 z1)
              have w_15b := w_15.2
              refine lv_is w_15.1 ?_
              refine lv_icmp_ge (tgt := 62) hx hb dX5_setShare_40 (by decide) (fun c_16 => ?_) (fun c_16 => ?_)
              · have c_16 : Int32.toNatClampNeg (v_X5_of M1' b 3) ≤ k := (nI_leI (a := Int32.toNatClampNeg (v_X5_of M1' b 3)) (b := k) (by omega) (by omega)).mp c_16
                have hq := hq.trans (if_pos c_16)
                refine lv_aload_n hx hb dX5_setShare_62 rfl (lv_at hl 0 rfl) ?_
                refine lv_iload_n hx hb dX5_setShare_63 rfl (lv_at hl 1 rfl) ?_
                refine lv_iconst (v := 3) hx hb dX5_setShare_64 (by decide) ?_
                refine lv_iload_n hx hb dX5_setShare_65 rfl (lv_at hl 2 rfl) ?_
                refine zcVw (ci := 5) (n := 3) (c_X5_put l D g u M1' w b 3 (nI to) (by omega)) hx hb hml hown hts gX5_setShare_X5_put rfl ⟨rfl, by decide, by decide, by decide⟩ ⟨Nat.le_of_ble_eq_true rfl, Nat.le_of_ble_eq_true rfl⟩ ⟨rfl, rfl⟩ hK hP hD rfl rfl rfl hS hl.1 rfl rfl (Nat.le_of_ble_eq_true rfl) ⟨Nat.zero_le _, Nat.zero_le _⟩ dX5_setShare_66 (fun H1 locs hP1 hk1 hS => ?_)
                have hD := zD_addr (ws' := zB_X5 (g 0) u (v_X5_put M1' b 3 (nI to)) w) hD (by simp only [zF, List.flatten_cons, List.flatten_nil, List.append_nil, List.map_append, List.map_cons, List.map_nil, zad_X0, zad_X1, zad_X2, zad_X3, zad_X4, zad_X5]); have hP := hP1
                clear hP1 hk1
                have hP : va_P D vwCl (zB_X5 (g 0) u (v_X5_put M1' b 3 (nI to)) w) H1 := hP
                have hD : va_D (zA (zB_X5 (g 0) u M w)) (zB_X5 (g 0) u (v_X5_put M1' b 3 (nI to)) w) := hD
                exact zretw_v hx hb hr hlocks dX5_setShare_69 hP hS (congrArg (fun z9 => zB_X5 (g 0) u z9 w) hq)
              · have c_16 : ¬ (Int32.toNatClampNeg (v_X5_of M1' b 3) ≤ k) := fun h9 => c_16 ((nI_leI (a := Int32.toNatClampNeg (v_X5_of M1' b 3)) (b := k) (by omega) (by omega)).mpr h9)
                have hq := hq.trans (if_neg c_16)
                refine lv_aload_n hx hb dX5_setShare_43 rfl (lv_at hl 0 rfl) ?_
                refine lv_iload_n hx hb dX5_setShare_44 rfl (lv_at hl 1 rfl) ?_
                refine zcV (ci := 5) (n := 1) (c_X5_isOfGroup l D g u M1' w b z0) hx hb hml hown hts gX5_setShare_X5_isOfGroup rfl ⟨rfl, by decide, by decide, by decide⟩ ⟨Nat.le_of_ble_eq_true rfl, Nat.le_of_ble_eq_true rfl⟩ ⟨rfl, rfl⟩ hK hP rfl rfl rfl hl.1 rfl rfl (Nat.le_of_ble_eq_true rfl) ⟨Nat.zero_le _, Nat.zero_le _⟩ dX5_setShare_45 ?_
                refine zif_eq (tgt := 62) hx hb dX5_setShare_48 (by decide) (fun c_19 => ?_) (fun c_19 => ?_)
                · have hq := hq.trans (zif_f c_19)
                  refine lv_aload_n hx hb dX5_setShare_62 rfl (lv_at hl 0 rfl) ?_
                  refine lv_iload_n hx hb dX5_setShare_63 rfl (lv_at hl 1 rfl) ?_
                  refine lv_iconst (v := 3) hx hb dX5_setShare_64 (by decide) ?_
                  refine lv_iload_n hx hb dX5_setShare_65 rfl (lv_at hl 2 rfl) ?_
                  refine zcVw (ci := 5) (n := 3) (c_X5_put l D g u M1' w b 3 (nI to) (by omega)) hx hb hml hown hts gX5_setShare_X5_put rfl ⟨rfl, by decide, by decide, by decide⟩ ⟨Nat.le_of_ble_eq_true rfl, Nat.le_of_ble_eq_true rfl⟩ ⟨rfl, rfl⟩ hK hP hD rfl rfl rfl hS hl.1 rfl rfl (Nat.le_of_ble_eq_true rfl) ⟨Nat.zero_le _, Nat.zero_le _⟩ dX5_setShare_66 (fun H1 locs hP1 hk1 hS => ?_)
                  have hD := zD_addr (ws' := zB_X5 (g 0) u (v_X5_put M1' b 3 (nI to)) w) hD (by simp only [zF, List.flatten_cons, List.flatten_nil, List.append_nil, List.map_append, List.map_cons, List.map_nil, zad_X0, zad_X1, zad_X2, zad_X3, zad_X4, zad_X5]); have hP := hP1
                  clear hP1 hk1
                  have hP : va_P D vwCl (zB_X5 (g 0) u (v_X5_put M1' b 3 (nI to)) w) H1 := hP
                  have hD : va_D (zA (zB_X5 (g 0) u M w)) (zB_X5 (g 0) u (v_X5_put M1' b 3 (nI to)) w) := hD
                  exact zretw_v hx hb hr hlocks dX5_setShare_69 hP hS (congrArg (fun z9 => zB_X5 (g 0) u z9 w) hq)
                · have hq := hq.trans (zif_t c_19)
                  refine lv_aload_n hx hb dX5_setShare_51 rfl (lv_at hl 0 rfl) ?_
                  refine lv_iload_n hx hb dX5_setShare_52 rfl (lv_at hl 1 rfl) ?_
                  refine zcVw (ci := 5) (n := 1) (c_X5_takeHighest l D g u M1' w b z0 (zig v33_0 z0 z1 (by with_reducible assumption)) (zth v33_0 z0 z1 (by with_reducible assumption) (by with_reducible assumption) v33_1)) hx hb hml hown hts gX5_setShare_X5_takeHighest rfl ⟨rfl, by decide, by decide, by decide⟩ ⟨Nat.le_of_ble_eq_true rfl, Nat.le_of_ble_eq_true rfl⟩ ⟨rfl, rfl⟩ hK hP hD rfl rfl rfl hS hl.1 rfl rfl (Nat.le_of_ble_eq_true rfl) ⟨Nat.zero_le _, Nat.zero_le _⟩ dX5_setShare_53 (fun H1 locs hP1 hk1 hS => ?_)
                  have hD := zD_addr (ws' := zB_X5 (g 0) u (v_X5_takeHighest M1' b) w) hD (by simp only [zF, List.flatten_cons, List.flatten_nil, List.append_nil, List.map_append, List.map_cons, List.map_nil, zad_X0, zad_X1, zad_X2, zad_X3, zad_X4, zad_X5]); have hP := hP1
                  clear hP1 hk1
                  have hP : va_P D vwCl (zB_X5 (g 0) u (v_X5_takeHighest M1' b) w) H1 := hP
                  have hD : va_D (zA (zB_X5 (g 0) u M w)) (zB_X5 (g 0) u (v_X5_takeHighest M1' b) w) := hD
                  refine lv_iinc (v := (nI (k + 1))) (lv' := [(3, .int (nI (k + 1))), (0, .ref (u 0)), (1, .int (nI b)), (2, .int (nI to))]) hx hb dX5_setShare_56 hl (k := 3) rfl (nI_add _ 1) (by decide) rfl (fun ls hl => ?_)
                  refine lv_goto (tgt := 33) hx hb dX5_setShare_59 (by decide) ?_
                  exact ih33 (k + 1) (v_X5_takeHighest M1' b) (zth_row v33_0 z0 z1 (by with_reducible assumption) (by with_reducible assumption) v33_1) (zth_ow v33_0 z0 z1 (by with_reducible assumption) (by with_reducible assumption) v33_1) (by omega) (by omega) (by omega) _ _ hP hD hS ls (lv_sub hl [1, 2, 3, 0] rfl) hq
          exact L33 102 to M1 v7_0 (fun h9 => Nat.le_trans (Nat.sub_le _ _) (v7_3 h9)) (Nat.le_refl _) (by omega) (by omega) _ _ hP hD hS ls (lv_sub hl [1, 2, 3, 0] rfl) hq
        · have hq := hq.trans (zif_t c_13)
          refine lv_aload_n hx hb dX5_setShare_20 rfl (lv_at hl 0 rfl) ?_
          refine lv_iload_n hx hb dX5_setShare_21 rfl (lv_at hl 1 rfl) ?_
          refine zcVw (ci := 5) (n := 1) (c_X5_giveLowest l D g u M1 w b z0 (zig v7_0 z0 z1 (by with_reducible assumption)) (zgl v7_0 z0 z1 (by with_reducible assumption) (by with_reducible assumption) v7_2)) hx hb hml hown hts gX5_setShare_X5_giveLowest rfl ⟨rfl, by decide, by decide, by decide⟩ ⟨Nat.le_of_ble_eq_true rfl, Nat.le_of_ble_eq_true rfl⟩ ⟨rfl, rfl⟩ hK hP hD rfl rfl rfl hS hl.1 rfl rfl (Nat.le_of_ble_eq_true rfl) ⟨Nat.zero_le _, Nat.zero_le _⟩ dX5_setShare_22 (fun H1 locs hP1 hk1 hS => ?_)
          have hD := zD_addr (ws' := zB_X5 (g 0) u (v_X5_giveLowest M1 b) w) hD (by simp only [zF, List.flatten_cons, List.flatten_nil, List.append_nil, List.map_append, List.map_cons, List.map_nil, zad_X0, zad_X1, zad_X2, zad_X3, zad_X4, zad_X5]); have hP := hP1
          clear hP1 hk1
          have hP : va_P D vwCl (zB_X5 (g 0) u (v_X5_giveLowest M1 b) w) H1 := hP
          have hD : va_D (zA (zB_X5 (g 0) u M w)) (zB_X5 (g 0) u (v_X5_giveLowest M1 b) w) := hD
          refine lv_iinc (v := (nI (i + 1))) (lv' := [(3, .int (nI (i + 1))), (0, .ref (u 0)), (1, .int (nI b)), (2, .int (nI to))]) hx hb dX5_setShare_25 hl (k := 3) rfl (nI_add _ 1) (by decide) rfl (fun ls hl => ?_)
          refine lv_goto (tgt := 7) hx hb dX5_setShare_28 (by decide) ?_
          exact ih7 (i + 1) (v_X5_giveLowest M1 b) (zgl_row v7_0 z0 z1 (by with_reducible assumption) (by with_reducible assumption) v7_2) (by omega) (zgl_fr v7_0 z0 z1 (by with_reducible assumption) (by with_reducible assumption) v7_2) (zgl_ow v7_0 z0 z1 (by with_reducible assumption) (by with_reducible assumption) v7_2 v7_3) (by omega) _ _ hP hD hS ls (lv_sub hl [1, 2, 3, 0] rfl) hq
  exact L7 101 (Int32.toNatClampNeg (v_X5_of M b 3)) M (fun _ _ => rfl) (Nat.le_of_lt_succ (znat (show vp_in (v_X5_of M b 3) 101 from (z1.2.1 b z0).2.1)).2) (fun h9 => by have := z3 h9; omega) (zown0 z0 z1) (by omega) _ _ hP hD hS ls (lv_sub hl [1, 2, 3, 0] rfl) hq
