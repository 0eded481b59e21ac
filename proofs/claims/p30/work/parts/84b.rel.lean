/-! the law's rows and the model's row -/
def zLw (M I : Nat → Nat → Int32) (Q : Nat → Nat → Int64) : Prop :=
  (vp_in (I 0 0) 6 ∧ I 0 0 = M 0 1 ∧ I 0 1 = M 0 0 ∧ I 0 2 = zsu (fun p => M 0 (803 + p)) 150 0 ∧ ∀ g, g < 3 → I 0 (4 + g) = M 0 (2 + g)) ∧
  (∀ b, b < (I 0 0).toNatClampNeg → ∀ k, k < 6 → I 1 (6 * b + k) = v_X5_of M b k) ∧
  (∀ b, b < (I 0 0).toNatClampNeg → ∀ k, k < 100 → zLb Q 0 2 b k = v_X5_owns M b k) ∧
  (∀ b, b < 5 → ∀ p, p < 150 → zLb Q 1 3 b p = bt (M 0 (353 + p)) b ∧ zLb Q 2 3 b p = bt (M 0 (503 + p)) b ∧ zLb Q 3 3 b p = bt (M 0 (653 + p)) b) ∧
  (∀ b, (I 0 0).toNatClampNeg ≤ b → b < 5 → (I 1 (6 * b + 3) = 0 ∧ I 1 (6 * b + 5) = 0) ∧ (∀ k, k < 100 → zLb Q 0 2 b k = false) ∧ ∀ p, p < 150 → zLb Q 1 3 b p = false ∧ zLb Q 2 3 b p = false ∧ zLb Q 3 3 b p = false) ∧
  (∀ g, g < 3 → ∀ k, k < 100 → ∀ b, b < (I 0 0).toNatClampNeg → M 0 (53 + 100 * g + k) = nI b → v_X5_of M b 1 = nI g)
abbrev zNb (I : Nat → Nat → Int32) : Nat := (I 0 0).toNatClampNeg
section LW
variable {M I T : Nat → Nat → Int32} {Q : Nat → Nat → Int64} {b p : Nat}
theorem lw_n (L : zLw M I Q) : I 0 0 = nI (zNb I) ∧ zNb I ≤ 5 := by
  have h := znat L.1.1
  exact ⟨h.1, by show (I 0 0).toNatClampNeg ≤ 5; have := h.2; omega⟩
theorem lw_b (L : zLw M I Q) (hb : b < zNb I) : b < 5 := by have := (lw_n L).2; omega
theorem lw_nM (L : zLw M I Q) : (M 0 1).toNatClampNeg = zNb I := by rw [← L.1.2.1]
theorem lw_le (L : zLw M I Q) {i : Nat} (hi : i < 1000) : (I 0 0 ≤ nI i) ↔ zNb I ≤ i := by
  have h := lw_n L
  rw [h.1, Int32.le_iff_toInt_le, nI_toInt (by omega), nI_toInt (by omega)]; omega
theorem lw_of (L : zLw M I Q) (hb : b < zNb I) {k : Nat} (hk : k < 6) : I 1 (6 * b + k) = v_X5_of M b k := L.2.1 b hb k hk
theorem lw_0 (L : zLw M I Q) (hb : b < zNb I) : I 1 (6 * b) = v_X5_of M b 0 := L.2.1 b hb 0 (by decide)
theorem lw_gr (L : zLw M I Q) (G : zI M) (hb : b < zNb I) : zgr (I 1 (6 * b + 1)) := by
  rw [lw_of L hb (by decide)]
  rcases zI_G G b (by have := lw_b L hb; omega) with h | h
  · exact Or.inl h
  · exact Or.inr h
theorem zshl1 (y : Int32) : (Int32.toUInt32 (y <<< ((1 : Int32) &&& 31)) >>> (Int32.toUInt32 1 &&& Int32.toUInt32 31)).toInt32 = y &&& 2147483647 := by
  refine b_ext fun i hi => ?_
  have h := b_ushr 1 (by decide) (y <<< ((1 : Int32) &&& 31)) i
  refine h.trans ?_
  rw [b_and]
  have m : ∀ i, i < 32 → bt 2147483647 i = decide (i < 31) := by decide +kernel
  rw [m i hi]
  rcases Nat.lt_or_ge i 31 with q | q
  · have e := b_shl 1 (by decide) y (i := 1 + i) (by omega)
    refine e.trans ?_
    rw [decide_eq_true q, decide_eq_true (show 1 ≤ 1 + i by omega), show 1 + i - 1 = i by omega, Bool.true_and, Bool.and_true]
  · rw [b_big (by omega), decide_eq_false (by omega), Bool.and_false]
theorem lq_bucket (p : Nat) (s : Int32) : v_L_bucket p s = v_X5_bucketBy (nI p) s := by
  unfold v_L_bucket v_X5_bucketBy
  rw [zshl1, Int32.mul_comm (-1640531535) (nI p), Int32.mul_comm 40503 s]
theorem lq_open (R : zTw T (M 0)) (L : zLw M I Q) (hb : b < zNb I) : I 1 (6 * b) = bI (v_X5_isOpen M b) := by
  have h8 := lw_b L hb
  rw [lw_0 L hb, (R.br (b := b) (by omega)).2.2.2.2.1, eq_open R (by omega)]
theorem lq_eats (R : zTw T (M 0)) (G : zI M) (L : zLw M I Q) (hb : b < zNb I) (hp : p < 150) : v_L_eats I Q p b = v_X5_eatsNow M p b := by
  have h8 : b < 8 := by have := lw_b L hb; omega
  have h5 := lw_b L hb
  have hh := L.2.2.2.1 b h5 p hp
  unfold v_L_eats v_X5_eatsNow
  rw [has0, has0, has1, has2, has3, hh.1, hh.2.1, hh.2.2, eq_held (M := M) (p := p) (f := 503) h8 rfl, eq_held (M := M) (p := p) (f := 353) h8 rfl, eq_held (M := M) (p := p) (f := 653) h8 rfl, lq_open R L hb, lq_bucket, lq_bucket,
    L.2.2.1 b hb _ (v_X5_bucketBy_lt _ _), L.2.2.1 b hb _ (v_X5_bucketBy_lt _ _), lw_of L hb (show 1 < 6 by decide), lw_of L hb (show 2 < 6 by decide), lw_of L hb (show 4 < 6 by decide)]
  unfold v_X5_saltOf v_X5_isOfGroup
  rcases zI_G G b h8 with h | h
  · have h2 : v_X5_of M b 1 = -1 := h
    rw [h2, if_neg (show ¬ (0 : Int32) ≤ -1 by decide), if_pos rfl, if_neg (show ¬ (false = true) by decide)]
    cases v_X5_isOpen M b
    · rw [if_pos (show bI false = 0 from rfl), if_neg (show ¬ (false = true) by decide)]
    · rw [if_neg (show ¬ bI true = 0 by decide), if_pos rfl]
  · obtain ⟨j, hj, e⟩ := vp_in_of h (by decide)
    have h2 : v_X5_of M b 1 = nI j := e
    rw [h2, if_pos (show (0 : Int32) ≤ nI j by rw [Int32.le_iff_toInt_le, nI_toInt (by omega)]; exact Int.natCast_nonneg j), if_neg (zig3 j hj).2.1, if_pos rfl, nI_nat (by omega), L.1.2.2.2.2 j hj]
    cases v_X5_isOpen M b
    · rw [if_pos (show bI false = 0 from rfl), if_neg (show ¬ (false = true) by decide)]
    · rw [if_neg (show ¬ bI true = 0 by decide), if_pos rfl]
theorem lq_eaters (R : zTw T (M 0)) (G : zI M) (L : zLw M I Q) (hb : b < zNb I) : nI (v_L_eaters I Q b) = v_X5_eaters M b := by
  rw [zme_ct]
  refine congrArg nI ?_
  unfold v_L_eaters
  refine zlN0 (v_L_eaters_6 I Q b) _ 150 (fun n m i h => by rw [v_L_eaters_6, if_pos h]) (fun n m i h => ?_) (by decide)
  rw [v_L_eaters_6, if_neg (by omega), lq_eats R G L hb h]
  by_cases c : v_X5_eatsNow M i b = 0
  · rw [if_pos ((ez_le M i b).mpr c), zEt_f.mpr c]; rfl
  · rw [if_neg (fun z => c ((ez_le M i b).mp z)), zEt_t.mpr c]; rfl
theorem lfree3 (h5 : I 0 0 = nI (zNb I)) (h6 : zNb I ≤ 5) (gr : Int32) (k : Nat) : ∀ n b, zNb I - b < n → b ≤ 5 → (v_L_free_3 I Q gr k n b = true ↔ ∀ j, b ≤ j → j < zNb I → ¬ (I 1 (6 * j + 1) = gr ∧ zLb Q 0 2 j k = true)) := by
  intro n
  induction n with
  | zero => intro b h; exact absurd h (Nat.not_lt_zero _)
  | succ n ih =>
    intro b h hb
    rw [v_L_free_3, has0]
    have ele : (I 0 0 ≤ nI b) ↔ zNb I ≤ b := by
      rw [h5, Int32.le_iff_toInt_le, nI_toInt (by omega), nI_toInt (by omega)]; omega
    by_cases c : zNb I ≤ b
    · rw [if_pos (ele.mpr c)]
      exact ⟨fun _ j h1 h2 => by omega, fun _ => rfl⟩
    · rw [if_neg (fun z => c (ele.mp z))]
      have step : (∀ j, b ≤ j → j < zNb I → ¬ (I 1 (6 * j + 1) = gr ∧ zLb Q 0 2 j k = true)) ↔ (¬ (I 1 (6 * b + 1) = gr ∧ zLb Q 0 2 b k = true) ∧ ∀ j, b + 1 ≤ j → j < zNb I → ¬ (I 1 (6 * j + 1) = gr ∧ zLb Q 0 2 j k = true)) := by
        constructor
        · intro a; exact ⟨a b (Nat.le_refl _) (by omega), fun j h1 h2 => a j (by omega) h2⟩
        · rintro ⟨a1, a2⟩ j h1 h2
          rcases Nat.lt_or_ge b j with q | q
          · exact a2 j q h2
          · have : j = b := by omega
            subst this; exact a1
      rw [step]
      have ih := ih (b + 1) (by omega) (by omega)
      by_cases c1 : I 1 (6 * b + 1) = gr
      · rw [if_pos c1]
        by_cases c2 : zLb Q 0 2 b k = true
        · rw [if_pos c2]
          exact ⟨fun z => absurd z (by decide), fun z => absurd ⟨c1, c2⟩ z.1⟩
        · rw [if_neg c2, ih]
          exact ⟨fun z => ⟨fun y => c2 y.2, z⟩, fun z => z.2⟩
      · rw [if_neg c1, ih]
        exact ⟨fun z => ⟨fun y => c1 y.1, z⟩, fun z => z.2⟩
theorem lfree (h5 : I 0 0 = nI (zNb I)) (h6 : zNb I ≤ 5) (gr : Int32) (k : Nat) : v_L_free I Q gr k = true ↔ ∀ j, j < zNb I → ¬ (I 1 (6 * j + 1) = gr ∧ zLb Q 0 2 j k = true) := by
  unfold v_L_free
  rw [lfree3 h5 h6 gr k 6 0 (by omega) (by decide)]
  exact ⟨fun a j h => a j (Nat.zero_le _) h, fun a j _ h => a j h⟩
theorem lw_own (L : zLw M I Q) (hb : b < zNb I) {g k : Nat} (hg : g < 3) (hk : k < 100) (e : v_X5_of M b 1 = nI g) : zLb Q 0 2 b k = decide (M 0 (53 + 100 * g + k) = nI b) := by
  rw [L.2.2.1 b hb k hk]
  unfold v_X5_owns v_X5_isOfGroup
  rw [e, if_neg (zig3 g hg).2.1, if_pos rfl, nI_nat (by omega)]
  by_cases c : M 0 (53 + 100 * g + k) = nI b
  · rw [if_pos c, decide_eq_true c]
  · rw [if_neg c, decide_eq_false c]
theorem lq_free (G : zI M) (L : zLw M I Q) {g k : Nat} (hg : g < 3) (hk : k < 100) : v_L_free I Q (nI g) k = decide (M 0 (53 + 100 * g + k) = -1) := by
  have key : v_L_free I Q (nI g) k = true ↔ M 0 (53 + 100 * g + k) = -1 := by
    rw [lfree (lw_n L).1 (lw_n L).2]
    constructor
    · intro a
      rcases G.2.2 (100 * g + k) (by omega) with h | ⟨b0, h1, h2⟩
      · rw [← h]; congr 1; omega
      · have h2 : M 0 (53 + 100 * g + k) = nI b0 := by rw [← h2]; congr 1; omega
        have h1 : b0 < zNb I := by rw [← lw_nM L]; exact h1
        have hgr := L.2.2.2.2.2 g hg k hk b0 h1 h2
        refine absurd ⟨?_, ?_⟩ (a b0 h1)
        · rw [lw_of L h1 (by decide)]; exact hgr
        · rw [lw_own L h1 hg hk hgr, h2]; simp
    · intro e j hj
      rintro ⟨c1, c2⟩
      rw [lw_of L hj (by decide)] at c1
      rw [lw_own L hj hg hk c1, e] at c2
      have c3 : (-1 : Int32) = nI j := by simpa using c2
      have h5 := lw_b L hj
      exact absurd c3 ((by decide : ∀ j, j < 5 → ¬ (-1 : Int32) = nI j) j h5)
  by_cases c : M 0 (53 + 100 * g + k) = -1
  · rw [decide_eq_true c]; exact key.mpr c
  · rw [decide_eq_false c]
    cases h : v_L_free I Q (nI g) k
    · rfl
    · exact absurd (key.mp h) c
theorem lroom_ct (gr : Int32) : v_L_room I Q gr = fb_ct (fun k => v_L_free I Q gr k) 100 := by
  unfold v_L_room
  refine zlN0 (v_L_room_6 I Q gr) _ 100 (fun n m i h => by rw [v_L_room_6, if_pos h]) (fun n m i h => ?_) (by decide)
  rw [v_L_room_6, if_neg (by omega)]
  cases v_L_free I Q gr i
  · rfl
  · rfl
theorem zfree_ct (M : Nat → Nat → Int32) (g : Nat) : v_X5_freeOf M g = nI (fb_ct (fun i => decide (M 0 (53 + (100 * g) + i) = -1)) 100) := by
  unfold v_X5_freeOf
  rw [zlI0 (v_X5_freeOf_4 M g) (zind (fun i => decide (M 0 (53 + (100 * g) + i) = -1))) 100 (fun n m i h => by rw [v_X5_freeOf_4, if_pos h]) (fun n m i h => ?_) (by decide), zsu_n]
  rw [v_X5_freeOf_4, if_neg (by omega)]
  unfold zind
  by_cases c : M 0 (53 + (100 * g) + i) = -1
  · rw [if_pos c, if_pos (by simpa using c)]
  · rw [if_neg c, if_neg (by simpa using c)]
theorem lq_room (G : zI M) (L : zLw M I Q) {g : Nat} (hg : g < 3) : nI (v_L_room I Q (nI g)) = v_X5_freeOf M g := by
  rw [lroom_ct, zfree_ct]
  exact congrArg nI (fb_ct_cong (fun k hk => lq_free G L hg hk))
end LW
