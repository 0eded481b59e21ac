/-! THE OUTLOOK: its row and its counts -/
def zEc (T : Nat → Nat → Int32) (b s : Nat) : Nat := fb_ct (zEs T b s) 150
def zMb (T : Nat → Nat → Int32) (b k p : Nat) : Bool := zMy T b p && decide (zBu T b p = k)
def zrk (T : Nat → Nat → Int32) (b k s : Nat) : Prop := k < 100 ∧ ((zOw T b k = true ∧ fb_ct (zOw T b) k = s) ∨ (zFr T b k = true ∧ zSn T b + fb_ct (zFr T b) k = s))
section EP
variable {T M : Nat → Nat → Int32} {b p s : Nat}
theorem zrk_ex (T : Nat → Nat → Int32) (b : Nat) {s : Nat} (h : s < zSn T b + zFn T b) : ∃ k, zrk T b k s := by
  rcases Nat.lt_or_ge s (zSn T b) with q | q
  · obtain ⟨i, h1, h2, h3⟩ := fb_ct_kth q
    exact ⟨i, h1, Or.inl ⟨h2, h3⟩⟩
  · obtain ⟨i, h1, h2, h3⟩ := fb_ct_kth (p := zFr T b) (n := 100) (k := s - zSn T b) (show s - zSn T b < zFn T b by omega)
    exact ⟨i, h1, Or.inr ⟨h2, by omega⟩⟩
theorem zow_lt (T : Nat → Nat → Int32) (b : Nat) {k : Nat} (hk : k < 100) (h : zOw T b k = true) : fb_ct (zOw T b) k < zSn T b := by
  have m := fb_ct_mono (zOw T b) (show k + 1 ≤ 100 from hk)
  rw [fb_ct_succ, h] at m
  simp only [if_true] at m
  show _ < fb_ct (zOw T b) 100
  omega
theorem zin_S (dis : ∀ k, k < 100 → zOw T b k = true → zFr T b k = false) {k s κ : Nat} (h : zrk T b k s) (hκ : κ < 100) : zin T b (s + 1) κ = (zin T b s κ || decide (κ = k)) ∧ zin T b s k = false := by
  obtain ⟨hk, h⟩ := h
  constructor
  · rw [Bool.eq_iff_iff]
    unfold zin
    simp only [Bool.or_eq_true, Bool.and_eq_true, decide_eq_true_eq]
    constructor
    · rintro (⟨a, c⟩ | ⟨a, c⟩)
      · by_cases e : fb_ct (zOw T b) κ < s
        · exact Or.inl (Or.inl ⟨a, e⟩)
        · right
          rcases h with ⟨h1, h2⟩ | ⟨h1, h2⟩
          · exact fb_ct_kth_one a h1 (by omega)
          · have := zow_lt T b hκ a; omega
      · by_cases e : zSn T b + fb_ct (zFr T b) κ < s
        · exact Or.inl (Or.inr ⟨a, e⟩)
        · right
          rcases h with ⟨h1, h2⟩ | ⟨h1, h2⟩
          · have := zow_lt T b hk h1; omega
          · exact fb_ct_kth_one a h1 (by omega)
    · rintro ((⟨a, c⟩ | ⟨a, c⟩) | e)
      · exact Or.inl ⟨a, by omega⟩
      · exact Or.inr ⟨a, by omega⟩
      · subst e
        rcases h with ⟨h1, h2⟩ | ⟨h1, h2⟩
        · exact Or.inl ⟨h1, by omega⟩
        · exact Or.inr ⟨h1, by omega⟩
  · rw [Bool.eq_false_iff]
    unfold zin
    simp only [ne_eq, Bool.or_eq_true, Bool.and_eq_true, decide_eq_true_eq]
    rintro (⟨a, c⟩ | ⟨a, c⟩)
    · rcases h with ⟨h1, h2⟩ | ⟨h1, h2⟩
      · omega
      · have := dis k hk a; rw [this] at h1; cases h1
    · rcases h with ⟨h1, h2⟩ | ⟨h1, h2⟩
      · have := dis k hk h1; rw [this] at a; cases a
      · omega
theorem zBu_lt (T : Nat → Nat → Int32) (b p : Nat) : zBu T b p < 100 := v_X5_bucketBy_lt (nI p) (v_X3_saltOf T b)
theorem zEs_S (dis : ∀ k, k < 100 → zOw T b k = true → zFr T b k = false) {k s : Nat} (h : zrk T b k s) (p : Nat) : zEs T b (s + 1) p = (zEs T b s p || zMb T b k p) ∧ ¬ (zEs T b s p = true ∧ zMb T b k p = true) := by
  obtain ⟨a, c⟩ := zin_S dis h (zBu_lt T b p)
  unfold zEs zMb
  rw [a]
  constructor
  · cases zSu T b p <;> cases zMy T b p <;> cases zin T b s (zBu T b p) <;> cases decide (zBu T b p = k) <;> rfl
  · rintro ⟨x, y⟩
    simp only [Bool.and_eq_true, decide_eq_true_eq] at y
    obtain ⟨y1, y2⟩ := y
    rw [y2, c, Bool.and_false, Bool.or_false] at x
    have x2 : v_X3_isSure T p b = true := x
    unfold zMy at y1
    rw [x2] at y1; cases y1
theorem zE_S (dis : ∀ k, k < 100 → zOw T b k = true → zFr T b k = false) {k s : Nat} (h : zrk T b k s) : zEc T b (s + 1) = zEc T b s + fb_ct (zMb T b k) 150 := by
  unfold zEc
  rw [← fb_ct_or (fun p hp => (zEs_S dis h p).2)]
  exact fb_ct_cong (fun p hp => (zEs_S dis h p).1)
theorem zE_0 (T : Nat → Nat → Int32) (b : Nat) : zEc T b 0 = fb_ct (zSu T b) 150 := by
  refine fb_ct_cong (fun p hp => ?_)
  unfold zEs zin
  simp
/-- the row of the outlook -/
theorem zrw2 (hSF : zSn T b + zFn T b ≤ 100) : ∀ (n i : Nat) (O : Nat → Nat → Int32), 100 - i < n → i ≤ 100 → O 1 0 = nI (zSn T b + fb_ct (zFr T b) i) → (∀ j, j < 100 → zOw T b j = true → O 0 (fb_ct (zOw T b) j) = nI j) → (∀ j, j < i → zFr T b j = true → O 0 (zSn T b + fb_ct (zFr T b) j) = nI j) →
    (∀ f, f ≠ 0 → f ≠ 1 → v_X2_lookAtBuckets_47 T b n i O f = O f) ∧ v_X2_lookAtBuckets_47 T b n i O 1 0 = nI (zSn T b + zFn T b) ∧ (∀ j, j < 100 → zOw T b j = true → v_X2_lookAtBuckets_47 T b n i O 0 (fb_ct (zOw T b) j) = nI j) ∧ (∀ j, j < 100 → zFr T b j = true → v_X2_lookAtBuckets_47 T b n i O 0 (zSn T b + fb_ct (zFr T b) j) = nI j)
  | 0, _, _, h, _, _, _, _ => absurd h (Nat.not_lt_zero _)
  | n + 1, i, O, h, hi, h1, h2, h3 => by
    rw [v_X2_lookAtBuckets_47]
    by_cases c : 100 ≤ i
    · have e : i = 100 := by omega
      subst e
      rw [if_pos c]; exact ⟨fun _ _ _ => rfl, h1, h2, h3⟩
    · rw [if_neg c]
      have sc := fb_ct_succ (zFr T b) i
      have mo := fb_ct_mono (zFr T b) (show i + 1 ≤ 100 by omega)
      have two : (if (v_X4_isGroup (T 5 b)) = true then (if (T 10 ((Int32.toNatClampNeg (T 5 b)) * 100 + i)) = (-1) then v_X2_lookAtBuckets_47 T b n (i + 1) (v_X2_addToRow O i) else v_X2_lookAtBuckets_47 T b n (i + 1) O) else (if (nI i) < (T 7 b) then v_X2_lookAtBuckets_47 T b n (i + 1) O else v_X2_lookAtBuckets_47 T b n (i + 1) (v_X2_addToRow O i))) = (if zFr T b i = true then v_X2_lookAtBuckets_47 T b n (i + 1) (v_X2_addToRow O i) else v_X2_lookAtBuckets_47 T b n (i + 1) O) := by
        unfold zFr
        by_cases g : v_X4_isGroup (T 5 b) = true
        · rw [if_pos g, if_pos g]
          by_cases d : T 10 ((Int32.toNatClampNeg (T 5 b)) * 100 + i) = -1
          · rw [if_pos d, if_pos (by simpa using d)]
          · rw [if_neg d, if_neg (by simpa using d)]
        · rw [if_neg g, if_neg g]
          by_cases d : nI i < T 7 b
          · rw [if_pos d, if_neg (by simp [d])]
          · rw [if_neg d, if_pos (by simp [d])]
      rw [two]
      by_cases d : zFr T b i = true
      · rw [d] at sc
        simp only [if_true] at sc
        have mo2 : fb_ct (zFr T b) (i + 1) ≤ zFn T b := mo
        have ea : v_X2_addToRow O i = zU (zU O 0 (upd (O 0) (zSn T b + fb_ct (zFr T b) i) (nI i))) 1 (fun _ => nI (zSn T b + fb_ct (zFr T b) (i + 1))) := by
          unfold v_X2_addToRow
          rw [h1, if_neg (show ¬ (100 : Int32) ≤ nI (zSn T b + fb_ct (zFr T b) i) from nI_ge (b := 100) (by omega) (by decide)), nI_nat (by omega), ← nI_succ, sc, Nat.add_assoc]
        rw [if_pos d, ea]
        obtain ⟨r1, r2⟩ := zrw2 hSF n (i + 1) (zU (zU O 0 (upd (O 0) (zSn T b + fb_ct (zFr T b) i) (nI i))) 1 (fun _ => nI (zSn T b + fb_ct (zFr T b) (i + 1)))) (by omega) (by omega) (by rw [zU_s]) (fun j hj hw => by
            have := zow_lt T b hj hw
            rw [zU_n _ _ (by decide), zU_s, zupd_n _ _ (by omega)]; exact h2 j hj hw) (fun j hj hf => by
            rw [zU_n _ _ (by decide), zU_s]
            by_cases e : j = i
            · subst e; rw [zupd_s]
            · rw [zupd_n _ _ (fun z => e (fb_ct_kth_one hf d (by omega)))]; exact h3 j (by omega) hf)
        exact ⟨fun f a c => by rw [r1 f a c, zU_n _ _ c, zU_n _ _ a], r2⟩
      · have d' : zFr T b i = false := by simpa using d
        rw [d'] at sc
        rw [if_neg d]
        refine zrw2 hSF n (i + 1) O (by omega) (by omega) (by rw [sc]; exact h1) h2 (fun j hj hf => ?_)
        by_cases e : j = i
        · subst e; exact absurd hf d
        · exact h3 j (by omega) hf
theorem zrw1 (hSF : zSn T b + zFn T b ≤ 100) : ∀ (n i : Nat) (O : Nat → Nat → Int32), 100 - i < n → i ≤ 100 → O 1 0 = nI (fb_ct (zOw T b) i) → (∀ j, j < i → zOw T b j = true → O 0 (fb_ct (zOw T b) j) = nI j) →
    (∀ f, f ≠ 0 → f ≠ 1 → v_X2_lookAtBuckets_15 T b n i O f = O f) ∧ v_X2_lookAtBuckets_15 T b n i O 1 0 = nI (zSn T b + zFn T b) ∧ (∀ j, j < 100 → zOw T b j = true → v_X2_lookAtBuckets_15 T b n i O 0 (fb_ct (zOw T b) j) = nI j) ∧ (∀ j, j < 100 → zFr T b j = true → v_X2_lookAtBuckets_15 T b n i O 0 (zSn T b + fb_ct (zFr T b) j) = nI j)
  | 0, _, _, h, _, _, _ => absurd h (Nat.not_lt_zero _)
  | n + 1, i, O, h, hi, h1, h2 => by
    rw [v_X2_lookAtBuckets_15]
    by_cases c : 100 ≤ i
    · have e : i = 100 := by omega
      subst e
      rw [if_pos c]
      have z : fb_ct (zFr T b) 0 = 0 := rfl
      exact zrw2 hSF 101 0 O (by decide) (by decide) (by rw [z, Nat.add_zero]; exact h1) h2 (fun j hj => absurd hj (Nat.not_lt_zero _))
    · rw [if_neg c]
      have sc := fb_ct_succ (zOw T b) i
      have mo := fb_ct_mono (zOw T b) (show i + 1 ≤ 100 by omega)
      by_cases d : zOw T b i = true
      · rw [d] at sc
        simp only [if_true] at sc
        have mo2 : fb_ct (zOw T b) (i + 1) ≤ zSn T b := mo
        have ea : v_X2_addToRow O i = zU (zU O 0 (upd (O 0) (fb_ct (zOw T b) i) (nI i))) 1 (fun _ => nI (fb_ct (zOw T b) (i + 1))) := by
          unfold v_X2_addToRow
          rw [h1, if_neg (show ¬ (100 : Int32) ≤ nI (fb_ct (zOw T b) i) from nI_ge (b := 100) (by omega) (by decide)), nI_nat (by omega), ← nI_succ, sc]
        rw [if_pos (show v_X3_owns T b i = true from d), ea]
        obtain ⟨r1, r2⟩ := zrw1 hSF n (i + 1) (zU (zU O 0 (upd (O 0) (fb_ct (zOw T b) i) (nI i))) 1 (fun _ => nI (fb_ct (zOw T b) (i + 1)))) (by omega) (by omega) (by rw [zU_s]) (fun j hj hf => by
            rw [zU_n _ _ (by decide), zU_s]
            by_cases e : j = i
            · subst e; rw [zupd_s]
            · rw [zupd_n _ _ (fun z => e (fb_ct_kth_one hf d (by omega)))]; exact h2 j (by omega) hf)
        exact ⟨fun f a c => by rw [r1 f a c, zU_n _ _ c, zU_n _ _ a], r2⟩
      · have d' : zOw T b i = false := by simpa using d
        rw [d'] at sc
        rw [if_neg (show ¬ v_X3_owns T b i = true from d)]
        refine zrw1 hSF n (i + 1) O (by omega) (by omega) (by rw [sc]; exact h1) (fun j hj hf => ?_)
        by_cases e : j = i
        · subst e; exact absurd hf d
        · exact h2 j (by omega) hf
/-- the persons of the outlook -/
def zcu (P : Nat → Bool) (d : Nat) : Int32 := nI (fb_ct P 150 - fb_ct P d)
theorem zcu_y {P : Nat → Bool} {d : Nat} (hd : d < 150) (h : P d = true) : zcu P d = zcu P (d + 1) + 1 := by
  have sc := fb_ct_succ P d
  have mo := fb_ct_mono P (show d + 1 ≤ 150 from hd)
  rw [h] at sc
  simp only [if_true] at sc
  unfold zcu
  rw [← nI_succ]
  exact congrArg nI (by omega)
theorem zcu_n {P : Nat → Bool} {d : Nat} (h : P d = false) : zcu P d = zcu P (d + 1) := by
  have sc := fb_ct_succ P d
  rw [h] at sc
  unfold zcu
  exact congrArg nI (by simp at sc; omega)
theorem zps4 (T : Nat → Nat → Int32) (b : Nat) : ∀ (n d : Nat) (x : Int32) (O : Nat → Nat → Int32), d < n → d ≤ 150 → x + 1 = nI d → O 2 0 = zcu (zSu T b) d → (∀ k, k < 100 → O 3 k = zcu (zMb T b k) d) → (∀ k p, k < 100 → d ≤ p → p < 150 → zMb T b k p = true → (∀ q, d ≤ q → q < p → zMb T b k q = false) → O 4 k = nI p) →
    (∀ f, f ≠ 2 → f ≠ 3 → f ≠ 4 → v_X2_lookAtPersons_40 T b n x O f = O f) ∧ v_X2_lookAtPersons_40 T b n x O 2 0 = zcu (zSu T b) 0 ∧ (∀ k, k < 100 → v_X2_lookAtPersons_40 T b n x O 3 k = zcu (zMb T b k) 0) ∧ (∀ k p, k < 100 → p < 150 → zMb T b k p = true → (∀ q, q < p → zMb T b k q = false) → v_X2_lookAtPersons_40 T b n x O 4 k = nI p)
  | 0, _, _, _, h, _, _, _, _, _ => absurd h (Nat.not_lt_zero _)
  | n + 1, d, x, O, h, hd, hx, h2, h3, h4 => by
    have ex : x = nI d + (-1) := by rw [← hx, Int32.add_assoc, show (1 : Int32) + (-1) = 0 by decide, Int32.add_zero]
    rw [v_X2_lookAtPersons_40]
    cases d with
    | zero =>
      rw [if_pos (by rw [ex]; decide)]
      exact ⟨fun _ _ _ _ => rfl, h2, h3, fun k p a c e f => h4 k p a (Nat.zero_le _) c e (fun q _ => f q)⟩
    | succ d =>
      have e2 : x = nI d := by rw [ex, nI_dec (by omega)]
      subst e2
      have hx2 : nI d + (-1) + 1 = nI d := by rw [Int32.add_assoc, show (-1 : Int32) + 1 = 0 by decide, Int32.add_zero]
      have nn : ¬ nI d < 0 := fun z => by rw [Int32.lt_iff_toInt_lt, nI_toInt (by omega), show (0 : Int32).toInt = 0 from rfl] at z; omega
      rw [if_neg nn, nI_nat (by omega)]
      by_cases c1 : v_X3_isSure T d b = true
      · have my : zMy T b d = false := by unfold zMy; rw [c1]; rfl
        have mb : ∀ k, zMb T b k d = false := fun k => by unfold zMb; rw [my]; rfl
        rw [if_pos c1]
        obtain ⟨r1, r2⟩ := zps4 T b n d _ (zU O 2 (fun _ => (O 2 0 + 1))) (by omega) (by omega) hx2 (by rw [zU_s, h2, zcu_y (P := zSu T b) (d := d) (by omega) c1]) (fun k hk => by rw [zU_n _ _ (by decide), h3 k hk, zcu_n (P := zMb T b k) (d := d) (mb k)]) (fun k p a c e f g => by
          rw [zU_n _ _ (by decide)]
          by_cases q : p = d
          · subst q; rw [mb k] at f; cases f
          · exact h4 k p a (by omega) e f (fun q a2 c2 => g q (by omega) c2))
        exact ⟨fun f a c e => by rw [r1 f a c e, zU_n _ _ a], r2⟩
      · have su : zSu T b d = false := by simpa using c1
        rw [if_neg c1]
        by_cases c2 : v_X3_isHeldOut T d b = true
        · have my : zMy T b d = false := by unfold zMy; rw [c2, Bool.not_true, Bool.and_false]
          have mb : ∀ k, zMb T b k d = false := fun k => by unfold zMb; rw [my]; rfl
          rw [if_pos c2]
          exact zps4 T b n d _ O (by omega) (by omega) hx2 (by rw [h2, zcu_n (P := zSu T b) (d := d) su]) (fun k hk => by rw [h3 k hk, zcu_n (P := zMb T b k) (d := d) (mb k)]) (fun k p a c e f g => by
            by_cases q : p = d
            · subst q; rw [mb k] at f; cases f
            · exact h4 k p a (by omega) e f (fun q a2 c2 => g q (by omega) c2))
        · have my : zMy T b d = true := by
            unfold zMy
            have o : v_X3_isHeldOut T d b = false := by simpa using c2
            have su' : v_X3_isSure T d b = false := su
            rw [su', o]; rfl
          rw [if_neg c2]
          have mb : ∀ k, zMb T b k d = decide (zBu T b d = k) := fun k => by unfold zMb; rw [my, Bool.true_and]
          obtain ⟨r1, r2⟩ := zps4 T b n d _ (zU (zU O 3 (upd (O 3) (zBu T b d) ((O 3 (zBu T b d)) + 1))) 4 (upd (O 4) (zBu T b d) (nI d))) (by omega) (by omega) hx2 (by rw [zU_n _ _ (by decide), zU_n _ _ (by decide), h2, zcu_n (P := zSu T b) (d := d) su]) (fun k hk => by
              rw [zU_n _ _ (by decide), zU_s]
              by_cases e : k = zBu T b d
              · rw [e, zupd_s, h3 _ (zBu_lt T b d), zcu_y (P := zMb T b (zBu T b d)) (d := d) (by omega) (by rw [mb]; simp)]
              · rw [zupd_n _ _ e, h3 k hk, zcu_n (P := zMb T b k) (d := d) (by rw [mb]; exact decide_eq_false (fun z => e z.symm))]) (fun k p a c e f g => by
              rw [zU_s]
              by_cases q : k = zBu T b d
              · have pd : p = d := by
                  rcases Nat.lt_or_ge d p with z | z
                  · have := g d (Nat.le_refl _) z
                    rw [mb, decide_eq_true q.symm] at this; cases this
                  · omega
                rw [q, zupd_s, pd]
              · rw [zupd_n _ _ q]
                by_cases pd : p = d
                · subst pd; rw [mb, decide_eq_false (fun z => q z.symm)] at f; cases f
                · exact h4 k p a (by omega) e f (fun q a2 c2 => g q (by omega) c2))
          exact ⟨fun f a c e => by rw [r1 f a c e, zU_n _ _ e, zU_n _ _ c], r2⟩
theorem zps1 (T : Nat → Nat → Int32) (b : Nat) : ∀ (n i : Nat) (O : Nat → Nat → Int32), 100 - i < n → i ≤ 100 → O 2 0 = 0 → (∀ k, k < i → O 3 k = 0) →
    (∀ f, f ≠ 2 → f ≠ 3 → f ≠ 4 → v_X2_lookAtPersons_14 T b n i O f = O f) ∧ v_X2_lookAtPersons_14 T b n i O 2 0 = zcu (zSu T b) 0 ∧ (∀ k, k < 100 → v_X2_lookAtPersons_14 T b n i O 3 k = zcu (zMb T b k) 0) ∧ (∀ k p, k < 100 → p < 150 → zMb T b k p = true → (∀ q, q < p → zMb T b k q = false) → v_X2_lookAtPersons_14 T b n i O 4 k = nI p)
  | 0, _, _, h, _, _, _ => absurd h (Nat.not_lt_zero _)
  | n + 1, i, O, h, hi, h2, h3 => by
    rw [v_X2_lookAtPersons_14]
    by_cases c : 100 ≤ i
    · rw [if_pos c]
      exact zps4 T b 151 150 149 O (by decide) (by decide) (by decide) (by rw [h2]; unfold zcu; rw [Nat.sub_self]; rfl) (fun k hk => by rw [h3 k (by omega)]; unfold zcu; rw [Nat.sub_self]; rfl) (fun k p _ c e => by omega)
    · rw [if_neg c]
      obtain ⟨r1, r2⟩ := zps1 T b n (i + 1) (zU O 3 (upd (O 3) i 0)) (by omega) (by omega) (by rw [zU_n _ _ (by decide)]; exact h2) (fun k hk => by
        rw [zU_s]
        by_cases e : k = i
        · subst e; rw [zupd_s]
        · rw [zupd_n _ _ e]; exact h3 k (by omega))
      exact ⟨fun f a c e => by rw [r1 f a c e, zU_n _ _ c], r2⟩
/-- all of it -/
theorem zlook (hSF : zSn T b + zFn T b ≤ 100) (O : Nat → Nat → Int32) : v_X2_lookAt O T b 1 0 = nI (zSn T b + zFn T b) ∧ v_X2_lookAt O T b 2 0 = nI (zEc T b 0) ∧ (∀ k s, zrk T b k s → v_X2_lookAt O T b 0 s = nI k ∧ v_X2_lookAt O T b 3 k = nI (fb_ct (zMb T b k) 150)) ∧
    (∀ k p, k < 100 → p < 150 → zMb T b k p = true → (∀ q, q < p → zMb T b k q = false) → v_X2_lookAt O T b 4 k = nI p) := by
  unfold v_X2_lookAt v_X2_lookAtPersons v_X2_lookAtBuckets
  obtain ⟨a1, a2, a3, a4⟩ := zrw1 hSF 101 0 (zU O 1 (fun _ => 0)) (by decide) (by decide) (by rw [zU_s]; rfl) (fun j hj => absurd hj (Nat.not_lt_zero _))
  obtain ⟨b1, b2, b3, b4⟩ := zps1 T b 101 0 (zU (v_X2_lookAtBuckets_15 T b 101 0 (zU O 1 (fun _ => 0))) 2 (fun _ => 0)) (by decide) (by decide) (by rw [zU_s]) (fun k hk => absurd hk (Nat.not_lt_zero _))
  refine ⟨by rw [b1 1 (by decide) (by decide) (by decide), zU_n _ _ (by decide)]; exact a2, by rw [b2, zE_0]; rfl, fun k s h => ⟨?_, ?_⟩, b4⟩
  · rw [b1 0 (by decide) (by decide) (by decide), zU_n _ _ (by decide)]
    obtain ⟨hk, (⟨h1, h2⟩ | ⟨h1, h2⟩)⟩ := h
    · rw [← h2]; exact a3 k hk h1
    · rw [← h2]; exact a4 k hk h1
  · rw [b3 k h.1]; rfl
end EP
