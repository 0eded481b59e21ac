/-! THE EQUIVALENCE, pure: bits, counts, loops (the rows bt.., b_.., fb_ct.. are the kit's, pasted) -/
def bt (x : Int32) (i : Nat) : Bool := x.toBitVec.getLsbD i
theorem b_ext {x y : Int32} (h : ∀ i, i < 32 → bt x i = bt y i) : x = y := Int32.toBitVec_inj.mp (BitVec.eq_of_getLsbD_eq (fun i hi => h i hi))
theorem b_or (x y : Int32) (i : Nat) : bt (x ||| y) i = (bt x i || bt y i) := by unfold bt; rw [Int32.toBitVec_or, BitVec.getLsbD_or]
theorem b_and (x y : Int32) (i : Nat) : bt (x &&& y) i = (bt x i && bt y i) := by unfold bt; rw [Int32.toBitVec_and, BitVec.getLsbD_and]
theorem b_xor (x y : Int32) (i : Nat) : bt (x ^^^ y) i = (bt x i ^^ bt y i) := by unfold bt; rw [Int32.toBitVec_xor, BitVec.getLsbD_xor]
theorem b_big {x : Int32} {i : Nat} (h : 32 ≤ i) : bt x i = false := BitVec.getLsbD_of_ge _ _ h
theorem b_255 (i : Nat) : bt 255 i = decide (i < 8) := by
  rcases Nat.lt_or_ge i 32 with h | h
  · exact (by decide +kernel : ∀ i, i < 32 → bt 255 i = decide (i < 8)) i h
  · rw [b_big h, decide_eq_false (by omega)]
theorem b_65535 (i : Nat) : bt 65535 i = decide (i < 16) := by
  rcases Nat.lt_or_ge i 32 with h | h
  · exact (by decide +kernel : ∀ i, i < 32 → bt 65535 i = decide (i < 16)) i h
  · rw [b_big h, decide_eq_false (by omega)]
theorem b_m1 : ∀ i, i < 32 → bt (-1) i = true := by decide +kernel
theorem b_0 (i : Nat) : bt 0 i = false := BitVec.getLsbD_zero
theorem s_l : ∀ n, n < 32 → ((nI n &&& 31).toBitVec.smod 32).toNat = n := by decide +kernel
theorem s_u : ∀ n, n < 32 → (((nI n).toUInt32 &&& Int32.toUInt32 31).toBitVec % 32).toNat = n := by decide +kernel
theorem b_shl (n : Nat) (hn : n < 32) (x : Int32) {i : Nat} (hi : i < 32) : bt (x <<< (nI n &&& 31)) i = (decide (n ≤ i) && bt x (i - n)) := by
  unfold bt
  rw [Int32.toBitVec_shiftLeft]
  show (x.toBitVec <<< ((nI n &&& 31).toBitVec.smod 32).toNat).getLsbD i = _
  rw [s_l n hn, BitVec.getLsbD_shiftLeft]
  rcases Nat.lt_or_ge i n with h | h
  · simp [h, Nat.not_le.mpr h]
  · simp [hi, h, Nat.not_lt.mpr h]
theorem b_ushr (n : Nat) (hn : n < 32) (x : Int32) (i : Nat) : bt ((x.toUInt32 >>> ((nI n).toUInt32 &&& Int32.toUInt32 31)).toInt32) i = bt x (n + i) := by
  show (x.toUInt32 >>> ((nI n).toUInt32 &&& Int32.toUInt32 31)).toBitVec.getLsbD i = x.toUInt32.toBitVec.getLsbD (n + i)
  rw [UInt32.toBitVec_shiftRight]
  show (x.toUInt32.toBitVec >>> (((nI n).toUInt32 &&& Int32.toUInt32 31).toBitVec % 32).toNat).getLsbD i = _
  rw [s_u n hn, BitVec.getLsbD_ushiftRight]
theorem b_sshr (n : Nat) (hn : n < 32) (x : Int32) {i : Nat} (hi : i < 32) : bt (x >>> (nI n &&& 31)) i = if n + i < 32 then bt x (n + i) else bt x 31 := by
  unfold bt
  rw [Int32.toBitVec_shiftRight]
  show (x.toBitVec.sshiftRight ((nI n &&& 31).toBitVec.smod 32).toNat).getLsbD i = _
  rw [s_l n hn, BitVec.getLsbD_sshiftRight, BitVec.msb_eq_getLsbD_last]
  simp [hi]
def fb_ct (p : Nat → Bool) : Nat → Nat
  | 0 => 0
  | n + 1 => fb_ct p n + (if p n then 1 else 0)
theorem fb_ct_succ (p : Nat → Bool) (n : Nat) : fb_ct p (n + 1) = fb_ct p n + (if p n then 1 else 0) := rfl
theorem fb_ct_le (p : Nat → Bool) : ∀ n, fb_ct p n ≤ n
  | 0 => Nat.le_refl _
  | n + 1 => by
    have h := fb_ct_le p n
    rw [fb_ct_succ]
    split <;> omega
theorem fb_ct_step (p : Nat → Bool) (m : Nat) : ∀ n, fb_ct p m ≤ fb_ct p (m + n)
  | 0 => Nat.le_refl _
  | n + 1 => by
    have h := fb_ct_step p m n
    show fb_ct p m ≤ fb_ct p (m + n + 1)
    rw [fb_ct_succ]
    omega
theorem fb_ct_mono (p : Nat → Bool) {m n : Nat} (h : m ≤ n) : fb_ct p m ≤ fb_ct p n := by
  have := fb_ct_step p m (n - m)
  rwa [Nat.add_sub_cancel' h] at this
theorem fb_ct_cong {p q : Nat → Bool} : ∀ {n : Nat}, (∀ k, k < n → p k = q k) → fb_ct p n = fb_ct q n
  | 0, _ => rfl
  | n + 1, h => by
    rw [fb_ct_succ, fb_ct_succ, fb_ct_cong (fun k hk => h k (by omega)), h n (by omega)]
/-- one place changed -/
theorem fb_ct_out (p : Nat → Bool) (b : Bool) {i n : Nat} (h : n ≤ i) : fb_ct (fun k => if k = i then b else p k) n = fb_ct p n :=
  fb_ct_cong fun k hk => if_neg (by omega)
theorem fb_ct_upd (p : Nat → Bool) (b : Bool) {i : Nat} : ∀ {n : Nat}, i < n → fb_ct (fun k => if k = i then b else p k) n + (if p i then 1 else 0) = fb_ct p n + (if b then 1 else 0)
  | 0, h => absurd h (Nat.not_lt_zero i)
  | n + 1, h => by
    rw [fb_ct_succ, fb_ct_succ]
    rcases Nat.lt_or_ge i n with q | q
    · have := fb_ct_upd p b q
      have e : (if n = i then b else p n) = p n := if_neg (by omega)
      rw [e]
      omega
    · have e : i = n := by omega
      subst e
      rw [fb_ct_out p b (Nat.le_refl _)]
      simp only [if_true]
      omega
theorem fb_ct_sub {p q : Nat → Bool} : ∀ {n : Nat}, (∀ k, k < n → p k = true → q k = true) → fb_ct p n ≤ fb_ct q n
  | 0, _ => Nat.le_refl _
  | n + 1, h => by
    have h1 := fb_ct_sub (n := n) (p := p) (q := q) (fun k hk => h k (by omega))
    have h2 := h n (by omega)
    rw [fb_ct_succ, fb_ct_succ]
    cases hp : p n <;> cases hq : q n <;> simp_all <;> omega
theorem fb_ct_or {p q : Nat → Bool} : ∀ {n : Nat}, (∀ k, k < n → ¬ (p k = true ∧ q k = true)) → fb_ct (fun k => p k || q k) n = fb_ct p n + fb_ct q n
  | 0, _ => rfl
  | n + 1, h => by
    have h1 := fb_ct_or (n := n) (p := p) (q := q) (fun k hk => h k (by omega))
    have h2 := h n (by omega)
    rw [fb_ct_succ, fb_ct_succ, fb_ct_succ, h1]
    cases hp : p n <;> cases hq : q n <;> simp_all <;> omega
theorem fb_ct_not (p : Nat → Bool) : ∀ n, fb_ct p n + fb_ct (fun k => !p k) n = n
  | 0 => rfl
  | n + 1 => by
    have h := fb_ct_not p n
    rw [fb_ct_succ, fb_ct_succ]
    cases p n <;> simp <;> omega
theorem fb_ct_split (p : Nat → Bool) (m : Nat) : ∀ n, fb_ct p (m + n) = fb_ct p m + fb_ct (fun k => p (m + k)) n
  | 0 => rfl
  | n + 1 => by
    have h := fb_ct_split p m n
    show fb_ct p (m + n + 1) = _
    rw [fb_ct_succ, fb_ct_succ, h, Nat.add_assoc]
theorem fb_ct_zero {p : Nat → Bool} : ∀ {n : Nat}, fb_ct p n = 0 ↔ ∀ k, k < n → p k = false
  | 0 => ⟨fun _ k hk => absurd hk (Nat.not_lt_zero k), fun _ => rfl⟩
  | n + 1 => by
    have h := fb_ct_zero (p := p) (n := n)
    rw [fb_ct_succ]
    constructor
    · intro e k hk
      have e1 : fb_ct p n = 0 := by omega
      rcases Nat.lt_or_ge k n with q | q
      · exact h.mp e1 k q
      · have ek : k = n := by omega
        subst ek
        cases hp : p k
        · rfl
        · simp [hp] at e
    · intro a
      rw [h.mpr (fun k hk => a k (by omega)), a n (by omega)]
      rfl
theorem fb_ct_pos {p : Nat → Bool} {n : Nat} : 0 < fb_ct p n ↔ ∃ k, k < n ∧ p k = true := by
  constructor
  · intro h
    refine Classical.byContradiction fun hx => ?_
    have := fb_ct_zero.mpr (fun k hk => by
      cases hp : p k
      · rfl
      · exact absurd ⟨k, hk, hp⟩ hx : ∀ k, k < n → p k = false)
    omega
  · rintro ⟨k, hk, hp⟩
    rcases Nat.eq_zero_or_pos (fb_ct p n) with e | e
    · have := fb_ct_zero.mp e k hk
      rw [this] at hp
      cases hp
    · exact e
theorem fb_ct_all {p : Nat → Bool} {n : Nat} : fb_ct p n = n ↔ ∀ k, k < n → p k = true := by
  have h := fb_ct_not p n
  constructor
  · intro e k hk
    have z : fb_ct (fun k => !p k) n = 0 := by omega
    have := fb_ct_zero.mp z k hk
    cases hp : p k
    · simp [hp] at this
    · rfl
  · intro a
    have z : fb_ct (fun k => !p k) n = 0 := fb_ct_zero.mpr (fun k hk => by simp [a k hk])
    omega
/-- the k-th place with the property -/
theorem fb_ct_kth {p : Nat → Bool} {k : Nat} : ∀ {n : Nat}, k < fb_ct p n → ∃ i, i < n ∧ p i = true ∧ fb_ct p i = k
  | 0, h => absurd h (Nat.not_lt_zero k)
  | n + 1, h => by
    rcases Nat.lt_or_ge k (fb_ct p n) with q | q
    · obtain ⟨i, h1, h2⟩ := fb_ct_kth q
      exact ⟨i, by omega, h2⟩
    · rw [fb_ct_succ] at h
      cases hp : p n
      · simp [hp] at h; omega
      · simp [hp] at h
        exact ⟨n, by omega, hp, by omega⟩
theorem fb_ct_kth_one {p : Nat → Bool} {i j : Nat} (hi : p i = true) (hj : p j = true) (e : fb_ct p i = fb_ct p j) : i = j := by
  have key : ∀ a b : Nat, a < b → p a = true → fb_ct p a < fb_ct p b := by
    intro a b hab ha
    have h := fb_ct_mono p (show a + 1 ≤ b from hab)
    rw [fb_ct_succ, ha] at h
    simp at h
    omega
  rcases Nat.lt_trichotomy i j with q | q | q
  · have := key i j q hi; omega
  · exact q
  · have := key j i q hj; omega

theorem bt_1 (i : Nat) : bt 1 i = decide (i = 0) := by
  rcases Nat.lt_or_ge i 32 with h | h
  · exact (by decide +kernel : ∀ i, i < 32 → bt 1 i = decide (i = 0)) i h
  · rw [b_big h, decide_eq_false (by omega)]
theorem bt_bI (q : Bool) (i : Nat) : bt (bI q) i = (q && decide (i = 0)) := by
  cases q
  · rw [Bool.false_and]; exact b_0 i
  · rw [Bool.true_and]; exact bt_1 i
theorem zsh1 {x : Int32} {b : Nat} (hb : b < 32) : ((x >>> ((nI b) &&& 31)) &&& 1) = bI (bt x b) := by
  refine b_ext fun i hi => ?_
  rw [b_and, b_sshr b hb x hi, bt_1, bt_bI]
  by_cases h : i = 0
  · subst h; rw [Nat.add_zero, if_pos hb]
  · rw [decide_eq_false h, Bool.and_false, Bool.and_false]
abbrev zp2 (b : Nat) : Int32 := (1 : Int32) <<< ((nI b) &&& 31)
theorem zpw {b : Nat} (hb : b < 32) {i : Nat} (hi : i < 32) : bt (zp2 b) i = decide (i = b) := by
  rw [b_shl b hb 1 hi, bt_1]
  by_cases h : i = b
  · subst h; simp
  · by_cases q : b ≤ i
    · rw [decide_eq_false h, decide_eq_false (show ¬ i - b = 0 by omega), Bool.and_false]
    · rw [decide_eq_false h, decide_eq_false q, Bool.false_and]
theorem zan {x : Int32} {b : Nat} (hb : b < 32) : (x &&& zp2 b) = 0 ↔ bt x b = false := by
  constructor
  · intro h
    have h2 : bt (x &&& zp2 b) b = bt 0 b := by rw [h]
    rw [b_and, zpw hb hb, b_0, decide_eq_true rfl, Bool.and_true] at h2
    exact h2
  · intro h
    refine b_ext fun i hi => ?_
    rw [b_and, zpw hb hi, b_0]
    by_cases e : i = b
    · subst e; rw [h]; rfl
    · rw [decide_eq_false e, Bool.and_false]
theorem zan1 {x : Int32} {b : Nat} (hb : b < 32) : ¬ (x &&& zp2 b) = 0 ↔ bt x b = true := by
  rw [zan hb]; cases bt x b <;> decide
theorem bt_not {x : Int32} {i : Nat} (hi : i < 32) : bt (x ^^^ (-1)) i = !bt x i := by
  rw [b_xor, b_m1 i hi]; cases bt x i <;> rfl
theorem bt_set {x : Int32} {b i : Nat} (hb : b < 32) (hi : i < 32) : bt (x ||| zp2 b) i = (bt x i || decide (i = b)) := by
  rw [b_or, zpw hb hi]
theorem bt_clr {x : Int32} {b i : Nat} (hb : b < 32) (hi : i < 32) : bt (x &&& (zp2 b ^^^ (-1))) i = (bt x i && !decide (i = b)) := by
  rw [b_and, bt_not hi, zpw hb hi]
/-- a mask of eight bits -/
def zm8 (x : Int32) : Prop := ∀ i, 8 ≤ i → i < 32 → bt x i = false
theorem bt_nI {n i : Nat} (hi : i < 32) : bt (nI n) i = n.testBit i := by
  show (BitVec.ofNat 32 n).getLsbD i = n.testBit i
  rw [BitVec.getLsbD_ofNat]; simp [hi]
theorem zm8_of {x : Int32} (h : zm8 x) : ∃ m, m < 256 ∧ x = nI m := by
  have e : nI x.toBitVec.toNat = x := by
    apply Int32.toBitVec_inj.1
    show BitVec.ofNat 32 x.toBitVec.toNat = x.toBitVec
    exact BitVec.eq_of_toNat_eq (by rw [BitVec.toNat_ofNat, Nat.mod_eq_of_lt x.toBitVec.isLt])
  refine ⟨x.toBitVec.toNat, ?_, e.symm⟩
  have h2 : x.toBitVec.toNat < 2 ^ 8 := by
    refine Nat.lt_pow_two_of_testBit _ fun i hi => ?_
    rcases Nat.lt_or_ge i 32 with q | q
    · rw [← bt_nI q, e]; exact h i hi q
    · rw [BitVec.testBit_toNat]; exact BitVec.getLsbD_of_ge _ _ q
  omega
theorem zm8_0 : zm8 0 := fun i _ _ => b_0 i
theorem zm8_set {x : Int32} {b : Nat} (hb : b < 8) (h : zm8 x) : zm8 (x ||| zp2 b) := fun i h8 hi => by
  rw [bt_set (by omega) hi, h i h8 hi, decide_eq_false (by omega)]; rfl
theorem zm8_clr {x : Int32} {b : Nat} (hb : b < 8) (h : zm8 x) : zm8 (x &&& (zp2 b ^^^ (-1))) := fun i h8 hi => by
  rw [bt_clr (by omega) hi, h i h8 hi]; rfl
theorem zm8_ext {x y : Int32} (hx : zm8 x) (hy : zm8 y) (h : ∀ i, i < 8 → bt x i = bt y i) : x = y := by
  refine b_ext fun i hi => ?_
  rcases Nat.lt_or_ge i 8 with q | q
  · exact h i q
  · rw [hx i q hi, hy i q hi]
theorem zm8_bit {x : Int32} (h : zm8 x) {i : Nat} (hi : bt x i = true) : i < 8 := by
  rcases Nat.lt_or_ge i 8 with q | q
  · exact q
  · rcases Nat.lt_or_ge i 32 with r | r
    · rw [h i q r] at hi; cases hi
    · rw [b_big r] at hi; cases hi
/-! sums of a loop, from the front -/
def zsu (g : Nat → Int32) : Nat → Nat → Int32
  | 0, _ => 0
  | k + 1, i => g i + zsu g k (i + 1)
theorem zsu_cong {g h : Nat → Int32} : ∀ (k i : Nat), (∀ j, i ≤ j → j < i + k → g j = h j) → zsu g k i = zsu h k i
  | 0, _, _ => rfl
  | k + 1, i, e => by
    show g i + zsu g k (i + 1) = h i + zsu h k (i + 1)
    rw [e i (Nat.le_refl _) (by omega), zsu_cong k (i + 1) (fun j a b => e j (by omega) (by omega))]
def zind (P : Nat → Bool) (i : Nat) : Int32 := if P i then 1 else 0
theorem zind_at (P : Nat → Bool) (i : Nat) : nI (fb_ct P i) + zind P i = nI (fb_ct P (i + 1)) := by
  rw [fb_ct_succ]; unfold zind
  cases P i
  · simp
  · simp only [if_true]; rw [nI_1]
theorem zsu_ct (P : Nat → Bool) : ∀ (k i : Nat), nI (fb_ct P i) + zsu (zind P) k i = nI (fb_ct P (i + k))
  | 0, i => by show nI (fb_ct P i) + 0 = nI (fb_ct P (i + 0)); rw [Int32.add_zero]; rfl
  | k + 1, i => by
    show nI (fb_ct P i) + (zind P i + zsu (zind P) k (i + 1)) = nI (fb_ct P (i + (k + 1)))
    rw [← Int32.add_assoc, zind_at, zsu_ct P k (i + 1), show i + 1 + k = i + (k + 1) by omega]
theorem zsu_n (P : Nat → Bool) (N : Nat) : zsu (zind P) N 0 = nI (fb_ct P N) := by
  have h := zsu_ct P N 0
  rw [show nI (fb_ct P 0) = 0 from rfl, Int32.zero_add, Nat.zero_add] at h
  exact h
/-- a loop that adds g i -/
theorem zlI (F : Nat → Int32 → Nat → Int32) (g : Nat → Int32) (N : Nat) (h0 : ∀ n m i, N ≤ i → F (n + 1) m i = m) (h1 : ∀ n m i, i < N → F (n + 1) m i = F n (m + g i) (i + 1)) :
    ∀ (n : Nat) (m : Int32) (i : Nat), N - i < n → i ≤ N → F n m i = m + zsu g (N - i) i
  | 0, _, _, h, _ => absurd h (Nat.not_lt_zero _)
  | n + 1, m, i, h, hi => by
    rcases Nat.lt_or_ge i N with q | q
    · obtain ⟨k, hk⟩ : ∃ k, N - i = k + 1 := ⟨N - i - 1, by omega⟩
      rw [h1 n m i q, zlI F g N h0 h1 n (m + g i) (i + 1) (by omega) (by omega), hk, show N - (i + 1) = k by omega]
      show m + g i + zsu g k (i + 1) = m + (g i + zsu g k (i + 1))
      rw [Int32.add_assoc]
    · rw [h0 n m i q, show N - i = 0 by omega]
      show m = m + 0
      rw [Int32.add_zero]
theorem zlI0 (F : Nat → Int32 → Nat → Int32) (g : Nat → Int32) (N : Nat) (h0 : ∀ n m i, N ≤ i → F (n + 1) m i = m) (h1 : ∀ n m i, i < N → F (n + 1) m i = F n (m + g i) (i + 1)) {n : Nat} (hn : N < n) : F n 0 0 = zsu g N 0 := by
  rw [zlI F g N h0 h1 n 0 0 (by omega) (Nat.zero_le _), Int32.zero_add]; rfl
/-- a loop that counts -/
theorem zlN (G : Nat → Nat → Nat → Nat) (P : Nat → Bool) (N : Nat) (h0 : ∀ n m i, N ≤ i → G (n + 1) m i = m) (h1 : ∀ n m i, i < N → G (n + 1) m i = G n (if P i then m + 1 else m) (i + 1)) :
    ∀ (n m i : Nat), N - i < n → i ≤ N → G n m i + fb_ct P i = m + fb_ct P N
  | 0, _, _, h, _ => absurd h (Nat.not_lt_zero _)
  | n + 1, m, i, h, hi => by
    rcases Nat.lt_or_ge i N with q | q
    · have ih := zlN G P N h0 h1 n (if P i then m + 1 else m) (i + 1) (by omega) (by omega)
      rw [fb_ct_succ] at ih
      rw [h1 n m i q]
      cases hP : P i
      · rw [hP] at ih; simpa using ih
      · rw [hP] at ih; simp only [if_true] at ih ⊢; omega
    · rw [h0 n m i q, show i = N by omega]
theorem zlN0 (G : Nat → Nat → Nat → Nat) (P : Nat → Bool) (N : Nat) (h0 : ∀ n m i, N ≤ i → G (n + 1) m i = m) (h1 : ∀ n m i, i < N → G (n + 1) m i = G n (if P i then m + 1 else m) (i + 1)) {n : Nat} (hn : N < n) : G n 0 0 = fb_ct P N := by
  have h := zlN G P N h0 h1 n 0 0 (by omega) (Nat.zero_le _)
  rw [show fb_ct P 0 = 0 from rfl] at h
  omega
