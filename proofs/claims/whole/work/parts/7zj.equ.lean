/-! THE TEXT: read whole, read command by command, run -/
section ET
variable {T X M N : Nat → Nat → Int32}
/-- the reference's reading, after i characters -/
def zMs (M : Nat → Nat → Int32) : Nat → Nat → Nat → Int32
  | 0 => zU (zU M 8 (fun _ => 0)) 10 (fun _ => 0)
  | i + 1 => (v_X5_takes (zMs M i) (M 4 i)).2
theorem ztk_all (M : Nat → Nat → Int32) (code : Int32) {k : Nat} (h7 : k ≠ 7) (h8 : k ≠ 8) (h9 : k ≠ 9) (h10 : k ≠ 10) : (v_X5_takes M code).2 k = M k := by
  rw [zTk_eq]
  by_cases c : code = 59
  · rw [if_pos c]
    by_cases d : v_X5_isEnded M = true
    · rw [if_pos d]; dsimp only; rw [zU_n _ _ h10, zU_n _ _ h8]
    · rw [if_neg d]; exact ztk_f M code h7 h8 h9 h10
  · rw [if_neg c]; exact ztk_f M code h7 h8 h9 h10
theorem zMs_f (M : Nat → Nat → Int32) {k : Nat} (h7 : k ≠ 7) (h8 : k ≠ 8) (h9 : k ≠ 9) (h10 : k ≠ 10) : ∀ i, zMs M i k = M k
  | 0 => by rw [zMs, zU_n _ _ h10, zU_n _ _ h8]
  | i + 1 => by rw [zMs, ztk_all _ _ h7 h8 h9 h10, zMs_f M h7 h8 h9 h10 i]
/-- the two whole readings -/
theorem zer_at {len : Nat} (hl : len ≤ 60) : ∀ (n i : Nat) (X' : Nat → Nat → Int32), len - i < n → i ≤ len → X' 1 0 = nI len → M 3 0 = nI len → (∀ j, j < len → X' 0 j = M 4 j ∧ vp_in (M 4 j) 127) → zPr X' (zMs M i) →
    ∃ e, e ≤ len ∧ (v_X0_errorIndex_6 n i X').1 = nI e ∧ (v_X5_rightUpTo_12 n i (zMs M i)).1 = nI e ∧ (∀ f, f ≠ 3 → f ≠ 4 → f ≠ 5 → f ≠ 6 → (v_X0_errorIndex_6 n i X').2 f = X' f) ∧
      (e = len → (∀ j, i ≤ j → j < len → (v_X5_takes (zMs M j) (M 4 j)).1 = true) ∧ (v_X5_rightUpTo_12 n i (zMs M i)).2 = zMs M len ∧ zPr (v_X0_errorIndex_6 n i X').2 (zMs M len))
  | 0, _, _, h, _, _, _, _, _ => absurd h (Nat.not_lt_zero _)
  | n + 1, i, X', h, hi, hx, hm, ht, hp => by
    have m3 : zMs M i 3 0 = nI len := by rw [zMs_f M (by decide) (by decide) (by decide) (by decide)]; exact hm
    have m4 : zMs M i 4 i = M 4 i := by rw [zMs_f M (by decide) (by decide) (by decide) (by decide)]
    rw [v_X0_errorIndex_6, v_X5_rightUpTo_12, hx, m3, nI_nat (by omega)]
    by_cases c : len ≤ i
    · have e : i = len := by omega
      subst e
      rw [if_pos (nI_le (Nat.le_refl _) (by omega)), if_pos c]
      exact ⟨i, Nat.le_refl _, rfl, rfl, fun _ _ _ _ _ => rfl, fun _ => ⟨fun j a b => by omega, rfl, hp⟩⟩
    · rw [if_neg (nI_ge (by omega) (by omega)), if_neg (show ¬ 60 ≤ i by omega), if_neg c, m4, (ht i (by omega)).1]
      obtain ⟨s1, s2⟩ := zsp hp (ht i (by omega)).2
      by_cases d : (v_X0_take X' (M 4 i)).1 = true
      · rw [if_pos d, if_pos (s1.symm.trans d)]
        have tf : ∀ f, f ≠ 3 → f ≠ 4 → f ≠ 5 → f ≠ 6 → (v_X0_take X' (M 4 i)).2 f = X' f := fun f h3 h4 h5 h6 => ztake_f X' _ h3 h4 h5 h6
        obtain ⟨e, q1, q2, q3, q4, q5⟩ := zer_at hl n (i + 1) (v_X0_take X' (M 4 i)).2 (by omega) (by omega) (by rw [tf 1 (by decide) (by decide) (by decide) (by decide)]; exact hx) hm (by rw [tf 0 (by decide) (by decide) (by decide) (by decide)]; exact ht) (s2 d).1
        refine ⟨e, q1, q2, q3, fun f h3 h4 h5 h6 => (q4 f h3 h4 h5 h6).trans (tf f h3 h4 h5 h6), fun he => ?_⟩
        obtain ⟨w1, w2, w3⟩ := q5 he
        refine ⟨fun j a b => ?_, w2, w3⟩
        by_cases g : j = i
        · subst g; exact s1.symm.trans d
        · exact w1 j (by omega) b
      · rw [if_neg d, if_neg (fun z => d (s1.trans z))]
        exact ⟨i, hi, rfl, rfl, fun f h3 h4 h5 h6 => ztake_f X' _ h3 h4 h5 h6, fun he => absurd he (by omega)⟩
theorem zer (H : zTx X M) : ∃ len e, len ≤ 60 ∧ M 3 0 = nI len ∧ X 1 0 = nI len ∧ (∀ j, j < len → X 0 j = M 4 j ∧ vp_in (M 4 j) 127) ∧ e ≤ len ∧ (v_X0_errorIndex X).1 = nI e ∧ (v_X5_rightUpTo M).1 = nI e ∧ (∀ f, f ≠ 2 → f ≠ 3 → f ≠ 4 → f ≠ 5 → f ≠ 6 → (v_X0_errorIndex X).2 f = X f) ∧
    (e = len → (∀ j, j < len → (v_X5_takes (zMs M j) (M 4 j)).1 = true) ∧ (v_X5_rightUpTo M).2 = zMs M len ∧ zPr (v_X0_errorIndex X).2 (zMs M len)) := by
  obtain ⟨h1, h2, h3⟩ := H
  obtain ⟨len, hl, e⟩ := vp_in_of h1 (by decide)
  rw [e, nI_nat (by omega)] at h3
  have p0 : zPr (v_X0_restart X) (zMs M 0) := Or.inl ⟨rfl, rfl⟩
  obtain ⟨x, q1, q2, q3, q4, q5⟩ := zer_at (M := M) (show len ≤ 60 by omega) 61 0 (v_X0_restart X) (by omega) (Nat.zero_le _) (by show X 1 0 = nI len; rw [h2, e]) e h3 p0
  exact ⟨len, x, by omega, e, by rw [h2, e], h3, q1, q2, q3, fun f a2 a3 a4 a5 a6 => by
    unfold v_X0_errorIndex
    rw [q4 f a3 a4 a5 a6]
    unfold v_X0_restart
    rw [zU_n _ _ a3, zU_n _ _ a2], fun he => ⟨fun j hj => (q5 he).1 j (Nat.zero_le _) hj, (q5 he).2⟩⟩
theorem em_first {Z T0 T1 T2 T3 T4 T5 : Nat → Nat → Int32} (V : zInv Z T0 T1 T2 T3 T4 T5 T X M) : (v_X4_firstError X).1 = (v_X5_firstError M).1 ∧ zInv Z T0 T1 T2 T3 T4 T5 T (v_X4_firstError X).2 (v_X5_firstError M).2 := by
  have V' := zInv5 V (fun _ => 0)
  obtain ⟨len, e, a1, a2, a3, a4, a5, a6, a7, a8, a9⟩ := zer V'.tx
  have fr := (zrt V'.tx.1).1
  unfold v_X4_firstError v_X5_firstError
  refine ⟨a6.trans a7.symm, ?_⟩
  have V2 := zInv_row V' (fr 0 (by decide) (by decide) (by decide) (by decide)) (fr 1 (by decide) (by decide) (by decide) (by decide)) (fr 2 (by decide) (by decide) (by decide) (by decide)) (fr 3 (by decide) (by decide) (by decide) (by decide)) (fr 4 (by decide) (by decide) (by decide) (by decide))
  dsimp only
  refine ⟨V2.tw, V2.ro, V2.hi, ?_⟩
  have t := V2.tx
  unfold zTx at t ⊢
  rw [a8 1 (by decide) (by decide) (by decide) (by decide) (by decide), a8 0 (by decide) (by decide) (by decide) (by decide) (by decide)]; exact t
/-- how many commands end before i -/
def zrc (M : Nat → Nat → Int32) (i : Nat) : Nat := fb_ct (fun j => decide (M 4 j = 59)) i
theorem zrc_le (M : Nat → Nat → Int32) (i : Nat) : zrc M i ≤ i := fb_ct_le _ i
/-- a character taken, from a text that is right -/
theorem zstpc {i : Nat} (hi : i < 60) (hp : zPr X (zMs M i)) (hc : vp_in (M 4 i) 127) (hr : zMs M i 8 0 = nI (zrc M i)) (ok : (v_X5_takes (zMs M i) (M 4 i)).1 = true) :
    (v_X0_take X (M 4 i)).1 = true ∧ zPr (v_X0_take X (M 4 i)).2 (zMs M (i + 1)) ∧ zMs M (i + 1) 8 0 = nI (zrc M (i + 1)) ∧ (∀ q, q < 3 * zrc M i → zMs M (i + 1) 7 q = zMs M i 7 q) ∧
    ((M 4 i = 59 ∧ zrc M (i + 1) = zrc M i + 1 ∧ zRc (v_X0_take X (M 4 i)).2 (zMs M (i + 1)) (zrc M i) ∧ (v_X0_take X (M 4 i)).2 3 0 = 0) ∨ (M 4 i ≠ 59 ∧ zrc M (i + 1) = zrc M i)) := by
  obtain ⟨s1, s2⟩ := zsp hp hc
  have d := s1.trans ok
  obtain ⟨p1, p2⟩ := s2 d
  have le := zrc_le M i
  have er : (zMs M i 8 0).toNatClampNeg = zrc M i := by rw [hr, nI_nat (by omega)]
  have sc : zrc M (i + 1) = zrc M i + (if decide (M 4 i = 59) = true then 1 else 0) := fb_ct_succ _ i
  refine ⟨d, p1, ?_⟩
  rcases p2 with ⟨c, e8, e7, rc, x3⟩ | ⟨c, e8, e7⟩
  · rw [decide_eq_true c, if_pos rfl] at sc
    rw [er] at rc
    refine ⟨?_, fun q hq => by show (v_X5_takes (zMs M i) (M 4 i)).2 7 q = _; rw [e7], Or.inl ⟨c, sc, ?_, x3⟩⟩
    · show (v_X5_takes (zMs M i) (M 4 i)).2 8 0 = _
      rw [e8, hr, sc, nI_succ]
    · have e7' : zMs M (i + 1) 7 = zMs M i 7 := e7
      unfold zRc at rc ⊢
      rw [e7']; exact rc
  · rw [decide_eq_false c, if_neg (by decide)] at sc
    have sc : zrc M (i + 1) = zrc M i := sc
    rw [er] at e7
    refine ⟨?_, fun q hq => e7 q hq, Or.inr ⟨c, sc⟩⟩
    show (v_X5_takes (zMs M i) (M 4 i)).2 8 0 = _
    rw [e8, hr, sc]
/-- what was read of earlier commands stays -/
theorem zMs_keep {len : Nat} (hl : len ≤ 60) (ok : ∀ j, j < len → (v_X5_takes (zMs M j) (M 4 j)).1 = true) (ht : ∀ j, j < len → vp_in (M 4 j) 127) (K : Nat → Nat → Nat → Int32) (hK : ∀ j, j ≤ len → zPr (K j) (zMs M j) ∧ zMs M j 8 0 = nI (zrc M j)) : ∀ (d i : Nat), i + d ≤ len → ∀ q, q < 3 * zrc M i → zMs M (i + d) 7 q = zMs M i 7 q
  | 0, _, _, _, _ => rfl
  | d + 1, i, h, q, hq => by
    have mo : zrc M i ≤ zrc M (i + d) := fb_ct_mono _ (by omega)
    obtain ⟨k1, k2⟩ := hK (i + d) (by omega)
    have s := (zstpc (by omega) k1 (ht _ (by omega)) k2 (ok _ (by omega))).2.2.2.1 q (by omega)
    show zMs M (i + d + 1) 7 q = _
    rw [s]; exact zMs_keep hl ok ht K hK d i (by omega) q hq
/-- the class's states of a right text -/
def zXs (X M : Nat → Nat → Int32) : Nat → Nat → Nat → Int32
  | 0 => X
  | i + 1 => (v_X0_take (zXs X M i) (M 4 i)).2
theorem zXs_ok {len : Nat} (hl : len ≤ 60) (ok : ∀ j, j < len → (v_X5_takes (zMs M j) (M 4 j)).1 = true) (ht : ∀ j, j < len → vp_in (M 4 j) 127) (h0 : X 3 0 = 0) : ∀ j, j ≤ len → zPr (zXs X M j) (zMs M j) ∧ zMs M j 8 0 = nI (zrc M j)
  | 0, _ => ⟨Or.inl ⟨h0, rfl⟩, rfl⟩
  | j + 1, h => by
    obtain ⟨k1, k2⟩ := zXs_ok hl ok ht h0 j (by omega)
    have s := zstpc (by omega) k1 (ht _ (by omega)) k2 (ok _ (by omega))
    exact ⟨s.2.1, s.2.2.1⟩
/-- one command read -/
theorem zrd_at {len : Nat} (hl : len ≤ 60) (ok : ∀ j, j < len → (v_X5_takes (zMs M j) (M 4 j)).1 = true) (ht : ∀ j, j < len → vp_in (M 4 j) 127) (hr : ∀ j, j ≤ len → zMs M j 8 0 = nI (zrc M j)) : ∀ (n a : Nat) (X' : Nat → Nat → Int32), len - a < n → a ≤ len → X' 1 0 = nI len → X' 2 0 = nI a → (∀ j, j < len → X' 0 j = M 4 j) → zPr X' (zMs M a) →
    ∃ e X2, v_X0_readCommand_19b n true X' = (true, X2) ∧ a ≤ e ∧ e ≤ len ∧ X2 1 0 = nI len ∧ X2 2 0 = nI e ∧ (∀ j, j < len → X2 0 j = M 4 j) ∧ zPr X2 (zMs M e) ∧ ((zrc M e = zrc M a + 1 ∧ zRc X2 (zMs M e) (zrc M a) ∧ X2 3 0 = 0) ∨ (e = len ∧ zrc M e = zrc M a))
  | 0, _, _, h, _, _, _, _, _ => absurd h (Nat.not_lt_zero _)
  | n + 1, a, X', h, ha, h1, h2, h0, hp => by
    rw [v_X0_readCommand_19b, if_pos rfl, h1, h2, nI_nat (by omega)]
    by_cases c : len ≤ a
    · have e : a = len := by omega
      subst e
      rw [if_pos (nI_le (Nat.le_refl _) (by omega))]
      exact ⟨a, X', rfl, Nat.le_refl _, Nat.le_refl _, h1, h2, h0, hp, Or.inr ⟨rfl, rfl⟩⟩
    · rw [if_neg (nI_ge (by omega) (by omega)), if_neg (show ¬ (60 : Int32) ≤ nI a from nI_ge (b := 60) (by omega) (by decide)), h0 a (by omega)]
      obtain ⟨s1, s2, s3, s4, s5⟩ := zstpc (by omega) hp (ht a (by omega)) (hr a ha) (ok a (by omega))
      have tf : ∀ f, f ≠ 3 → f ≠ 4 → f ≠ 5 → f ≠ 6 → (v_X0_take X' (M 4 a)).2 f = X' f := fun f h3 h4 h5 h6 => ztake_f X' _ h3 h4 h5 h6
      have t2 : (v_X0_take X' (M 4 a)).2 2 0 = nI a := by rw [tf 2 (by decide) (by decide) (by decide) (by decide)]; exact h2
      have p2 : ∀ Y K : Nat → Nat → Int32, ∀ f, zPr Y K → zPr (zU Y 2 f) K := fun Y K f hY => hY
      rw [if_pos s1, t2, ← nI_succ]
      by_cases d : M 4 a = 59
      · rcases s5 with ⟨_, g1, g2, g3⟩ | ⟨g, _⟩
        · rw [if_pos d]
          cases n with
          | zero => omega
          | succ n =>
            rw [v_X0_readCommand_19b, if_neg (by decide)]
            exact ⟨a + 1, _, rfl, by omega, by omega, by rw [zU_n _ _ (by decide), tf 1 (by decide) (by decide) (by decide) (by decide)]; exact h1, by rw [zU_s], by rw [zU_n _ _ (by decide), tf 0 (by decide) (by decide) (by decide) (by decide)]; exact h0, p2 _ _ _ s2, Or.inl ⟨g1, g2, g3⟩⟩
        · exact absurd d g
      · rcases s5 with ⟨g, _⟩ | ⟨_, g⟩
        · exact absurd g d
        · rw [if_neg d]
          obtain ⟨e, X2, r1, r2, r3, r4, r5, r6, r7, r8⟩ := zrd_at hl ok ht hr n (a + 1) (zU ((v_X0_take X' (M 4 a)).2) 2 (fun _ => nI (a + 1))) (by omega) (by omega) (by rw [zU_n _ _ (by decide), tf 1 (by decide) (by decide) (by decide) (by decide)]; exact h1) (by rw [zU_s]) (by rw [zU_n _ _ (by decide), tf 0 (by decide) (by decide) (by decide) (by decide)]; exact h0) (p2 _ _ _ s2)
          rw [g] at r8
          exact ⟨e, X2, r1, by omega, r3, r4, r5, r6, r7, r8⟩
/-- a command carried out -/
theorem zco (R : zTw T (M 0)) (I : zI M) {r : Nat} (hn : zNum M r) (rc : zRc X M r) : (v_X4_carryOut T X).1 = (v_X5_carries M r).1 ∧ zTw (v_X4_carryOut T X).2 ((v_X5_carries M r).2 0) := by
  obtain ⟨e4, kd⟩ := rc
  obtain ⟨n1, n2, n3⟩ := hn
  rw [← e4] at n1 n2 n3
  have ob : ∀ x, v_X5_isBread M x = false → v_X3_isOpenBread T x = false := fun x h => by rw [eq_isOpenB R I, h, if_neg (by decide)]
  have fin : ∀ {A B : Bool × (Nat → Nat → Int32)} {q : Bool} {S K : Nat → Nat → Int32}, A = (q, S) → B = (q, K) → zTw S (K 0) → A.1 = B.1 ∧ zTw A.2 (B.2 0) := fun h1 h2 h4 => by rw [h1, h2]; exact ⟨rfl, h4⟩
  rcases kd with ⟨k, e5, e6⟩ | ⟨k, e6, v, hv, hv3, ev⟩ | ⟨k, e5, e6⟩ | ⟨k, e5⟩
  · have n100 : ¬ X 4 0 = 100 := by rcases k with k | k <;> rw [k] <;> decide
    have h6 := znat (n2 k)
    rw [← e6] at h6
    have hto : (X 6 0).toNatClampNeg ≤ 100 := by omega
    rcases k with k | k
    · have cX : v_X4_carryOut T X = v_X3_tryRaise T (X 5 0) (X 6 0) := by unfold v_X4_carryOut; rw [if_pos k]
      by_cases b : v_X5_isBread M (X 5 0) = true
      · obtain ⟨ex, h8, hb⟩ := zisb_in I b
        have cM : v_X5_carries M r = (if v_X5_canRaise M (X 5 0).toNatClampNeg (X 6 0) = true then (true, v_X5_setShare M (X 5 0).toNatClampNeg (X 6 0).toNatClampNeg) else (false, M)) := by
          rw [zCr_eq]; unfold zCr; rw [← e4, if_neg n100, ← e5, ← e6, if_pos b, if_pos k, ← h6.1]
        by_cases c : v_X5_canRaise M (X 5 0).toNatClampNeg (X 6 0) = true
        · have le : zSh M (X 5 0).toNatClampNeg ≤ (X 6 0).toNatClampNeg := by
            have := zcr_le c
            have q := znat (show vp_in (v_X5_of M (X 5 0).toNatClampNeg 3) 101 from (I.2.1 _ h8).2.1)
            have q2 : zSh M (X 5 0).toNatClampNeg < 101 := q.2
            rw [q.1, h6.1] at this
            exact znle (by omega) (by omega) this
          have hr := eq_raise R I h8 hb hto le (zroom h8 I hto (Or.inl (by rw [← h6.1]; exact c)))
          rw [← h6.1] at hr
          exact fin (cX.trans (by unfold v_X3_tryRaise; rw [eq_canRaise R I b, c, if_pos rfl])) (cM.trans (if_pos c)) hr
        · have cf : v_X5_canRaise M (X 5 0).toNatClampNeg (X 6 0) = false := by simpa using c
          exact fin (cX.trans (by unfold v_X3_tryRaise; rw [eq_canRaise R I b, cf, if_neg (by decide)])) (cM.trans (if_neg c)) R
      · have bf : v_X5_isBread M (X 5 0) = false := by simpa using b
        have cM : v_X5_carries M r = (false, M) := by rw [zCr_eq]; unfold zCr; rw [← e4, if_neg n100, ← e5, if_neg b]
        have cr : v_X3_canRaise T (X 5 0) (X 6 0) = false := by unfold v_X3_canRaise; rw [ob _ bf, if_neg (by decide)]
        exact fin (cX.trans (by unfold v_X3_tryRaise; rw [cr, if_neg (by decide)])) cM R
    · have n43 : ¬ X 4 0 = 43 := by rw [k]; decide
      have cX : v_X4_carryOut T X = v_X3_tryLower T (X 5 0) (X 6 0) := by unfold v_X4_carryOut; rw [if_neg n43, if_pos k]
      by_cases b : v_X5_isBread M (X 5 0) = true
      · obtain ⟨ex, h8, hb⟩ := zisb_in I b
        have cM : v_X5_carries M r = (if v_X5_canLower M (X 5 0).toNatClampNeg (X 6 0) = true then (true, v_X5_setShare M (X 5 0).toNatClampNeg (X 6 0).toNatClampNeg) else (false, M)) := by
          rw [zCr_eq]; unfold zCr; rw [← e4, if_neg n100, ← e5, ← e6, if_pos b, if_neg n43, if_pos k, ← h6.1]
        by_cases c : v_X5_canLower M (X 5 0).toNatClampNeg (X 6 0) = true
        · have le : (X 6 0).toNatClampNeg ≤ zSh M (X 5 0).toNatClampNeg := by
            have := zcl_le c
            have q := znat (show vp_in (v_X5_of M (X 5 0).toNatClampNeg 3) 101 from (I.2.1 _ h8).2.1)
            have q2 : zSh M (X 5 0).toNatClampNeg < 101 := q.2
            rw [q.1, h6.1] at this
            exact znle (by omega) (by omega) this
          have hr := eq_lower R I h8 hb le (zroom h8 I hto (Or.inr (by rw [← h6.1]; exact c)))
          rw [← h6.1] at hr
          exact fin (cX.trans (by unfold v_X3_tryLower; rw [eq_canLower R I b, c, if_pos rfl])) (cM.trans (if_pos c)) hr
        · have cf : v_X5_canLower M (X 5 0).toNatClampNeg (X 6 0) = false := by simpa using c
          exact fin (cX.trans (by unfold v_X3_tryLower; rw [eq_canLower R I b, cf, if_neg (by decide)])) (cM.trans (if_neg c)) R
      · have bf : v_X5_isBread M (X 5 0) = false := by simpa using b
        have cM : v_X5_carries M r = (false, M) := by rw [zCr_eq]; unfold zCr; rw [← e4, if_neg n100, ← e5, if_neg b]
        have cr : v_X3_canLower T (X 5 0) (X 6 0) = false := by unfold v_X3_canLower; rw [ob _ bf, if_neg (by decide)]
        exact fin (cX.trans (by unfold v_X3_tryLower; rw [cr, if_neg (by decide)])) cM R
  · have h6 := znat (n1 k)
    rw [← e6] at h6
    have hv2 : 0 < (X 6 0).toNatClampNeg := by
      rw [ev, nI_nat (by omega)]; omega
    have hp := (eq_pass R I (show (X 6 0).toNatClampNeg ≤ 50 by omega) hv2).1
    rw [← h6.1] at hp
    have n43 : ¬ X 4 0 = 43 := by rw [k]; decide
    have n45 : ¬ X 4 0 = 45 := by rw [k]; decide
    have cX : v_X4_carryOut T X = (true, v_X3_letPass T (X 6 0)) := by unfold v_X4_carryOut; rw [if_neg n43, if_neg n45, if_pos k]
    have cM : v_X5_carries M r = (true, (v_X5_passes M (X 6 0).toNatClampNeg).2) := by rw [zCr_eq]; unfold zCr; rw [← e4, if_pos k, ← e6]
    exact fin cX cM hp
  · have n : ¬ X 4 0 = 100 ∧ ¬ X 4 0 = 43 ∧ ¬ X 4 0 = 45 ∧ ¬ X 4 0 = 120 := by rcases k with k | k <;> rw [k] <;> decide
    have h6 := znat (n3 n.1 n.2.1 n.2.2.1 n.2.2.2)
    rw [← e6] at h6
    have hneg : ¬ X 6 0 < 0 := fun z => by rw [h6.1, Int32.lt_iff_toInt_lt, nI_toInt (by omega), show (0 : Int32).toInt = 0 from rfl] at z; omega
    have hbig : ¬ 150 ≤ X 6 0 := by rw [h6.1]; exact nI_ge (b := 150) h6.2 (by decide)
    have th : ∀ q : Bool, v_X3_tryHold T (X 6 0) (X 5 0) q = if v_X3_isOpenBread T (X 5 0) = true then (true, v_X3_setHold T (X 6 0).toNatClampNeg (X 5 0).toNatClampNeg q) else (false, T) := fun q => by
      unfold v_X3_tryHold
      rw [if_neg hneg, if_neg hbig]
    have cX : ∃ q : Bool, v_X4_carryOut T X = v_X3_tryHold T (X 6 0) (X 5 0) q ∧ ((q = true ∧ X 4 0 = 105) ∨ (q = false ∧ ¬ X 4 0 = 105)) := by
      unfold v_X4_carryOut
      rcases k with k | k
      · exact ⟨true, by rw [if_neg n.2.1, if_neg n.2.2.1, if_neg n.1, if_pos k], Or.inl ⟨rfl, k⟩⟩
      · have n5 : ¬ X 4 0 = 105 := by rw [k]; decide
        exact ⟨false, by rw [if_neg n.2.1, if_neg n.2.2.1, if_neg n.1, if_neg n5, if_pos k], Or.inr ⟨rfl, n5⟩⟩
    obtain ⟨q, cX, hq⟩ := cX
    by_cases b : v_X5_isBread M (X 5 0) = true
    · obtain ⟨ex, h8, hb⟩ := zisb_in I b
      by_cases o : v_X5_isOpen M (X 5 0).toNatClampNeg = true
      · have cM : v_X5_carries M r = (true, v_X5_holds M (X 6 0).toNatClampNeg (X 5 0).toNatClampNeg (bI q) (bI (!q))) := by
          rw [zCr_eq]; unfold zCr; rw [← e4, if_neg n.1, ← e5, ← e6, if_pos b, if_neg n.2.1, if_neg n.2.2.1, if_pos o, if_neg n.2.2.2]
          rcases hq with ⟨hq, h⟩ | ⟨hq, h⟩
          · rw [if_pos h, hq]; rfl
          · rw [if_neg h, hq]; rfl
        exact fin (cX.trans ((th q).trans (by rw [eq_isOpenB1 R I b, o, if_pos rfl]))) cM (eq_holds R h6.2 h8 q)
      · have of : v_X5_isOpen M (X 5 0).toNatClampNeg = false := by simpa using o
        have cM : v_X5_carries M r = (false, M) := by
          rw [zCr_eq]; unfold zCr; rw [← e4, if_neg n.1, ← e5, ← e6, if_pos b, if_neg n.2.1, if_neg n.2.2.1, if_neg o]
        exact fin (cX.trans ((th q).trans (by rw [eq_isOpenB1 R I b, of, if_neg (by decide)]))) cM R
    · have bf : v_X5_isBread M (X 5 0) = false := by simpa using b
      have cM : v_X5_carries M r = (false, M) := by rw [zCr_eq]; unfold zCr; rw [← e4, if_neg n.1, ← e5, if_neg b]
      exact fin (cX.trans ((th q).trans (by rw [ob _ bf, if_neg (by decide)]))) cM R
  · have m : ¬ X 4 0 = 43 ∧ ¬ X 4 0 = 45 ∧ ¬ X 4 0 = 100 ∧ ¬ X 4 0 = 105 ∧ ¬ X 4 0 = 111 := by rw [k]; decide
    have cX : v_X4_carryOut T X = v_X3_tryClose T (X 5 0) := by unfold v_X4_carryOut; rw [if_neg m.1, if_neg m.2.1, if_neg m.2.2.1, if_neg m.2.2.2.1, if_neg m.2.2.2.2, if_pos k]
    by_cases b : v_X5_isBread M (X 5 0) = true
    · obtain ⟨ex, h8, hb⟩ := zisb_in I b
      by_cases o : v_X5_isOpen M (X 5 0).toNatClampNeg = true
      · have cM : v_X5_carries M r = (true, v_X5_ends M (X 5 0).toNatClampNeg) := by
          rw [zCr_eq]; unfold zCr; rw [← e4, if_neg m.2.2.1, ← e5, if_pos b, if_neg m.1, if_neg m.2.1, if_pos o, if_pos k]
        exact fin (cX.trans (by unfold v_X3_tryClose; rw [eq_isOpenB1 R I b, o, if_pos rfl])) cM (eq_ends R I h8 hb)
      · have of : v_X5_isOpen M (X 5 0).toNatClampNeg = false := by simpa using o
        have cM : v_X5_carries M r = (false, M) := by
          rw [zCr_eq]; unfold zCr; rw [← e4, if_neg m.2.2.1, ← e5, if_pos b, if_neg m.1, if_neg m.2.1, if_neg o]
        exact fin (cX.trans (by unfold v_X3_tryClose; rw [eq_isOpenB1 R I b, of, if_neg (by decide)])) cM R
    · have bf : v_X5_isBread M (X 5 0) = false := by simpa using b
      have cM : v_X5_carries M r = (false, M) := by rw [zCr_eq]; unfold zCr; rw [← e4, if_neg m.2.2.1, ← e5, if_neg b]
      exact fin (cX.trans (by unfold v_X3_tryClose; rw [ob _ bf, if_neg (by decide)])) cM R
end ET
