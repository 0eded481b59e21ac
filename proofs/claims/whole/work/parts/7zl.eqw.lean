/-! pass; digest -/
section EV
variable {Z T0 T1 T2 T3 T4 T5 T X M N O : Nat → Nat → Int32}
theorem em_pass (V : zInv Z T0 T1 T2 T3 T4 T5 T X M) (d : Int32) :
    (e_X4_pass Z T0 T1 T2 T3 T4 T5 T d = none ∧ (v_X5_pass M d).2 5 0 = 0 ∧ (v_X4_pass Z T0 T1 T2 T3 T4 T5 T d).1 = (v_X5_pass M d).1 ∧ ∃ Z' U0 U1 U2 U3 U4 U5 T', (v_X4_pass Z T0 T1 T2 T3 T4 T5 T d).2 = (Z', U0, U1, U2, U3, U4, U5, T') ∧ zInv Z' U0 U1 U2 U3 U4 U5 T' X (v_X5_pass M d).2) ∨
    (e_X4_pass Z T0 T1 T2 T3 T4 T5 T d = some zIA ∧ (v_X5_pass M d).2 5 0 = 1 ∧ zInv Z T0 T1 T2 T3 T4 T5 T X (v_X5_pass M d).2) := by
  unfold e_X4_pass v_X5_pass
  by_cases c : v_X5_within d 1 50 = true
  · left
    have c2 := zcanCut.mp c
    obtain ⟨ed, hd⟩ := znat (zw50 c)
    have h0 : 0 < d.toNatClampNeg := by
      rcases Nat.eq_zero_or_pos d.toNatClampNeg with z | z
      · have := c2.1
        rw [ed, z] at this; exact absurd this (by decide)
      · exact z
    rw [if_pos c, if_neg (show ¬ d < 1 from fun z => by have := c2.1; rw [Int32.le_iff_toInt_le] at this; rw [Int32.lt_iff_toInt_lt] at z; omega), if_pos c2.2]
    obtain ⟨Z', U0, U1, U2, U3, U4, U5, es, V1⟩ := eq_save V (fun _ => 0)
    have hp := eq_pass V1.tw V1.ro (show d.toNatClampNeg ≤ 50 by omega) h0
    have fr := zps_I (days := d.toNatClampNeg) V1.ro (by omega)
    rw [← ed] at hp
    refine ⟨rfl, ?_, ?_, Z', U0, U1, U2, U3, U4, U5, v_X3_letPass T d, ?_, zInv_tw V1 hp.1 fr.1 fr.2⟩
    · dsimp only; rw [fr.2 5 (by decide), zse5 V.hi.1]
    · unfold v_X4_pass; dsimp only; exact hp.2
    · unfold v_X4_pass; rw [es]
  · right
    have c2 : ¬ (1 ≤ d ∧ d ≤ 50) := fun z => c (zcanCut.mpr z)
    rw [if_neg c]
    by_cases e : d < 1
    · rw [if_pos e]; exact ⟨rfl, rfl, zInv5 V _⟩
    · rw [if_neg e, if_neg (fun z => c2 ⟨by rw [Int32.le_iff_toInt_le]; rw [Int32.lt_iff_toInt_lt] at e; omega, z⟩)]; exact ⟨rfl, rfl, zInv5 V _⟩
theorem zbits : ∀ r : Nat, r < 151 → v_X4_bitsOf (FP.ddiv (FP.i2d (nI r)) 4639481672377565184) = v_Jxe99ae_doubleToLongBits_ccdee (FP.ddiv (FP.i2d (nI r)) 4639481672377565184) := by decide +kernel
theorem zhb175 (R : zTw T (N 0)) (I : zI N) {b : Nat} (hb : b < 8) (O : Nat → Nat → Int32) (M : Nat → Nat → Int32) (hN : N = (v_X5_nextNow ((v_X5_saltFor ((v_X5_leastShare ((v_X5_sharedThen M b 50).2) b 75).2) b 100).2) b).2) : ∀ (n pe : Nat) (h : Int64), 150 - pe < n → pe ≤ 150 → (v_X4_hashWithBread_175 T O b n h pe).1 = (v_X5_mixBread_96 M b n pe h).2
  | 0, _, _, h, _ => absurd h (Nat.not_lt_zero _)
  | n + 1, pe, w, h, hp => by
    rw [v_X4_hashWithBread_175, v_X5_mixBread_96]
    by_cases c : 150 ≤ pe
    · rw [if_pos c, if_pos c]
    · rw [if_neg c, if_neg c, ← hN, ← eq_eat R I (show pe < 150 by omega) hb]
      exact zhb175 R I hb O M hN n (pe + 1) _ (by omega) (by omega)
theorem zhb (R : zTw T (M 0)) (I : zI M) {b : Nat} (hb : b < 8) (hbr : b < (M 0 1).toNatClampNeg) (O : Nat → Nat → Int32) (w : Int64) : (v_X4_hashWithBread T O w b).1 = (v_X5_mixBread M w b).2 := by
  obtain ⟨N1, e1⟩ : ∃ K, K = (v_X5_sharedThen M b 50).2 := ⟨_, rfl⟩
  obtain ⟨N2, e2⟩ : ∃ K, K = (v_X5_leastShare ((v_X5_sharedThen M b 50).2) b 75).2 := ⟨_, rfl⟩
  obtain ⟨N3, e3⟩ : ∃ K, K = (v_X5_saltFor ((v_X5_leastShare ((v_X5_sharedThen M b 50).2) b 75).2) b 100).2 := ⟨_, rfl⟩
  obtain ⟨N4, e4⟩ : ∃ K, K = (v_X5_nextNow ((v_X5_saltFor ((v_X5_leastShare ((v_X5_sharedThen M b 50).2) b 75).2) b 100).2) b).2 := ⟨_, rfl⟩
  have r1 : N1 0 = M 0 := by rw [e1]; exact zmx1 hb I hbr
  have r2 : N2 0 = M 0 := by rw [e2]; exact zmx2 hb I hbr
  have r3 : N3 0 = M 0 := by rw [e3]; exact zmx3 hb I hbr
  have r4 : N4 0 = M 0 := by rw [e4]; exact zmx4 hb I hbr
  have bn : (nI b).toNatClampNeg = b := nI_nat (by omega)
  have ib : ∀ K : Nat → Nat → Int32, K 0 = M 0 → v_X5_isBread K (nI b) = true := fun K hK => by
    unfold v_X5_isBread
    obtain ⟨j, hj, e⟩ := vp_in_of (zI_B I) (by decide)
    have lt : b < j := by rw [e, nI_nat (by omega)] at hbr; exact hbr
    rw [hK, e, zcanCut, Int32.le_iff_toInt_le, Int32.le_iff_toInt_le, zsub1 j hj, nI_toInt (by omega), show (0 : Int32).toInt = 0 from rfl]; omega
  have ifS : ∀ O, (v_X2_eatersAt O T (nI b) 50).1 = (v_X5_sharedThen M b 50).1 := fun O => by
    rw [zst_eq R I hb hbr (by decide)]
    have h := zea (s := 50) R I (ib M rfl) O (by decide)
    rw [bn] at h; exact h
  have ls : ∀ O, (v_X2_leastShare O T (nI b) 75).1 = (v_X5_leastShare ((v_X5_sharedThen M b 50).2) b 75).1 := fun O => by
    rw [← e1]
    have h := zls_eq (T := T) (M := N1) (by rw [r1]; exact R) (zI_row r1 I) (ib N1 r1) O 75 (by decide)
    rw [bn] at h; exact h
  have bs : v_X4_bestSaltFrom T (nI b) 100 = (v_X5_saltFor ((v_X5_leastShare ((v_X5_sharedThen M b 50).2) b 75).2) b 100).1 := by
    rw [← e2]
    have h := zbs_eq (T := T) (M := N2) (by rw [r2]; exact R) (zI_row r2 I) (ib N2 r2) (fr := 100) (by decide)
    rw [bn] at h; exact h
  have nn : ∀ O, (v_X2_firstNewcomer O T (nI b)).1 = (v_X5_nextNow ((v_X5_saltFor ((v_X5_leastShare ((v_X5_sharedThen M b 50).2) b 75).2) b 100).2) b).1 := fun O => by
    rw [← e3]
    have h := znn_eq (T := T) (M := N3) (by rw [r3]; exact R) (zI_row r3 I) (ib N3 r3) O
    rw [bn] at h; exact h
  have pt : v_X4_bitsOf (v_X4_partOf T b) = v_Jxe99ae_doubleToLongBits_ccdee (v_X5_partOf ((v_X5_nextNow ((v_X5_saltFor ((v_X5_leastShare ((v_X5_sharedThen M b 50).2) b 75).2) b 100).2) b).2) b) := by
    rw [← e4]
    unfold v_X4_partOf v_X5_partOf
    rw [eq_eaters (T := T) (M := N4) (by rw [r4]; exact R) (zI_row r4 I) hb]
    obtain ⟨r, hr, er⟩ := zmeat N4 b
    rw [er]; exact zbits r (by omega)
  have bo : nI (v_X3_eatersOfBoth T b 0) = v_X5_bothEat M b 0 := eq_both R I hb (by decide)
  have key : ∀ (n wh : Nat) (h : Int64), 12 - wh < n → wh ≤ 12 → (v_X4_hashWithBread_6 T O b n h wh).1 = (v_X5_mixBread_2 M b n wh h).2 := by
    intro n
    induction n with
    | zero => intro wh h hn; exact absurd hn (Nat.not_lt_zero _)
    | succ n ih =>
      intro wh h hn hw
      rw [v_X4_hashWithBread_6, v_X5_mixBread_2]
      by_cases c : 12 ≤ wh
      · rw [if_pos (show 11 < wh by omega), if_pos c, ifS, ls, bs, nn, pt, bo]
        unfold v_X5_mix
        exact zhb175 (N := N4) (by rw [r4]; exact R) (zI_row r4 I) hb O M e4 151 0 _ (by decide) (by decide)
      · rw [if_neg (show ¬ 11 < wh by omega), if_neg c, eq_bp R I hb (show wh < 12 by omega)]
        exact ih (wh + 1) _ (by omega) (by omega)
  exact key 13 0 w (by decide) (by decide)
theorem zd125 {len : Nat} (hl : len ≤ 60) (hx : X 1 0 = nI len) (hm : M 3 0 = nI len) (ht : ∀ j, j < len → X 0 j = M 4 j) (O : Nat → Nat → Int32) : ∀ (n i : Nat) (w : Int64), len - i < n → i ≤ len → ∃ h, v_X5_digest_152 M n i w = (h, M, h) ∧ (v_X4_digest_125 X O n w i).1 = h
  | 0, _, _, h, _ => absurd h (Nat.not_lt_zero _)
  | n + 1, i, w, h, hi => by
    rw [v_X5_digest_152, v_X4_digest_125, hx, hm, nI_nat (by omega)]
    by_cases c : len ≤ i
    · rw [if_pos c, if_pos (nI_le c (by omega))]; exact ⟨w, rfl, rfl⟩
    · rw [if_neg c, if_neg (nI_ge (by omega) (by omega)), if_neg (by omega), ht i (by omega)]
      exact zd125 hl hx hm ht O n (i + 1) _ (by omega) (by omega)
theorem zd78 (R : zTw T (M 0)) (Tx : zTx X M) (O : Nat → Nat → Int32) : ∀ (n i : Nat) (w : Int64), 300 - i < n → i ≤ 300 → ∃ h, v_X5_digest_114 M n i w = (h, M, h) ∧ (v_X4_digest_78 T X O n w i).1 = h
  | 0, _, _, h, _ => absurd h (Nat.not_lt_zero _)
  | n + 1, i, w, h, hi => by
    rw [v_X5_digest_114, v_X4_digest_78]
    by_cases c : 300 ≤ i
    · rw [if_pos c, if_pos c]
      obtain ⟨t1, t2, t3⟩ := Tx
      obtain ⟨len, hl, e⟩ := vp_in_of t1 (by decide)
      rw [e, nI_nat (by omega)] at t3
      rw [t2]
      exact zd125 (show len ≤ 60 by omega) (t2.trans e) e (fun j hj => (t3 j hj).1) O 61 0 _ (by omega) (Nat.zero_le _)
    · rw [if_neg c, if_neg c, R.2.2.1 i (by omega)]
      exact zd78 R Tx O n (i + 1) _ (by omega) (by omega)
theorem zd84 (R : zTw T (M 0)) (I : zI M) : ∀ (m pe : Nat) (w : Int64), pe + m = 150 → v_X5_digest_84 M (5 * m + 1) (5 * pe) w = v_X5_digest_114 M 301 0 (v_X4_hashWithPersons_5 T (m + 1) w pe)
  | 0, pe, w, h => by
    rw [v_X4_hashWithPersons_5, v_X5_digest_84, if_pos (show 750 ≤ 5 * pe by omega), if_pos (show 150 ≤ pe by omega)]
  | m + 1, pe, w, h => by
    have hp : pe < 150 := by omega
    have q : ∀ i, i < 5 → (5 * pe + i) / 5 = pe ∧ (5 * pe + i) % 5 = i := fun i hi => by omega
    have pp : ∀ i, i < 5 → v_X5_personNow M ((5 * pe + i) / 5) ((5 * pe + i) % 5) = v_X3_personProperty T pe (nI i) := fun i hi => by
      rw [(q i hi).1, (q i hi).2, eq_pp R I hp hi]
    have p0 := pp 0 (by decide)
    rw [Nat.add_zero] at p0
    rw [show 5 * (m + 1) + 1 = 5 * m + 1 + 1 + 1 + 1 + 1 + 1 by omega, v_X5_digest_84, if_neg (show ¬ 750 ≤ 5 * pe by omega), v_X5_digest_84, if_neg (show ¬ 750 ≤ 5 * pe + 1 by omega), v_X5_digest_84, if_neg (show ¬ 750 ≤ 5 * pe + 1 + 1 by omega), v_X5_digest_84, if_neg (show ¬ 750 ≤ 5 * pe + 1 + 1 + 1 by omega), v_X5_digest_84, if_neg (show ¬ 750 ≤ 5 * pe + 1 + 1 + 1 + 1 by omega)]
    rw [p0, pp 1 (by decide), show 5 * pe + 1 + 1 = 5 * pe + 2 from rfl, pp 2 (by decide), show 5 * pe + 2 + 1 = 5 * pe + 3 from rfl, pp 3 (by decide), show 5 * pe + 3 + 1 = 5 * pe + 4 from rfl, pp 4 (by decide), show 5 * pe + 4 + 1 = 5 * (pe + 1) by omega, zd84 R I m (pe + 1) _ (by omega)]
    have e : v_X4_hashWithPersons_5 T (m + 1 + 1) w pe = v_X4_hashWithPersons_5 T (m + 1) ((v_X4_hashWithPersons_16 T pe 6 w 0).1) (pe + 1) := by
      rw [v_X4_hashWithPersons_5, if_neg (by omega)]
    rw [e]
    refine congrArg (fun h => v_X5_digest_114 M 301 0 (v_X4_hashWithPersons_5 T (m + 1) h (pe + 1))) ?_
    rw [v_X4_hashWithPersons_16, if_neg (by decide), v_X4_hashWithPersons_16, if_neg (by decide), v_X4_hashWithPersons_16, if_neg (by decide), v_X4_hashWithPersons_16, if_neg (by decide), v_X4_hashWithPersons_16, if_neg (by decide), v_X4_hashWithPersons_16, if_pos (by decide)]
    unfold v_X5_mix; rfl
theorem zd61 (R : zTw T (M 0)) (I : zI M) (Tx : zTx X M) : ∀ (n b : Nat) (K : Nat → Nat → Int32) (O : Nat → Nat → Int32) (w : Int64), 8 - b < n → b ≤ (M 0 1).toNatClampNeg → K 0 = M 0 → (∀ k, k ≠ 0 → k ≠ 6 → k ≠ 11 → K k = M k) → ∃ h K', v_X5_digest_61 n b K w = (h, K', h) ∧ (v_X4_digest_40 T X n w b O).1 = h ∧ K' 0 = M 0 ∧ ∀ k, k ≠ 0 → k ≠ 6 → k ≠ 11 → K' k = M k
  | 0, _, _, _, _, h, _, _, _ => absurd h (Nat.not_lt_zero _)
  | n + 1, b, K, O, w, h, hb, h0, hk => by
    have h8 := znb8 I
    have RK : zTw T (K 0) := by rw [h0]; exact R
    have IK : zI K := zI_row h0 I
    have TK : zTx X K := zTx_ext (hk 3 (by decide) (by decide) (by decide)) (hk 4 (by decide) (by decide) (by decide)) Tx
    rw [v_X5_digest_61, v_X4_digest_40, eq_nb R, h0]
    by_cases c : M 0 1 ≤ nI b
    · rw [if_pos c, if_pos c]
      have e := zd84 RK IK 150 0 w (by decide)
      have e2 : v_X5_digest_84 K 751 0 w = v_X5_digest_114 K 301 0 (v_X4_hashWithPersons T w) := e
      rw [e2]
      obtain ⟨x, q1, q2⟩ := zd78 RK TK O 301 0 (v_X4_hashWithPersons T w) (by decide) (by decide)
      exact ⟨x, K, q1, q2, h0, hk⟩
    · have lt : b < (M 0 1).toNatClampNeg := Nat.lt_of_not_le (fun z => c ((znbi I b (by omega)).mpr z))
      have b8 : b < 8 := by omega
      have hbK : b < (K 0 1).toNatClampNeg := by rw [h0]; exact lt
      obtain ⟨f0, f1⟩ := zmx (w := w) b8 IK hbK
      rw [if_neg c, if_neg c, if_neg (show ¬ 8 ≤ b by omega), zhb RK IK b8 hbK O w]
      exact zd61 R I Tx n (b + 1) _ _ _ (by omega) (by omega) (f0.trans h0) (fun k a1 a2 a3 => (f1 k a1 a2 a3).trans (hk k a1 a2 a3))
theorem zd14 (V : zInv Z T0 T1 T2 T3 T4 T5 T X M) (O : Nat → Nat → Int32) : ∀ (n wh : Nat) (w : Int64), 23 - wh < n → wh ≤ 23 → ∃ h K', v_X5_digest_14 M n wh w = (h, K', h) ∧ (v_X4_digest_6 T Z O X n w wh).1 = h ∧ K' 0 = M 0 ∧ ∀ k, k ≠ 0 → k ≠ 6 → k ≠ 11 → K' k = zU M 5 (fun _ => 0) k
  | 0, _, _, h, _ => absurd h (Nat.not_lt_zero _)
  | n + 1, wh, w, h, hw => by
    have V' := zInv5 V (fun _ => 0)
    rw [v_X5_digest_14, v_X4_digest_6]
    by_cases c : 23 ≤ wh
    · rw [if_pos c, if_pos (show 22 < wh by omega)]
      obtain ⟨x, K', q1, q2, q3, q4⟩ := zd61 V'.tw V'.ro V'.tx 9 0 (zU M 5 (fun _ => 0)) O w (by decide) (Nat.zero_le _) rfl (fun _ _ _ _ => rfl)
      exact ⟨x, K', q1, q2, q3.trans (zU_n _ _ (by decide)), q4⟩
    · rw [if_neg c, if_neg (show ¬ 22 < wh by omega), encnt]
      have w1 : v_X5_within (nI wh) 0 8 = decide (wh < 9) := by
        rw [Bool.eq_iff_iff, zcanCut, Int32.le_iff_toInt_le, Int32.le_iff_toInt_le, nI_toInt (by omega), show (0 : Int32).toInt = 0 from rfl, show (8 : Int32).toInt = 8 from rfl]; simp; omega
      have w3 : v_X5_within (nI wh) 20 22 = decide (20 ≤ wh) := by
        rw [Bool.eq_iff_iff, zcanCut, Int32.le_iff_toInt_le, Int32.le_iff_toInt_le, nI_toInt (by omega), show (20 : Int32).toInt = 20 from rfl, show (22 : Int32).toInt = 22 from rfl]; simp; omega
      have w2 : v_X5_within (nI wh) 10 12 = decide (10 ≤ wh ∧ wh ≤ 12) := by
        rw [Bool.eq_iff_iff, zcanCut, Int32.le_iff_toInt_le, Int32.le_iff_toInt_le, nI_toInt (by omega), show (10 : Int32).toInt = 10 from rfl, show (12 : Int32).toInt = 12 from rfl]; simp; omega
      have ec : (wh < 9 ∨ (10 ≤ wh ∧ wh ≤ 12) ∨ (20 ≤ wh ∧ wh ≤ 22)) → v_X4_numberOf Z T (nI wh) = v_X5_counted (zU M 5 (fun _ => 0)) wh := fun hh => eq_cnt V'.tw V'.ro V'.hi.2.1 hh
      rw [w1, w2, w3]
      by_cases c1 : wh < 9
      · rw [if_pos c1, decide_eq_true c1, Bool.true_or, Bool.true_or, if_pos rfl, ec (Or.inl c1)]
        exact zd14 V O n (wh + 1) _ (by omega) (by omega)
      · rw [if_neg c1, decide_eq_false c1, Bool.false_or]
        by_cases c2 : 10 ≤ wh ∧ wh ≤ 12
        · rw [decide_eq_true c2, if_pos rfl, Bool.true_or, if_pos rfl, ec (Or.inr (Or.inl c2))]
          exact zd14 V O n (wh + 1) _ (by omega) (by omega)
        · rw [decide_eq_false c2, if_neg (show ¬ false = true by decide), Bool.false_or]
          by_cases c3 : wh ≤ 19
          · rw [if_pos c3, decide_eq_false (show ¬ 20 ≤ wh by omega), if_neg (by decide)]
            exact zd14 V O n (wh + 1) _ (by omega) (by omega)
          · rw [if_neg c3, decide_eq_true (show 20 ≤ wh by omega), if_pos rfl, ec (Or.inr (Or.inr ⟨by omega, by omega⟩))]
            exact zd14 V O n (wh + 1) _ (by omega) (by omega)
theorem em_digest (V : zInv Z T0 T1 T2 T3 T4 T5 T X M) (O : Nat → Nat → Int32) (w : Int64) : (v_X4_digest T Z O X).1 = (v_X5_digest M w).1 ∧ zInv Z T0 T1 T2 T3 T4 T5 T X (v_X5_digest M w).2.1 ∧ (v_X5_digest M w).2.1 5 0 = 0 := by
  have V' := zInv5 V (fun _ => 0)
  obtain ⟨h, K, q1, q2, q3, q4⟩ := zd14 V O 24 0 2459 (by decide) (by decide)
  unfold v_X5_digest v_X4_digest
  rw [q1, q2]
  refine ⟨rfl, zInv_row V' (q3.trans (zU_n _ _ (by decide)).symm) (q4 1 (by decide) (by decide) (by decide)) (q4 2 (by decide) (by decide) (by decide)) (q4 3 (by decide) (by decide) (by decide)) (q4 4 (by decide) (by decide) (by decide)), ?_⟩
  show K 5 0 = 0
  rw [q4 5 (by decide) (by decide) (by decide), zU_s]
end EV
