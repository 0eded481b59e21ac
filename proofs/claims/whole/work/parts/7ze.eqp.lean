/-! LOOKS: ifShare, shareFor, nextEater; bestSalt -/
theorem nI_addN (a b : Nat) : nI (a + b) = nI a + nI b := by
  show Int32.ofNat (a + b) = Int32.ofNat a + Int32.ofNat b
  rw [Int32.ofNat_add]
section EL
variable {T M N O : Nat → Nat → Int32} {b p s : Nat}
theorem zEs_gen (R : zTw T (M 0)) (I : zI M) (hb : b < 8) (op : v_X5_isOpen M b = true) (hp : p < 150) (o0 : v_X5_isOpen N b = v_X5_isOpen M b) (o4 : v_X5_of N b 4 = v_X5_of M b 4) (hh : ∀ f, 353 ≤ f → v_X5_isHeld N f p b = v_X5_isHeld M f p b) (sa : v_X5_saltOf N b = v_X5_saltOf M b)
    (ow : ∀ k, k < 100 → v_X5_owns N b k = zin T b s k) : zEt N b p = zEs T b s p := by
  have bk : v_X5_bucketBy (nI p) (v_X5_saltOf M b) = zBu T b p := by show _ = v_X4_bucketBy _ _; rw [eq_bucket, eq_salt R I hb]
  unfold zEt v_X5_eatsNow
  rw [o0, hh 503 (by decide), hh 353 (by decide), hh 653 (by decide), o4, sa, bk, if_pos op, eq_out R hp hb, eq_in R hp hb, eq_ate R hp hb, ow _ (zBu_lt T b p), (R.br hb).2.2.2.2.2]
  unfold zEs zMy
  rw [zOu_b T hb, show v_X3_isSure T p b = zSu T b p from rfl, zSu_b T hb]
  have cb : (bI (bt (T 4 0) b) = 1) = (bt (T 4 0) b = true) := propext (bI_1 _)
  simp only [cb]
  cases bt (T 12 p) b <;> cases bt (T 11 p) b <;> cases bt (T 4 0) b <;> cases bt (T 13 p) b <;> cases zin T b s (zBu T b p) <;> rfl
theorem zEs_now (R : zTw T (M 0)) (I : zI M) (hb : b < 8) (op : v_X5_isOpen M b = true) (hp : p < 150) : zEt M b p = zEs T b (zSn T b) p := by
  refine zEs_gen R I hb op hp rfl rfl (fun _ _ => rfl) rfl (fun k hk => ?_)
  rw [← eq_owns R I hb hk]
  unfold zin
  cases h : zOw T b k
  · rw [Bool.false_and, Bool.false_or, decide_eq_false (show ¬ zSn T b + fb_ct (zFr T b) k < zSn T b by omega), Bool.and_false]; exact h
  · rw [decide_eq_true (zow_lt T b hk h)]; exact h
theorem zdis (R : zTw T (M 0)) (I : zI M) (hb : b < 8) : ∀ k, k < 100 → zOw T b k = true → zFr T b k = false := fun _ hk h => zof_dis R I hb hk h
/-- a share may be set when the bread is open and there are buckets -/
theorem zcan_iff (R : zTw T (M 0)) (I : zI M) (hb : b < 8) (hs : s ≤ 100) : (v_X5_canRaise M b (nI s) = true ∨ v_X5_canLower M b (nI s) = true) ↔ (v_X5_isOpen M b = true ∧ s ≤ zSn T b + zFn T b) := by
  constructor
  · intro h
    refine ⟨?_, (zrm_iff R I hb hs).mp (zroom hb I hs h)⟩
    rcases h with h | h
    · unfold v_X5_canRaise at h
      by_cases o : v_X5_isOpen M b = true
      · exact o
      · rw [if_neg o] at h; cases h
    · unfold v_X5_canLower at h
      by_cases o : v_X5_isOpen M b = true
      · exact o
      · rw [if_neg o] at h; cases h
  · rintro ⟨op, le⟩
    have h3 := znat (show vp_in (v_X5_of M b 3) 101 from (I.2.1 b hb).2.1)
    have hS := zSn_sh R I hb
    have e3 : v_X5_of M b 3 = nI (zSh M b) := h3.1
    have l3 : zSh M b < 101 := h3.2
    by_cases d : zSh M b ≤ s
    · left
      unfold v_X5_canRaise
      rw [if_pos op, e3, if_neg (show ¬ nI s < nI (zSh M b) from fun z => by rw [Int32.lt_iff_toInt_lt, nI_toInt (by omega), nI_toInt (by omega)] at z; omega)]
      unfold v_X5_hasRoom
      by_cases g : v_X5_isOfGroup M b = true
      · have e : zFn T b = zct (M 0) (-1) (53 + (100 * (Int32.toNatClampNeg (v_X5_of M b 1)))) 100 := by
          rw [zct_fb]; exact fb_ct_cong (fun k hk => (zog_own R I hb g hk).2)
        have l := zct_le (M 0) (-1) (53 + (100 * (Int32.toNatClampNeg (v_X5_of M b 1)))) 100
        rw [if_pos g, zfree, e3, zsub d (by omega), ← e, if_neg (show ¬ nI (zFn T b) < nI (s - zSh M b) from fun z => by rw [Int32.lt_iff_toInt_lt, nI_toInt (by omega), nI_toInt (by omega)] at z; omega)]; rfl
      · rw [if_neg g]; rfl
    · right
      unfold v_X5_canLower
      rw [if_pos op, e3, if_neg (show ¬ nI (zSh M b) < nI s from fun z => by rw [Int32.lt_iff_toInt_lt, nI_toInt (by omega), nI_toInt (by omega)] at z; omega)]
theorem zst_eq (R : zTw T (M 0)) (I : zI M) (hb : b < 8) (hbr : b < (M 0 1).toNatClampNeg) (hs : s ≤ 100) : (v_X5_sharedThen M b s).1 = if v_X5_isOpen M b = true then (if s ≤ zSn T b + zFn T b then nI (zEc T b s) else -1) else -1 := by
  have k0 : (v_X5_keepShare M b).2 0 = M 0 := zks_f M b (by decide)
  have fin : (v_X5_canRaise M b (nI s) = true ∨ v_X5_canLower M b (nI s) = true) → v_X5_eaters (v_X5_setShare ((v_X5_keepShare M b).2) b s) b = (if v_X5_isOpen M b = true then (if s ≤ zSn T b + zFn T b then nI (zEc T b s) else -1) else -1) := fun h => by
    obtain ⟨op, le⟩ := (zcan_iff R I hb hs).mp h
    rw [if_pos op, if_pos le, zme_ct]
    have rm : zRoom ((v_X5_keepShare M b).2) b s := zroom_row k0 ((zrm_iff R I hb hs).mpr le)
    exact congrArg nI (fb_ct_cong (fun p hp => zEs_ok (by rw [k0]; exact R) (zI_ks I) hb (by rw [k0]; exact hbr) (by rw [zio_row k0]; exact op) hs rm hp))
  unfold v_X5_sharedThen
  by_cases c1 : v_X5_canRaise M b (nI s) = true
  · rw [if_pos c1]; exact fin (Or.inl c1)
  · rw [if_neg c1]
    by_cases c2 : v_X5_canLower M b (nI s) = true
    · rw [if_pos c2]; exact fin (Or.inr c2)
    · rw [if_neg c2]
      by_cases op : v_X5_isOpen M b = true
      · rw [if_pos op]
        by_cases le : s ≤ zSn T b + zFn T b
        · rcases (zcan_iff R I hb hs).mpr ⟨op, le⟩ with h | h
          · exact absurd h c1
          · exact absurd h c2
        · rw [if_neg le]
      · rw [if_neg op]
/-- the class's look at a share -/
theorem zreach (R : zTw T (M 0)) (I : zI M) (hb : b < 8) (O : Nat → Nat → Int32) {i : Nat} (hi : i < zSn T b + zFn T b) : ∃ k, zrk T b k i ∧ v_X2_lookAt O T b 3 (Int32.toNatClampNeg (v_X2_lookAt O T b 0 i)) = nI (fb_ct (zMb T b k) 150) ∧ Int32.toNatClampNeg (v_X2_lookAt O T b 0 i) = k ∧ zEc T b (i + 1) = zEc T b i + fb_ct (zMb T b k) 150 := by
  obtain ⟨k, hk⟩ := zrk_ex T b hi
  obtain ⟨h1, h2, h3, h4⟩ := zlook (zSF R I hb) O
  obtain ⟨h5, h6⟩ := h3 k i hk
  have hk1 := hk.1
  have e : Int32.toNatClampNeg (v_X2_lookAt O T b 0 i) = k := by rw [h5, nI_nat (by omega)]
  exact ⟨k, hk, by rw [e]; exact h6, e, zE_S (zdis R I hb) hk⟩
theorem zea35 (R : zTw T (M 0)) (I : zI M) (hb : b < 8) {x : Int32} (hx : x.toNatClampNeg = b) (O : Nat → Nat → Int32) (hs : s ≤ zSn T b + zFn T b) : ∀ (n i : Nat), s - i < n → i ≤ s → (v_X2_eatersAt_35 O T x (nI s) n (nI (zEc T b i)) i).1 = nI (zEc T b s)
  | 0, _, h, _ => absurd h (Nat.not_lt_zero _)
  | n + 1, i, h, hi => by
    have l := zSF R I hb
    rw [v_X2_eatersAt_35, hx]
    by_cases c : s ≤ i
    · have e : i = s := by omega
      subst e
      rw [if_pos (nI_le (Nat.le_refl _) (by omega))]
    · rw [if_neg (nI_ge (by omega) (by omega)), if_neg (by omega)]
      obtain ⟨k, h1, h2, h3, h4⟩ := zreach R I hb O (i := i) (by omega)
      rw [h2, ← nI_addN, ← h4]
      exact zea35 R I hb hx O hs n (i + 1) (by omega) (by omega)
theorem zea (R : zTw T (M 0)) (I : zI M) {x : Int32} (c1 : v_X5_isBread M x = true) (O : Nat → Nat → Int32) (hs : s ≤ 100) : (v_X2_eatersAt O T x (nI s)).1 = if v_X5_isOpen M x.toNatClampNeg = true then (if s ≤ zSn T x.toNatClampNeg + zFn T x.toNatClampNeg then nI (zEc T x.toNatClampNeg s) else -1) else -1 := by
  obtain ⟨ex, h8, hn⟩ := zisb_in I c1
  have l := zSF R I h8
  unfold v_X2_eatersAt
  rw [eq_isOpenB1 R I c1]
  by_cases op : v_X5_isOpen M x.toNatClampNeg = true
  · rw [if_pos op, if_pos op]
    obtain ⟨h1, h2, h3, h4⟩ := zlook l O
    rw [h1, h2]
    by_cases le : s ≤ zSn T x.toNatClampNeg + zFn T x.toNatClampNeg
    · rw [if_pos (nI_le le (by omega)), if_pos le]
      exact zea35 R I h8 rfl O le 101 0 (by omega) (Nat.zero_le _)
    · rw [if_neg (nI_ge (by omega) (by omega)), if_neg le]
  · rw [if_neg op, if_neg op]
/-- the least share with so many -/
def zLs (T : Nat → Nat → Int32) (b : Nat) (many : Int32) : Nat → Nat → Int32
  | 0, i => if nI (zEc T b i) < many then -1 else nI i
  | k + 1, i => if nI (zEc T b i) < many then zLs T b many k (i + 1) else nI i
theorem zls25 (R : zTw T (M 0)) (I : zI M) (hb : b < 8) {x : Int32} (hx : x.toNatClampNeg = b) (O : Nat → Nat → Int32) (many : Int32) : ∀ (n i : Nat), zSn T b + zFn T b - i < n → i ≤ zSn T b + zFn T b → (v_X2_leastShare_25 O T x many n (nI (zEc T b i)) i).1 = zLs T b many (zSn T b + zFn T b - i) i
  | 0, _, h, _ => absurd h (Nat.not_lt_zero _)
  | n + 1, i, h, hi => by
    have l := zSF R I hb
    obtain ⟨h1, _⟩ := zlook l O
    rw [v_X2_leastShare_25, hx, h1]
    by_cases c : zSn T b + zFn T b ≤ i
    · have e : zSn T b + zFn T b = i := by omega
      rw [if_pos (nI_le c (by omega)), show zSn T b + zFn T b - i = 0 by omega, zLs]
      by_cases d : nI (zEc T b i) < many
      · rw [if_pos d, if_pos d]
      · rw [if_neg d, if_neg d, e]
    · rw [if_neg (nI_ge (by omega) (by omega)), if_neg (by omega)]
      obtain ⟨k, g1, g2, g3, g4⟩ := zreach R I hb O (i := i) (by omega)
      obtain ⟨m, em⟩ : ∃ m, zSn T b + zFn T b - i = m + 1 := ⟨zSn T b + zFn T b - i - 1, by omega⟩
      rw [em, zLs]
      by_cases d : nI (zEc T b i) < many
      · rw [if_pos d, if_pos d, g2, ← nI_addN, ← g4, show m = zSn T b + zFn T b - (i + 1) by omega]
        exact zls25 R I hb hx O many n (i + 1) (by omega) (by omega)
      · rw [if_neg d, if_neg d]
theorem zlsE (hb : b < 8) (many : Int32) (hm : ¬ many ≤ -1) : ∀ (n i : Nat) (N : Nat → Nat → Int32), 101 - i < n → zTw T (N 0) → zI N → b < (N 0 1).toNatClampNeg → zSn T b + zFn T b < i → (v_X5_leastShare_2 b many n i N).1 = -1
  | 0, _, _, h, _, _, _, _ => absurd h (Nat.not_lt_zero _)
  | n + 1, i, N, h, R, I, hbr, hi => by
    rw [v_X5_leastShare_2]
    by_cases c : 100 < i
    · rw [if_pos c]
    · rw [if_neg c]
      by_cases op : v_X5_isOpen N b = true
      · rw [if_pos op, zst_eq R I hb hbr (by omega), if_pos op, if_neg (show ¬ i ≤ zSn T b + zFn T b by omega), if_pos (show (-1 : Int32) < many by rw [Int32.lt_iff_toInt_lt]; rw [Int32.le_iff_toInt_le] at hm; omega)]
        have e := zst_row hb I (show i ≤ 100 by omega) hbr
        exact zlsE hb many hm n (i + 1) _ (by omega) (by rw [e]; exact R) (zI_row e I) (by rw [e]; exact hbr) (by omega)
      · rw [if_neg op]
theorem zls5 (hb : b < 8) (many : Int32) (hm : ¬ many ≤ -1) : ∀ (n i : Nat) (N : Nat → Nat → Int32), 101 - i < n → zTw T (N 0) → zI N → b < (N 0 1).toNatClampNeg → v_X5_isOpen N b = true → i ≤ zSn T b + zFn T b → (v_X5_leastShare_2 b many n i N).1 = zLs T b many (zSn T b + zFn T b - i) i
  | 0, _, _, h, _, _, _, _, _ => absurd h (Nat.not_lt_zero _)
  | n + 1, i, N, h, R, I, hbr, op, hi => by
    have l := zSF R I hb
    rw [v_X5_leastShare_2, if_neg (by omega), if_pos op, zst_eq R I hb hbr (by omega), if_pos op, if_pos hi]
    have e := zst_row hb I (show i ≤ 100 by omega) hbr
    by_cases c : zSn T b + zFn T b ≤ i
    · rw [show zSn T b + zFn T b - i = 0 by omega, zLs]
      by_cases d : nI (zEc T b i) < many
      · rw [if_pos d, if_pos d]
        exact zlsE hb many hm n (i + 1) _ (by omega) (by rw [e]; exact R) (zI_row e I) (by rw [e]; exact hbr) (by omega)
      · rw [if_neg d, if_neg d]
    · obtain ⟨m, em⟩ : ∃ m, zSn T b + zFn T b - i = m + 1 := ⟨zSn T b + zFn T b - i - 1, by omega⟩
      rw [em, zLs]
      by_cases d : nI (zEc T b i) < many
      · rw [if_pos d, if_pos d, show m = zSn T b + zFn T b - (i + 1) by omega]
        exact zls5 hb many hm n (i + 1) _ (by omega) (by rw [e]; exact R) (zI_row e I) (by rw [e]; exact hbr) (by rw [zio_row e]; exact op) (by omega)
      · rw [if_neg d, if_neg d]
theorem zls_eq (R : zTw T (M 0)) (I : zI M) {x : Int32} (c1 : v_X5_isBread M x = true) (O : Nat → Nat → Int32) (many : Int32) (hm : ¬ many ≤ -1) : (v_X2_leastShare O T x many).1 = (v_X5_leastShare M x.toNatClampNeg many).1 := by
  obtain ⟨ex, h8, hn⟩ := zisb_in I c1
  have l := zSF R I h8
  unfold v_X2_leastShare v_X5_leastShare
  rw [eq_isOpenB1 R I c1]
  by_cases op : v_X5_isOpen M x.toNatClampNeg = true
  · obtain ⟨h1, h2, h3, h4⟩ := zlook l O
    rw [if_pos op, h2, zls25 R I h8 rfl O many 101 0 (by omega) (Nat.zero_le _), zls5 h8 many hm 102 0 M (by decide) R I hn op (Nat.zero_le _)]
  · rw [if_neg op, v_X5_leastShare_2, if_neg (by decide), if_neg op]
/-- the next eater -/
theorem zss_rowS (R : zTw T (M 0)) (I : zI M) (hb : b < 8) (hbr : b < (M 0 1).toNatClampNeg) : v_X5_setShare M b (zSn T b) 0 = M 0 := by
  have hS := zSn_sh R I hb
  have l := zSF R I hb
  have rm : zRoom M b (zSn T b) := (zrm_iff R I hb (by omega)).mpr (by omega)
  obtain ⟨k1, k2, k3, k4, k5⟩ := zss hb I hbr (show zSn T b ≤ 100 by omega) rm
  have h3 := znat (show vp_in (v_X5_of M b 3) 101 from (I.2.1 b hb).2.1)
  have e3 : M 0 (5 + 6 * b + 3) = nI (zSh M b) := h3.1
  funext j
  rcases Nat.lt_or_ge j 53 with q | q
  · by_cases c : j = 5 + 6 * b + 3
    · rw [c, k3, e3, hS]
    · exact k2 j q c
  · rcases Nat.lt_or_ge j 353 with q2 | q2
    · by_cases c : v_X5_isOfGroup M b = true
      · obtain ⟨o1, o2⟩ := zow hb I (show zSn T b ≤ 100 by omega) c rm
        by_cases d : j < zGo M b ∨ zGo M b + 100 ≤ j
        · exact o2 j d q
        · have o := o1 (j - zGo M b) (by omega)
          rw [if_pos (by omega), show zSn T b - zSh M b = 0 by omega, zUp_0] at o
          have e : zGo M b + (j - zGo M b) = j := by omega
          unfold zBk at o
          rw [e] at o; exact o
      · have l3 : zSh M b < 101 := h3.2
        rw [zow0 hb (show zSn T b ≤ 100 by omega) (by omega) c]
        unfold v_X5_put
        rw [zU_s, zupd_n _ _ (by omega)]
    · exact k4 j q2
theorem zss_row1 (R : zTw T (M 0)) (I : zI M) (hb : b < 8) (hbr : b < (M 0 1).toNatClampNeg) {i : Nat} (h1 : zSn T b ≤ i) (h2 : i + 1 ≤ zSn T b + zFn T b) (hN : N 0 = v_X5_setShare M b i 0) : v_X5_setShare N b (i + 1) 0 = v_X5_setShare M b (i + 1) 0 ∧ zRoom N b (i + 1) ∧ zSh N b = i := by
  have hS := zSn_sh R I hb
  have l := zSF R I hb
  have rm : zRoom M b i := (zrm_iff R I hb (by omega)).mpr (by omega)
  have rm1 : zRoom M b (i + 1) := (zrm_iff R I hb (by omega)).mpr h2
  obtain ⟨k1, k2, k3, k4, k5⟩ := zss hb I hbr (show i ≤ 100 by omega) rm
  obtain ⟨m1, m2, m3, m4, m5⟩ := zss hb I hbr (show i + 1 ≤ 100 by omega) rm1
  have IN : zI N := zI_row hN k5
  have eg : v_X5_of N b 1 = v_X5_of M b 1 := by unfold v_X5_of; rw [hN]; exact k2 _ (by omega) (by omega)
  have es : zSh N b = i := by show Int32.toNatClampNeg (N 0 (5 + 6 * b + 3)) = i; rw [hN, k3, nI_nat (by omega)]
  have egr : v_X5_isOfGroup N b = v_X5_isOfGroup M b := by unfold v_X5_isOfGroup; rw [eg]
  have ego : zGo N b = zGo M b := by unfold zGo; rw [eg]
  have hbN : b < (N 0 1).toNatClampNeg := by rw [hN, k2 1 (by omega) (by omega)]; exact hbr
  have bk : v_X5_isOfGroup M b = true → ∀ j, j < 100 → zBk N b N j = zUp b (i - zSh M b) (zBk M b M) j := fun c j hj => by
    have o := (zow hb I (show i ≤ 100 by omega) c rm).1 j hj
    rw [if_pos (by omega)] at o
    rw [← o]
    unfold zBk
    rw [ego, hN]
  have rmN : zRoom N b (i + 1) := fun c => by
    have c' : v_X5_isOfGroup M b = true := egr ▸ c
    have r := rm1 c'
    rw [zct_fb] at r ⊢
    have f := zfb_up (m := i - zSh M b) hb (zBk M b M) 100
    have e : fb_ct (zq (zBk N b N) (-1)) 100 = fb_ct (zq (zUp b (i - zSh M b) (zBk M b M)) (-1)) 100 := fb_ct_cong (fun k hk => by unfold zq; rw [bk c' k hk])
    have r2 : i + 1 ≤ zSh M b + fb_ct (zq (zBk M b M) (-1)) 100 := r
    show i + 1 ≤ zSh N b + fb_ct (zq (zBk N b N) (-1)) 100
    omega
  obtain ⟨n1, n2, n3, n4, n5⟩ := zss hb IN hbN (show i + 1 ≤ 100 by omega) rmN
  refine ⟨?_, rmN, es⟩
  funext j
  rcases Nat.lt_or_ge j 53 with q | q
  · by_cases c : j = 5 + 6 * b + 3
    · rw [c, n3, m3]
    · rw [n2 j q c, m2 j q c, hN, k2 j q c]
  · rcases Nat.lt_or_ge j 353 with q2 | q2
    · by_cases c : v_X5_isOfGroup M b = true
      · obtain ⟨o1, o2⟩ := zow hb I (show i + 1 ≤ 100 by omega) c rm1
        obtain ⟨p1, p2⟩ := zow hb I (show i ≤ 100 by omega) c rm
        obtain ⟨r1, r2⟩ := zow hb IN (show i + 1 ≤ 100 by omega) (egr.trans c) rmN
        by_cases d : j < zGo M b ∨ zGo M b + 100 ≤ j
        · rw [o2 j d q, r2 j (by rw [ego]; exact d) q, hN, p2 j d q]
        · have o := o1 (j - zGo M b) (by omega)
          have r := r1 (j - zGo M b) (by omega)
          rw [if_pos (by omega)] at o
          rw [if_pos (by omega), es, show i + 1 - i = 1 by omega, zUp_cong (g := zUp b (i - zSh M b) (zBk M b M)) (fun k hk => bk c k (by omega)), zUp_add hb, show i - zSh M b + 1 = i + 1 - zSh M b by omega, ← o] at r
          unfold zBk at r
          rw [ego, show zGo M b + (j - zGo M b) = j by omega] at r
          exact r
      · have h3 := znat (show vp_in (v_X5_of M b 3) 101 from (I.2.1 b hb).2.1)
        have l3 : zSh M b < 101 := h3.2
        have c' : ¬ v_X5_isOfGroup N b = true := by rw [egr]; exact c
        rw [zow0 hb (show i + 1 ≤ 100 by omega) (by omega) c, zow0 hb (show i + 1 ≤ 100 by omega) (by omega) c']
        unfold v_X5_put
        rw [zU_s, zU_s, zupd_n _ _ (by omega), zupd_n _ _ (by omega), hN, zow0 hb (show i ≤ 100 by omega) (by omega) c]
        unfold v_X5_put
        rw [zU_s, zupd_n _ _ (by omega)]
    · rw [n4 j q2, m4 j q2, hN, k4 j q2]
theorem znew (N : Nat → Nat → Int32) (b : Nat) (P : Nat → Bool) (h : ∀ p, p < 150 → (P p = true ↔ ¬ v_X5_eatsNow N p b = 0 ∧ N 6 p = 0)) : ∀ (n i : Nat), 150 - i < n → i ≤ 150 → ((∀ p, i ≤ p → p < 150 → P p = false) → v_X5_newEater_2 N b n i = -1) ∧ (∀ p, i ≤ p → p < 150 → P p = true → (∀ q, i ≤ q → q < p → P q = false) → v_X5_newEater_2 N b n i = nI p)
  | 0, _, h, _ => absurd h (Nat.not_lt_zero _)
  | n + 1, i, hn, hi => by
    rw [v_X5_newEater_2]
    by_cases c : 150 ≤ i
    · rw [if_pos c]; exact ⟨fun _ => rfl, fun p a c2 => by omega⟩
    · rw [if_neg c]
      obtain ⟨i1, i2⟩ := znew N b P h n (i + 1) (by omega) (by omega)
      have hh := h i (by omega)
      have skip : P i = false → (if v_X5_eatsNow N i b ≤ 0 then v_X5_newEater_2 N b n (i + 1) else (if N 6 i = 0 then nI i else v_X5_newEater_2 N b n (i + 1))) = v_X5_newEater_2 N b n (i + 1) := fun hp => by
        by_cases d : v_X5_eatsNow N i b = 0
        · rw [if_pos ((ez_le N i b).mpr d)]
        · rw [if_neg (fun z => d ((ez_le N i b).mp z))]
          by_cases e : N 6 i = 0
          · have := hh.mpr ⟨d, e⟩; rw [hp] at this; cases this
          · rw [if_neg e]
      refine ⟨fun a => ?_, fun p a c2 hp lo => ?_⟩
      · rw [skip (a i (Nat.le_refl _) (by omega))]; exact i1 (fun p a1 a2 => a p (by omega) a2)
      · by_cases e : p = i
        · subst e
          obtain ⟨d, f⟩ := hh.mp hp
          rw [if_neg (fun z => d ((ez_le N p b).mp z)), if_pos f]
        · rw [skip (lo i (Nat.le_refl _) (by omega))]
          exact i2 p (by omega) c2 hp (fun q b1 b2 => lo q (by omega) b2)
theorem znx (R : zTw T (M 0)) (I : zI M) (hb : b < 8) (hbr : b < (M 0 1).toNatClampNeg) (op : v_X5_isOpen M b = true) {x : Int32} (hx : x.toNatClampNeg = b) (O K : Nat → Nat → Int32) : ∀ (n n2 i : Nat) (N : Nat → Nat → Int32), zSn T b + zFn T b - i < n → 101 - i < n2 → zSn T b ≤ i → i ≤ zSn T b + zFn T b → N 0 = v_X5_setShare M b i 0 → (∀ p, p < 150 → (N 6 p = 0 ↔ v_X5_eatsNow M p b = 0)) → (∀ p, p < 150 → zEs T b i p = zEs T b (zSn T b) p) →
    (v_X2_firstNewcomer_23 O T x n i).1 = (v_X5_nextNow_18 K b n2 (-1) (i + 1) N).1
  | 0, _, _, _, h, _, _, _, _, _, _ => absurd h (Nat.not_lt_zero _)
  | n + 1, 0, _, _, _, h, _, _, _, _, _ => absurd h (Nat.not_lt_zero _)
  | n + 1, n2 + 1, i, N, hn, hn2, h1, h2, hN, h6, hE => by
    have hS := zSn_sh R I hb
    have l := zSF R I hb
    obtain ⟨L1, L2, L3, L4⟩ := zlook l O
    have rm : zRoom M b i := (zrm_iff R I hb (by omega)).mpr (by omega)
    obtain ⟨k1, k2, k3, k4, k5⟩ := zss hb I hbr (show i ≤ 100 by omega) rm
    have IN : zI N := zI_row hN k5
    have esh : v_X5_of N b 3 = nI i := by unfold v_X5_of; rw [hN]; exact k3
    have eop : v_X5_isOpen N b = true := by
      have e : v_X5_isOpen N b = v_X5_isOpen M b := by unfold v_X5_isOpen v_X5_of; rw [hN, k2 _ (by omega) (by omega)]
      rw [e]; exact op
    have hbN : b < (N 0 1).toNatClampNeg := by rw [hN, k2 1 (by omega) (by omega)]; exact hbr
    rw [v_X2_firstNewcomer_23, v_X5_nextNow_18, hx, L1]
    by_cases c : zSn T b + zFn T b ≤ i
    · rw [if_pos (nI_le c (by omega))]
      have e : i = zSn T b + zFn T b := by omega
      by_cases d : 100 < i + 1
      · rw [if_pos d]
      · rw [if_neg d, if_pos rfl]
        have nc : ¬ v_X5_canRaise N b (nI (i + 1)) = true := fun z => by
          have rz := zroom hb IN (show i + 1 ≤ 100 by omega) (Or.inl z)
          by_cases g : v_X5_isOfGroup N b = true
          · have r := rz g
            have eg : v_X5_of N b 1 = v_X5_of M b 1 := by unfold v_X5_of; rw [hN]; exact k2 _ (by omega) (by omega)
            have egr : v_X5_isOfGroup M b = true := by rw [← g]; unfold v_X5_isOfGroup; rw [eg]
            rw [zct_fb, eg] at r
            have f := zfb_up (m := i - zSh M b) hb (zBk M b M) 100
            have e1 : fb_ct (zq (fun j => N 0 (53 + (100 * (Int32.toNatClampNeg (v_X5_of M b 1))) + j)) (-1)) 100 = fb_ct (zq (zUp b (i - zSh M b) (zBk M b M)) (-1)) 100 := fb_ct_cong (fun k hk => by
              have o := (zow hb I (show i ≤ 100 by omega) egr rm).1 k hk
              rw [if_pos (by omega)] at o
              unfold zq
              rw [← o, hN])
            have e2 : zFn T b = fb_ct (zq (zBk M b M) (-1)) 100 := fb_ct_cong (fun k hk => (zog_own R I hb egr hk).2)
            have e3 : Int32.toNatClampNeg (v_X5_of N b 3) = i := by rw [esh, nI_nat (by omega)]
            omega
          · have eg : v_X5_of N b 1 = v_X5_of M b 1 := by unfold v_X5_of; rw [hN]; exact k2 _ (by omega) (by omega)
            have egr : ¬ v_X5_isOfGroup M b = true := fun w => g (by rw [← w]; unfold v_X5_isOfGroup; rw [eg])
            have e2 : zFn T b = fb_ct (fun k => !decide (k < zSh M b)) 100 := fb_ct_cong (fun k hk => (zou_own R I hb egr hk).2)
            have h3 := znat (show vp_in (v_X5_of M b 3) 101 from (I.2.1 b hb).2.1)
            have l3 : zSh M b < 101 := h3.2
            rw [zfb_ge _ _ (by omega)] at e2
            omega
        rw [if_neg nc]
    · rw [if_neg (nI_ge (by omega) (by omega)), if_neg (show ¬ 100 ≤ i by omega), if_neg (show ¬ 100 < i + 1 by omega), if_pos (show (-1 : Int32) = -1 from rfl)]
      obtain ⟨r1, r2, r3⟩ := zss_row1 R I hb hbr h1 (by omega) hN
      have cr : v_X5_canRaise N b (nI (i + 1)) = true := by
        unfold v_X5_canRaise
        rw [if_pos eop, esh, if_neg (show ¬ nI (i + 1) < nI i from fun z => by rw [Int32.lt_iff_toInt_lt, nI_toInt (by omega), nI_toInt (by omega)] at z; omega)]
        unfold v_X5_hasRoom
        by_cases g : v_X5_isOfGroup N b = true
        · have r := r2 g
          have e3 : Int32.toNatClampNeg (v_X5_of N b 3) = i := by rw [esh, nI_nat (by omega)]
          rw [e3] at r
          have lz := zct_le (N 0) (-1) (53 + (100 * (Int32.toNatClampNeg (v_X5_of N b 1)))) 100
          rw [if_pos g, zfree, esh, zsub (by omega) (by omega), show i + 1 - i = 1 by omega, if_neg (show ¬ nI (zct (N 0) (-1) (53 + (100 * (Int32.toNatClampNeg (v_X5_of N b 1)))) 100) < nI 1 from fun z => by rw [Int32.lt_iff_toInt_lt, nI_toInt (by omega), nI_toInt (by omega)] at z; omega)]; rfl
        · rw [if_neg g]; rfl
      rw [if_pos cr]
      obtain ⟨κ, g1, g2, g3, g4⟩ := zreach R I hb O (i := i) (by omega)
      rw [g2, g3]
      obtain ⟨q1, q2, q3, q4, q5⟩ := zss hb IN hbN (show i + 1 ≤ 100 by omega) r2
      have rm1 : zRoom M b (i + 1) := (zrm_iff R I hb (by omega)).mpr (by omega)
      have eN : ∀ p, p < 150 → zEt (v_X5_setShare N b (i + 1)) b p = zEs T b (i + 1) p := fun p hp => by
        have e : zEt (v_X5_setShare N b (i + 1)) b p = zEt (v_X5_setShare M b (i + 1)) b p := by unfold zEt; rw [zeats_row r1]
        rw [e]; exact zEs_ok R I hb hbr op (by omega) rm1 hp
      have hP : ∀ p, p < 150 → (zMb T b κ p = true ↔ ¬ v_X5_eatsNow (v_X5_setShare N b (i + 1)) p b = 0 ∧ v_X5_setShare N b (i + 1) 6 p = 0) := fun p hp => by
        rw [q1 6 (by decide), h6 p hp, ← zEt_t, ← zEt_f, eN p hp, zEs_now R I hb op hp, ← hE p hp]
        obtain ⟨s1, s2⟩ := zEs_S (zdis R I hb) g1 p
        rw [s1]
        cases h : zEs T b i p <;> cases h' : zMb T b κ p <;> simp_all
      obtain ⟨w1, w2⟩ := znew (v_X5_setShare N b (i + 1)) b (zMb T b κ) hP 151 0 (by decide) (by decide)
      have ne : v_X5_newEater (v_X5_setShare N b (i + 1)) b = v_X5_newEater_2 (v_X5_setShare N b (i + 1)) b 151 0 := rfl
      rw [ne]
      have lt := fb_ct_le (zMb T b κ) 150
      by_cases z : fb_ct (zMb T b κ) 150 = 0
      · have none := fb_ct_zero.mp z
        rw [w1 (fun p _ hp => none p hp), z, if_pos (show nI 0 ≤ 0 by decide)]
        refine znx R I hb hbr op hx O K n n2 (i + 1) _ (by omega) (by omega) (by omega) (by omega) r1 (fun p hp => by rw [q1 6 (by decide)]; exact h6 p hp) (fun p hp => ?_)
        obtain ⟨s1, s2⟩ := zEs_S (zdis R I hb) g1 p
        rw [s1, none p hp, Bool.or_false]; exact hE p hp
      · obtain ⟨p0, p1, p2, p3⟩ := fb_ct_kth (p := zMb T b κ) (n := 150) (k := 0) (by omega)
        have lo := fb_ct_zero.mp p3
        rw [w2 p0 (Nat.zero_le _) p1 p2 (fun q _ hq => lo q hq), if_neg (show ¬ nI (fb_ct (zMb T b κ) 150) ≤ 0 from fun y => z (by have := znle (b := 0) (by omega) (by decide) y; omega)), L4 κ p0 g1.1 p1 p2 lo]
        have n0 : ¬ nI p0 = -1 := fun y => by
          have := congrArg Int32.toInt y
          rw [nI_toInt (by omega), show (-1 : Int32).toInt = -1 by decide] at this; omega
        cases n2 with
        | zero => omega
        | succ n2 =>
          rw [v_X5_nextNow_18]
          by_cases d : 100 < i + 1 + 1
          · rw [if_pos d]
          · rw [if_neg d, if_neg n0]
end EL
