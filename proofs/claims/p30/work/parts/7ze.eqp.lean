/-! LOOKS: ifShare, shareFor, nextEater; bestSalt -/
theorem nI_addN (a b : Nat) : nI (a + b) = nI a + nI b := by
  show Int32.ofNat (a + b) = Int32.ofNat a + Int32.ofNat b
  rw [Int32.ofNat_add]
section EL
variable {T M N O : Nat → Nat → Int32} {b p s : Nat}
theorem zdis (R : zTw T (M 0)) (I : zI M) (hb : b < 8) : ∀ k, k < 100 → zOw T b k = true → zFr T b k = false := fun _ hk h => zof_dis R I hb hk h
/-- a share may be set when the bread is open and there are buckets -/
theorem zcan_iff (R : zTw T (M 0)) (I : zI M) (hb : b < 8) (hs : s ≤ 100) : (v_X5_canRaise M b (nI s) = true ∨ v_X5_canLower M b (nI s) = true) ↔ (v_X5_isOpen M b = true ∧ s ≤ zSn T b + zFn T b) := by
  constructor
  · intro h
    refine ⟨?_, (zrm_iff R I hb hs).mp (zroom hb I hs h)⟩
    rcases h with h | h
    · unfold v_X5_canRaise at h
      by_cases o : v_X5_isOpen M b = true
      · exact o
      · rw [if_neg o] at h; cases h
    · unfold v_X5_canLower at h
      by_cases o : v_X5_isOpen M b = true
      · exact o
      · rw [if_neg o] at h; cases h
  · rintro ⟨op, le⟩
    have h3 := znat (show vp_in (v_X5_of M b 3) 101 from (I.2.1 b hb).2.1)
    have hS := zSn_sh R I hb
    have e3 : v_X5_of M b 3 = nI (zSh M b) := h3.1
    have l3 : zSh M b < 101 := h3.2
    by_cases d : zSh M b ≤ s
    · left
      unfold v_X5_canRaise
      rw [if_pos op, e3, if_neg (show ¬ nI s < nI (zSh M b) from fun z => by rw [Int32.lt_iff_toInt_lt, nI_toInt (by omega), nI_toInt (by omega)] at z; omega)]
      unfold v_X5_hasRoom
      by_cases g : v_X5_isOfGroup M b = true
      · have e : zFn T b = zct (M 0) (-1) (53 + (100 * (Int32.toNatClampNeg (v_X5_of M b 1)))) 100 := by
          rw [zct_fb]; exact fb_ct_cong (fun k hk => (zog_own R I hb g hk).2)
        have l := zct_le (M 0) (-1) (53 + (100 * (Int32.toNatClampNeg (v_X5_of M b 1)))) 100
        rw [if_pos g, zfree, e3, zsub d (by omega), ← e, if_neg (show ¬ nI (zFn T b) < nI (s - zSh M b) from fun z => by rw [Int32.lt_iff_toInt_lt, nI_toInt (by omega), nI_toInt (by omega)] at z; omega)]; rfl
      · rw [if_neg g]; rfl
    · right
      unfold v_X5_canLower
      rw [if_pos op, e3, if_neg (show ¬ nI (zSh M b) < nI s from fun z => by rw [Int32.lt_iff_toInt_lt, nI_toInt (by omega), nI_toInt (by omega)] at z; omega)]
theorem zst_eq (R : zTw T (M 0)) (I : zI M) (hb : b < 8) (hbr : b < (M 0 1).toNatClampNeg) (hs : s ≤ 100) : (v_X5_sharedThen M b s).1 = if v_X5_isOpen M b = true then (if s ≤ zSn T b + zFn T b then nI (zEc T b s) else -1) else -1 := by
  have k0 : (v_X5_keepShare M b).2 0 = M 0 := zks_f M b (by decide)
  have fin : (v_X5_canRaise M b (nI s) = true ∨ v_X5_canLower M b (nI s) = true) → v_X5_eaters (v_X5_setShare ((v_X5_keepShare M b).2) b s) b = (if v_X5_isOpen M b = true then (if s ≤ zSn T b + zFn T b then nI (zEc T b s) else -1) else -1) := fun h => by
    obtain ⟨op, le⟩ := (zcan_iff R I hb hs).mp h
    rw [if_pos op, if_pos le, zme_ct]
    have rm : zRoom ((v_X5_keepShare M b).2) b s := zroom_row k0 ((zrm_iff R I hb hs).mpr le)
    exact congrArg nI (fb_ct_cong (fun p hp => zEs_ok (by rw [k0]; exact R) (zI_ks I) hb (by rw [k0]; exact hbr) (by rw [zio_row k0]; exact op) hs rm hp))
  unfold v_X5_sharedThen
  by_cases c1 : v_X5_canRaise M b (nI s) = true
  · rw [if_pos c1]; exact fin (Or.inl c1)
  · rw [if_neg c1]
    by_cases c2 : v_X5_canLower M b (nI s) = true
    · rw [if_pos c2]; exact fin (Or.inr c2)
    · rw [if_neg c2]
      by_cases op : v_X5_isOpen M b = true
      · rw [if_pos op]
        by_cases le : s ≤ zSn T b + zFn T b
        · rcases (zcan_iff R I hb hs).mpr ⟨op, le⟩ with h | h
          · exact absurd h c1
          · exact absurd h c2
        · rw [if_neg le]
      · rw [if_neg op]
/-- the class's look at a share -/
theorem zreach (R : zTw T (M 0)) (I : zI M) (hb : b < 8) (O : Nat → Nat → Int32) {i : Nat} (hi : i < zSn T b + zFn T b) : ∃ k, zrk T b k i ∧ v_X2_lookAt O T b 3 (Int32.toNatClampNeg (v_X2_lookAt O T b 0 i)) = nI (fb_ct (zMb T b k) 150) ∧ Int32.toNatClampNeg (v_X2_lookAt O T b 0 i) = k ∧ zEc T b (i + 1) = zEc T b i + fb_ct (zMb T b k) 150 := by
  obtain ⟨k, hk⟩ := zrk_ex T b hi
  obtain ⟨h1, h2, h3, h4⟩ := zlook (zSF R I hb) O
  obtain ⟨h5, h6⟩ := h3 k i hk
  have hk1 := hk.1
  have e : Int32.toNatClampNeg (v_X2_lookAt O T b 0 i) = k := by rw [h5, nI_nat (by omega)]
  exact ⟨k, hk, by rw [e]; exact h6, e, zE_S (zdis R I hb) hk⟩
theorem zea35 (R : zTw T (M 0)) (I : zI M) (hb : b < 8) {x : Int32} (hx : x.toNatClampNeg = b) (O : Nat → Nat → Int32) (hs : s ≤ zSn T b + zFn T b) : ∀ (n i : Nat), s - i < n → i ≤ s → (v_X2_eatersAt_35 O T x (nI s) n (nI (zEc T b i)) i).1 = nI (zEc T b s)
  | 0, _, h, _ => absurd h (Nat.not_lt_zero _)
  | n + 1, i, h, hi => by
    have l := zSF R I hb
    rw [v_X2_eatersAt_35, hx]
    by_cases c : s ≤ i
    · have e : i = s := by omega
      subst e
      rw [if_pos (nI_le (Nat.le_refl _) (by omega))]
    · rw [if_neg (nI_ge (by omega) (by omega)), if_neg (by omega)]
      obtain ⟨k, h1, h2, h3, h4⟩ := zreach R I hb O (i := i) (by omega)
      rw [h2, ← nI_addN, ← h4]
      exact zea35 R I hb hx O hs n (i + 1) (by omega) (by omega)
theorem zea (R : zTw T (M 0)) (I : zI M) {x : Int32} (c1 : v_X5_isBread M x = true) (O : Nat → Nat → Int32) (hs : s ≤ 100) : (v_X2_eatersAt O T x (nI s)).1 = if v_X5_isOpen M x.toNatClampNeg = true then (if s ≤ zSn T x.toNatClampNeg + zFn T x.toNatClampNeg then nI (zEc T x.toNatClampNeg s) else -1) else -1 := by
  obtain ⟨ex, h8, hn⟩ := zisb_in I c1
  have l := zSF R I h8
  unfold v_X2_eatersAt
  rw [eq_isOpenB1 R I c1]
  by_cases op : v_X5_isOpen M x.toNatClampNeg = true
  · rw [if_pos op, if_pos op]
    obtain ⟨h1, h2, h3, h4⟩ := zlook l O
    rw [h1, h2]
    by_cases le : s ≤ zSn T x.toNatClampNeg + zFn T x.toNatClampNeg
    · rw [if_pos (nI_le le (by omega)), if_pos le]
      exact zea35 R I h8 rfl O le 101 0 (by omega) (Nat.zero_le _)
    · rw [if_neg (nI_ge (by omega) (by omega)), if_neg le]
  · rw [if_neg op, if_neg op]
end EL
