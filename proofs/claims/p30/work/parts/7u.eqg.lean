/-! THE REFERENCE'S setShare, place by place -/
section EQ6
variable {M N : Nat → Nat → Int32} {b to : Nat}
abbrev zSh (M : Nat → Nat → Int32) (b : Nat) : Nat := Int32.toNatClampNeg (v_X5_of M b 3)
abbrev zGo (M : Nat → Nat → Int32) (b : Nat) : Nat := 53 + (100 * (Int32.toNatClampNeg (v_X5_of M b 1)))
abbrev zBk (M : Nat → Nat → Int32) (b : Nat) (N : Nat → Nat → Int32) (j : Nat) : Int32 := N 0 (zGo M b + j)
theorem zou7 (hb : b < 8) (I : zI M) (hto : to ≤ 100) (c : v_X5_isOfGroup M b = true) (room : to ≤ zSh M b + fb_ct (zq (zBk M b M) (-1)) 100) : ∀ (n i : Nat) (N : Nat → Nat → Int32), to - i < n → zSh M b ≤ i → i ≤ to → (∀ j, j < 53 → N 0 j = M 0 j) →
    (∀ j, j < 100 → zBk M b N j = zUp b (i - zSh M b) (zBk M b M) j) → (∀ k, (k < zGo M b ∨ zGo M b + 100 ≤ k) → N 0 k = M 0 k) →
    (∀ j, j < 100 → zBk M b (v_X5_setShare_7 b to n i N) j = zUp b (to - zSh M b) (zBk M b M) j) ∧ (∀ k, (k < zGo M b ∨ zGo M b + 100 ≤ k) → 53 ≤ k → v_X5_setShare_7 b to n i N 0 k = M 0 k)
  | 0, _, _, h, _, _, _, _, _ => absurd h (Nat.not_lt_zero _)
  | n + 1, i, N, h1, h2, h3, r, h5, h6 => by
    have eg : v_X5_of N b 1 = v_X5_of M b 1 := zof_eq r hb (by decide)
    have eo : v_X5_of N b 3 = v_X5_of M b 3 := zof_eq r hb (by decide)
    have ci : v_X5_isOfGroup N b = true := (zisg_eq r hb).trans c
    have hg2 := (znat (zmg c hb (zI_G I))).2
    have hgo : zGo M b = 53 + (100 * (Int32.toNatClampNeg (v_X5_of M b 1))) := rfl
    rw [v_X5_setShare_7]
    by_cases c1 : to ≤ i
    · have e : i = to := by omega
      subst e
      rw [if_pos c1, v_X5_setShare_33, eo, if_pos h2]
      unfold v_X5_put
      refine ⟨fun j hj => ?_, fun k hk hk2 => ?_⟩
      · show zU N 0 _ 0 _ = _
        rw [zU_s, zupd_n _ _ (by omega)]; exact h5 j hj
      · rw [zU_s, zupd_n _ _ (by omega)]; exact h6 k hk
    · rw [if_neg c1, if_pos ci]
      have ef := zfb_up (m := i - zSh M b) hb (zBk M b M) 100
      have ec : fb_ct (zq (zBk M b N) (-1)) 100 = fb_ct (zq (zUp b (i - zSh M b) (zBk M b M)) (-1)) 100 := fb_ct_cong (fun k hk => by unfold zq; rw [h5 k hk])
      have hex : ∃ k, k < 100 ∧ N 0 (53 + (100 * (Int32.toNatClampNeg (v_X5_of N b 1))) + k) = -1 := by
        obtain ⟨k, hk, hk2⟩ := (fb_ct_pos (p := zq (zBk M b N) (-1)) (n := 100)).mp (by omega)
        exact ⟨k, hk, by rw [eg]; exact zq_t.mp hk2⟩
      obtain ⟨t, a1, a2, a3, a4, a5⟩ := zgl_char hex
      rw [eg] at a1 a2 a4
      rw [a5]
      refine zou7 hb I hto c room n (i + 1) _ (by omega) (by omega) (by omega) (fun j hj => by rw [zU_s, zupd_n _ _ (by omega)]; exact r j hj) (fun j hj => ?_) (fun k hk => by rw [zU_s, zupd_n _ _ (by omega)]; exact h6 k hk)
      rw [show i + 1 - zSh M b = i - zSh M b + 1 by omega, ← zUp_add hb, ← zUp_cong (f := zBk M b N) (fun i hi => h5 i (by omega)), ← zUp_1 (t := t - zGo M b) (f := zBk M b N) (by show N 0 (zGo M b + (t - zGo M b)) = -1; rw [show zGo M b + (t - zGo M b) = t by omega]; exact a3) (fun i hi => a4 _ (by omega) (by omega))]
      show zU N 0 _ 0 (zGo M b + j) = _
      rw [zU_s]
      by_cases d : j = t - zGo M b
      · rw [if_pos d, show zGo M b + j = t by omega, zupd_s]
      · rw [if_neg d, zupd_n _ _ (by omega)]
theorem zod33 (hb : b < 8) (I : zI M) (hto : to ≤ 100) (c : v_X5_isOfGroup M b = true) (own : zSh M b ≤ fb_ct (zq (zBk M b M) (nI b)) 100) : ∀ (n i : Nat) (N : Nat → Nat → Int32), zSh M b - i < n → to ≤ i → i ≤ zSh M b → (∀ j, j < 53 → N 0 j = M 0 j) →
    (∀ j, j < 100 → zBk M b N j = zDn b (i - to) (zBk M b M) j) → (∀ k, (k < zGo M b ∨ zGo M b + 100 ≤ k) → N 0 k = M 0 k) →
    (∀ j, j < 100 → zBk M b (v_X5_setShare_33 b to n i N) j = zDn b (zSh M b - to) (zBk M b M) j) ∧ (∀ k, (k < zGo M b ∨ zGo M b + 100 ≤ k) → 53 ≤ k → v_X5_setShare_33 b to n i N 0 k = M 0 k)
  | 0, _, _, h, _, _, _, _, _ => absurd h (Nat.not_lt_zero _)
  | n + 1, i, N, h1, h2, h3, r, h5, h6 => by
    have eg : v_X5_of N b 1 = v_X5_of M b 1 := zof_eq r hb (by decide)
    have eo : v_X5_of N b 3 = v_X5_of M b 3 := zof_eq r hb (by decide)
    have ci : v_X5_isOfGroup N b = true := (zisg_eq r hb).trans c
    have hg := zmg c hb (zI_G I)
    have hg2 := (znat hg).2
    have hgo : zGo M b = 53 + (100 * (Int32.toNatClampNeg (v_X5_of M b 1))) := rfl
    rw [v_X5_setShare_33, eo]
    by_cases c1 : zSh M b ≤ i
    · have e : i = zSh M b := by omega
      rw [if_pos c1]
      unfold v_X5_put
      refine ⟨fun j hj => ?_, fun k hk hk2 => ?_⟩
      · show zU N 0 _ 0 _ = _
        rw [zU_s, zupd_n _ _ (by omega), ← e]; exact h5 j hj
      · rw [zU_s, zupd_n _ _ (by omega)]; exact h6 k hk
    · rw [if_neg c1, if_pos ci]
      have ef := zfb_dn (m := i - to) hb (zBk M b M) (by omega) 100 (Nat.le_refl _)
      have ec : fb_ct (zq (zBk M b N) (nI b)) 100 = fb_ct (zq (zDn b (i - to) (zBk M b M)) (nI b)) 100 := fb_ct_cong (fun k hk => by unfold zq; rw [h5 k hk])
      have hex : ∃ k, k < 100 ∧ N 0 (53 + (100 * (Int32.toNatClampNeg (v_X5_of N b 1))) + k) = nI b := by
        obtain ⟨k, hk, hk2⟩ := (fb_ct_pos (p := zq (zBk M b N) (nI b)) (n := 100)).mp (by omega)
        exact ⟨k, hk, by rw [eg]; exact zq_t.mp hk2⟩
      obtain ⟨t, a1, a2, a3, a4, a5⟩ := zth_char (by rw [eg]; exact hg) hex
      rw [eg] at a1 a2 a4
      rw [a5]
      refine zod33 hb I hto c own n (i + 1) _ (by omega) (by omega) (by omega) (fun j hj => by rw [zU_s, zupd_n _ _ (by omega)]; exact r j hj) (fun j hj => ?_) (fun k hk => by rw [zU_s, zupd_n _ _ (by omega)]; exact h6 k hk)
      rw [show i + 1 - to = i - to + 1 by omega, ← zDn_add hb _ (by omega) hj, ← zDn_cong (f := zBk M b N) hj h5, ← zDn_1 (t := t - zGo M b) (f := zBk M b N) (by omega) (by show N 0 (zGo M b + (t - zGo M b)) = nI b; rw [show zGo M b + (t - zGo M b) = t by omega]; exact a3) (fun i hi hi2 => a4 _ (by omega) (by omega)) hj]
      show zU N 0 _ 0 (zGo M b + j) = _
      rw [zU_s]
      by_cases d : j = t - zGo M b
      · rw [if_pos d, show zGo M b + j = t by omega, zupd_s]
      · rw [if_neg d, zupd_n _ _ (by omega)]
/-- of a group: the block, and all else -/
theorem zow (hb : b < 8) (I : zI M) (hto : to ≤ 100) (c : v_X5_isOfGroup M b = true) (room : zRoom M b to) :
    (∀ j, j < 100 → zBk M b (v_X5_setShare M b to) j = if zSh M b ≤ to then zUp b (to - zSh M b) (zBk M b M) j else zDn b (zSh M b - to) (zBk M b M) j) ∧ (∀ k, (k < zGo M b ∨ zGo M b + 100 ≤ k) → 53 ≤ k → v_X5_setShare M b to 0 k = M 0 k) := by
  have rm := room c
  rw [zct_fb] at rm
  have ow := zown0 hb I c
  rw [zct_fb] at ow
  have hs : zSh M b < 101 := (znat (show vp_in (v_X5_of M b 3) 101 from (I.2.1 b hb).2.1)).2
  unfold v_X5_setShare
  by_cases d : zSh M b ≤ to
  · obtain ⟨q1, q2⟩ := zou7 hb I hto c rm 101 (zSh M b) M (by omega) (Nat.le_refl _) d (fun _ _ => rfl) (fun j hj => by rw [Nat.sub_self, zUp_0]) (fun _ _ => rfl)
    exact ⟨fun j hj => by rw [if_pos d]; exact q1 j hj, q2⟩
  · obtain ⟨q1, q2⟩ := zod33 hb I hto c ow 102 to M (by omega) (Nat.le_refl _) (by omega) (fun _ _ => rfl) (fun j hj => by rw [Nat.sub_self, zDn_0 b _ hj]) (fun _ _ => rfl)
    have e : v_X5_setShare_7 b to 101 (zSh M b) M = v_X5_setShare_33 b to 102 to M := by rw [v_X5_setShare_7, if_pos (by omega)]
    rw [show Int32.toNatClampNeg (v_X5_of M b 3) = zSh M b from rfl, e]
    exact ⟨fun j hj => by rw [if_neg d]; exact q1 j hj, q2⟩
/-- of no group: only the share -/
theorem zow0 (hb : b < 8) (hto : to ≤ 100) (hs : zSh M b ≤ 100) (c : ¬ v_X5_isOfGroup M b = true) : v_X5_setShare M b to = v_X5_put M b 3 (nI to) := by
  have e : v_X5_setShare_33 b to 102 to M = v_X5_put M b 3 (nI to) := by
    rw [v_X5_setShare_33]
    by_cases d : Int32.toNatClampNeg (v_X5_of M b 3) ≤ to
    · rw [if_pos d]
    · rw [if_neg d, if_neg c]
  unfold v_X5_setShare
  rw [v_X5_setShare_7]
  by_cases d : to ≤ Int32.toNatClampNeg (v_X5_of M b 3)
  · rw [if_pos d, e]
  · rw [if_neg d, if_neg c, e]
end EQ6
