/-! THE CLASS'S takeLowest, loseHighest; raise, lower, close are setShare and ends -/
theorem zUp_n {b m j : Nat} {f : Nat → Int32} (h : f 0 ≠ -1) : zUp b m f (1 + j) = zUp b m (fun k => f (1 + k)) j := by
  unfold zUp
  have s := fb_ct_split (zq f (-1)) 1 j
  have e : fb_ct (zq f (-1)) 1 = 0 := by rw [fb_ct_succ, zq_f.mpr h]; rfl
  rw [s, e, Nat.zero_add]; rfl
theorem zUp_y {b m j : Nat} {f : Nat → Int32} (h : f 0 = -1) : zUp b (m + 1) f (1 + j) = zUp b m (fun k => f (1 + k)) j := by
  unfold zUp
  have s := fb_ct_split (zq f (-1)) 1 j
  have e : fb_ct (zq f (-1)) 1 = 1 := by rw [fb_ct_succ, zq_t.mpr h]; rfl
  have q : fb_ct (fun k => zq f (-1) (1 + k)) j = fb_ct (zq (fun k => f (1 + k)) (-1)) j := rfl
  rw [s, e, q]
  by_cases c : f (1 + j) = -1 ∧ 1 + fb_ct (zq (fun k => f (1 + k)) (-1)) j < m + 1
  · rw [if_pos c, if_pos ⟨c.1, by omega⟩]
  · rw [if_neg c, if_neg (fun z => c ⟨z.1, by omega⟩)]
theorem znn0 {m : Nat} (h : m < 1000) : (nI (m + 1) + (-1) = nI m) ∧ ¬ nI (m + 1) ≤ 0 := ⟨nI_dec (by omega), fun z => by
  rw [Int32.le_iff_toInt_le, nI_toInt (by omega), show (0 : Int32).toInt = 0 from rfl] at z; omega⟩
theorem ztl (b first : Nat) : ∀ (n m i : Nat) (S : Nat → Nat → Int32), first + 100 - i < n → i ≤ first + 100 → m ≤ 101 →
    (∀ f, f ≠ 10 → v_X3_takeLowest_6 b first n (nI m) i S f = S f) ∧ (∀ k, (k < i ∨ first + 100 ≤ k) → v_X3_takeLowest_6 b first n (nI m) i S 10 k = S 10 k) ∧
    (∀ j, i + j < first + 100 → v_X3_takeLowest_6 b first n (nI m) i S 10 (i + j) = zUp b m (fun j => S 10 (i + j)) j)
  | 0, _, _, _, h, _, _ => absurd h (Nat.not_lt_zero _)
  | n + 1, m, i, S, h, h2, h3 => by
    rw [v_X3_takeLowest_6]
    by_cases c : first + 100 ≤ i
    · rw [if_pos c]; exact ⟨fun _ _ => rfl, fun _ _ => rfl, fun j hj => by omega⟩
    · rw [if_neg c]
      cases m with
      | zero => rw [if_pos (show nI 0 ≤ 0 by decide)]; exact ⟨fun _ _ => rfl, fun _ _ => rfl, fun j hj => (zUp_0 b (fun j => S 10 (i + j)) j).symm⟩
      | succ m =>
        rw [if_neg (znn0 (by omega)).2]
        by_cases d : S 10 i = -1
        · rw [if_pos d, (znn0 (by omega)).1]
          obtain ⟨q1, q2, q3⟩ := ztl b first n m (i + 1) (zU S 10 (upd (S 10) i (nI b))) (by omega) (by omega) (by omega)
          refine ⟨fun f hf => by rw [q1 f hf, zU_n _ _ hf], fun k hk => by rw [q2 k (by omega), zU_s, zupd_n _ _ (by omega)], fun j hj => ?_⟩
          cases j with
          | zero =>
            have e0 : i + 0 = i := rfl
            rw [e0, q2 i (by omega), zU_s, zupd_s]
            unfold zUp
            rw [if_pos ⟨d, by show 0 < m + 1; omega⟩]
          | succ j =>
            rw [show i + (j + 1) = i + 1 + j by omega, q3 j (by omega), show j + 1 = 1 + j by omega, zUp_y (f := fun j => S 10 (i + j)) d]
            refine zUp_cong fun k _ => ?_
            rw [zU_s, zupd_n _ _ (by omega), show i + 1 + k = i + (1 + k) by omega]
        · rw [if_neg d]
          obtain ⟨q1, q2, q3⟩ := ztl b first n (m + 1) (i + 1) S (by omega) (by omega) h3
          refine ⟨q1, fun k hk => q2 k (by omega), fun j hj => ?_⟩
          cases j with
          | zero =>
            have e0 : i + 0 = i := rfl
            rw [e0, q2 i (by omega)]
            unfold zUp
            rw [if_neg (fun z => d z.1)]; rfl
          | succ j =>
            rw [show i + (j + 1) = i + 1 + j by omega, q3 j (by omega), show j + 1 = 1 + j by omega, zUp_n (f := fun j => S 10 (i + j)) d]
            refine zUp_cong fun k _ => ?_
            rw [show i + 1 + k = i + (1 + k) by omega]
/-- the m highest own ones below d lost -/
def zDw (b d m : Nat) (f : Nat → Int32) (j : Nat) : Int32 := if f j = nI b ∧ fb_ct (zq f (nI b)) d < fb_ct (zq f (nI b)) (j + 1) + m then -1 else f j
theorem zDw_cong {b d m : Nat} {f g : Nat → Int32} {j : Nat} (hj : j < d) (h : ∀ i, i < d → f i = g i) : zDw b d m f j = zDw b d m g j := by
  unfold zDw
  rw [h j hj, fb_ct_cong (p := zq f (nI b)) (q := zq g (nI b)) (n := d) (fun i hi => by unfold zq; rw [h i hi]), fb_ct_cong (p := zq f (nI b)) (q := zq g (nI b)) (n := j + 1) (fun i hi => by unfold zq; rw [h i (by omega)])]
theorem zlh (b first : Nat) (hf : first ≤ 1000) : ∀ (n m d : Nat) (x : Int32) (S : Nat → Nat → Int32), d < n → d ≤ 100 → m ≤ 101 → x + 1 = nI (first + d) →
    (∀ f, f ≠ 10 → v_X3_loseHighest_11 b first n (nI m) x S f = S f) ∧ (∀ k, (k < first ∨ first + d ≤ k) → v_X3_loseHighest_11 b first n (nI m) x S 10 k = S 10 k) ∧
    (∀ j, j < d → v_X3_loseHighest_11 b first n (nI m) x S 10 (first + j) = zDw b d m (fun j => S 10 (first + j)) j)
  | 0, _, _, _, _, h, _, _, _ => absurd h (Nat.not_lt_zero _)
  | n + 1, m, d, x, S, h, h2, h3, hx => by
    have ex : x = nI (first + d) + (-1) := by rw [← hx, Int32.add_assoc, show (1 : Int32) + (-1) = 0 by decide, Int32.add_zero]
    rw [v_X3_loseHighest_11]
    cases d with
    | zero =>
      have lt : x < nI first := by
        rw [ex, Nat.add_zero]
        cases first with
        | zero => decide
        | succ f => rw [nI_dec (by omega)]; exact nI_lt (by omega) (by omega)
      rw [if_pos lt]; exact ⟨fun _ _ => rfl, fun _ _ => rfl, fun j hj => absurd hj (Nat.not_lt_zero _)⟩
    | succ d =>
      have e2 : x = nI (first + d) := by rw [ex, show first + (d + 1) = first + d + 1 by omega, nI_dec (by omega)]
      subst e2
      have hx2 : nI (first + d) + (-1) + 1 = nI (first + d) := by rw [Int32.add_assoc, show (-1 : Int32) + 1 = 0 by decide, Int32.add_zero]
      rw [if_neg (fun z => by rw [Int32.lt_iff_toInt_lt, nI_toInt (by omega), nI_toInt (by omega)] at z; omega), nI_nat (by omega)]
      cases m with
      | zero =>
        rw [if_pos (show nI 0 ≤ 0 by decide)]
        refine ⟨fun _ _ => rfl, fun _ _ => rfl, fun j hj => ?_⟩
        unfold zDw
        rw [if_neg (fun z => by have := fb_ct_mono (zq (fun j => S 10 (first + j)) (nI b)) (show j + 1 ≤ d + 1 by omega); omega)]
      | succ m =>
        rw [if_neg (znn0 (by omega)).2]
        by_cases c : S 10 (first + d) = nI b
        · rw [if_pos c, (znn0 (by omega)).1]
          obtain ⟨q1, q2, q3⟩ := zlh b first hf n m d _ (zU S 10 (upd (S 10) (first + d) (-1))) (by omega) (by omega) (by omega) hx2
          have s := fb_ct_succ (zq (fun j => S 10 (first + j)) (nI b)) d
          rw [(zq_t (f := fun j => S 10 (first + j))).mpr c] at s
          simp only [if_true] at s
          refine ⟨fun f hf => by rw [q1 f hf, zU_n _ _ hf], fun k hk => by rw [q2 k (by omega), zU_s, zupd_n _ _ (by omega)], fun j hj => ?_⟩
          by_cases e : j = d
          · subst e
            rw [q2 _ (by omega), zU_s, zupd_s]
            unfold zDw
            rw [if_pos ⟨c, by omega⟩]
          · rw [q3 j (by omega), zDw_cong (g := fun j => S 10 (first + j)) (by omega) (fun i hi => by rw [zU_s, zupd_n _ _ (by omega)])]
            unfold zDw
            rw [s]
            by_cases g : (fun j => S 10 (first + j)) j = nI b ∧ fb_ct (zq (fun j => S 10 (first + j)) (nI b)) d < fb_ct (zq (fun j => S 10 (first + j)) (nI b)) (j + 1) + m
            · rw [if_pos g, if_pos ⟨g.1, by omega⟩]
            · rw [if_neg g, if_neg (fun z => g ⟨z.1, by omega⟩)]
        · rw [if_neg c]
          obtain ⟨q1, q2, q3⟩ := zlh b first hf n (m + 1) d _ S (by omega) (by omega) h3 hx2
          have s := fb_ct_succ (zq (fun j => S 10 (first + j)) (nI b)) d
          rw [(zq_f (f := fun j => S 10 (first + j))).mpr c] at s
          have s2 : fb_ct (zq (fun j => S 10 (first + j)) (nI b)) (d + 1) = fb_ct (zq (fun j => S 10 (first + j)) (nI b)) d := s
          refine ⟨q1, fun k hk => q2 k (by omega), fun j hj => ?_⟩
          by_cases e : j = d
          · subst e
            rw [q2 _ (by omega)]
            unfold zDw
            rw [if_neg (fun z => c z.1)]
          · rw [q3 j (by omega)]
            unfold zDw
            rw [s2]
section EQ7
variable {T M : Nat → Nat → Int32} {b to : Nat}
theorem zsub {a c : Nat} (h : c ≤ a) (ha : a < 2 ^ 31) : nI a - nI c = nI (a - c) := by
  have e : nI a = nI (a - c) + nI c := by
    show Int32.ofNat a = Int32.ofNat (a - c) + Int32.ofNat c
    rw [← Int32.ofNat_add, Nat.sub_add_cancel h]
  rw [e, Int32.add_sub_cancel]
theorem zown10 (R : zTw T (M 0)) {g : Nat} (hg : g < 3) {j : Nat} (hj : j < 100) : T 10 (g * 100 + j) = M 0 (53 + 100 * g + j) := by
  rw [R.2.2.1 _ (by omega), show 53 + (g * 100 + j) = 53 + 100 * g + j by omega]
theorem zsh7 (R : zTw T (M 0)) (I : zI M) (hb : b < 8) : T 7 b = nI (zSh M b) ∧ zSh M b ≤ 100 := by
  have h := znat (show vp_in (v_X5_of M b 3) 101 from (I.2.1 b hb).2.1)
  exact ⟨by rw [(R.br hb).2.2.1]; exact h.1, by have := h.2; show Int32.toNatClampNeg _ ≤ 100; omega⟩
/-- raiseTo and lowerTo are setShare -/
theorem eq_raise (R : zTw T (M 0)) (I : zI M) (hb : b < 8) (hbr : b < (M 0 1).toNatClampNeg) (hto : to ≤ 100) (hr : zSh M b ≤ to) (room : zRoom M b to) : zTw (v_X3_raiseTo T b (nI to)) (v_X5_setShare M b to 0) := by
  obtain ⟨k1, k2, k3, k4, k5⟩ := zss hb I hbr hto room
  obtain ⟨h7, hs⟩ := zsh7 R I hb
  unfold v_X3_raiseTo
  rw [eq_grp R I hb]
  by_cases c : v_X5_isOfGroup M b = true
  · have hg := znat (zmg c hb (zI_G I))
    have hg2 := hg.2
    obtain ⟨o1, o2⟩ := zow hb I hto c room
    rw [if_pos c, (R.br hb).1, h7, zsub hr (by omega)]
    obtain ⟨q1, q2, q3⟩ := ztl b (Int32.toNatClampNeg (v_X5_of M b 1) * 100) 101 (to - zSh M b) (Int32.toNatClampNeg (v_X5_of M b 1) * 100) T (by omega) (by omega) (by omega)
    unfold v_X3_takeLowest
    refine zTw_share R hb (fun f hf hf2 => by rw [zU_n _ _ hf, q1 f hf2]) (fun k hk => ?_) k2 k3 k4 (fun k hk => ?_)
    · rw [zU_s, q1 7 (by decide)]; rfl
    · rw [zU_n _ _ (by decide)]
      by_cases d : k < Int32.toNatClampNeg (v_X5_of M b 1) * 100 ∨ Int32.toNatClampNeg (v_X5_of M b 1) * 100 + 100 ≤ k
      · rw [q2 k d, o2 (53 + k) (by show _ ∨ _; unfold zGo; omega) (by omega)]; exact R.2.2.1 k hk
      · obtain ⟨j, hj⟩ : ∃ j, k = Int32.toNatClampNeg (v_X5_of M b 1) * 100 + j := ⟨k - Int32.toNatClampNeg (v_X5_of M b 1) * 100, by omega⟩
        have hj2 : j < 100 := by omega
        have o := o1 j hj2
        rw [if_pos hr] at o
        have hk2 : 53 + k = zGo M b + j := by unfold zGo; omega
        rw [hk2, hj, q3 j (by omega)]
        refine Eq.trans ?_ o.symm
        exact zUp_cong fun i hi => zown10 R hg2 (by omega)
  · rw [if_neg c]
    have e := zow0 hb hto hs c
    refine zTw_share R hb (fun f hf hf2 => by rw [zU_n _ _ hf]) (fun k hk => by rw [zU_s]; rfl) k2 k3 k4 (fun k hk => ?_)
    rw [zU_n _ _ (by decide), e]
    unfold v_X5_put
    rw [zU_s, zupd_n _ _ (by omega)]; exact R.2.2.1 k hk
theorem eq_lower (R : zTw T (M 0)) (I : zI M) (hb : b < 8) (hbr : b < (M 0 1).toNatClampNeg) (hr : to ≤ zSh M b) (room : zRoom M b to) : zTw (v_X3_lowerTo T b (nI to)) (v_X5_setShare M b to 0) := by
  obtain ⟨h7, hs⟩ := zsh7 R I hb
  have hto : to ≤ 100 := by omega
  obtain ⟨k1, k2, k3, k4, k5⟩ := zss hb I hbr hto room
  unfold v_X3_lowerTo
  rw [eq_grp R I hb]
  by_cases c : v_X5_isOfGroup M b = true
  · have hg := znat (zmg c hb (zI_G I))
    have hg2 := hg.2
    obtain ⟨o1, o2⟩ := zow hb I hto c room
    rw [if_pos c, (R.br hb).1, h7, zsub hr (by omega)]
    obtain ⟨q1, q2, q3⟩ := zlh b (Int32.toNatClampNeg (v_X5_of M b 1) * 100) (by omega) 101 (zSh M b - to) 100 (nI (Int32.toNatClampNeg (v_X5_of M b 1) * 100 + 100 - 1)) T (by omega) (by omega) (by omega) (by rw [show Int32.toNatClampNeg (v_X5_of M b 1) * 100 + 100 - 1 = Int32.toNatClampNeg (v_X5_of M b 1) * 100 + 99 by omega]; exact (nI_succ (Int32.toNatClampNeg (v_X5_of M b 1) * 100 + 99)).symm)
    unfold v_X3_loseHighest
    refine zTw_share R hb (fun f hf hf2 => by rw [zU_n _ _ hf, q1 f hf2]) (fun k hk => ?_) k2 k3 k4 (fun k hk => ?_)
    · rw [zU_s, q1 7 (by decide)]; rfl
    · rw [zU_n _ _ (by decide)]
      by_cases d : k < Int32.toNatClampNeg (v_X5_of M b 1) * 100 ∨ Int32.toNatClampNeg (v_X5_of M b 1) * 100 + 100 ≤ k
      · rw [q2 k d, o2 (53 + k) (by show _ ∨ _; unfold zGo; omega) (by omega)]; exact R.2.2.1 k hk
      · obtain ⟨j, hj⟩ : ∃ j, k = Int32.toNatClampNeg (v_X5_of M b 1) * 100 + j := ⟨k - Int32.toNatClampNeg (v_X5_of M b 1) * 100, by omega⟩
        have hj2 : j < 100 := by omega
        have o := o1 j hj2
        have hk2 : 53 + k = zGo M b + j := by unfold zGo; omega
        rw [hk2, hj, q3 j (by omega), zDw_cong (g := zBk M b M) hj2 (fun i hi => zown10 R hg2 hi)]
        refine Eq.trans ?_ o.symm
        by_cases e : zSh M b ≤ to
        · have e2 : zSh M b - to = 0 := by omega
          have e3 : to - zSh M b = 0 := by omega
          rw [if_pos e, e2, e3, zUp_0]
          exact zDn_0 b _ hj2
        · rw [if_neg e]; rfl
  · rw [if_neg c]
    have e := zow0 hb hto hs c
    refine zTw_share R hb (fun f hf hf2 => by rw [zU_n _ _ hf]) (fun k hk => by rw [zU_s]; rfl) k2 k3 k4 (fun k hk => ?_)
    rw [zU_n _ _ (by decide), e]
    unfold v_X5_put
    rw [zU_s, zupd_n _ _ (by omega)]; exact R.2.2.1 k hk
theorem eq_ends (R : zTw T (M 0)) (I : zI M) (hb : b < 8) (hbr : b < (M 0 1).toNatClampNeg) : zTw (v_X3_closeBread T b) (v_X5_ends M b 0) := by
  have e := zTw_close (eq_lower (to := 0) R I hb hbr (Nat.zero_le _) (fun _ => Nat.zero_le _)) hb
  unfold v_X3_closeBread v_X5_ends v_X5_put
  rw [zU_s]
  exact e
end EQ7
