/-! setShare keeps the row good -/
/-- a good row but for the share of b -/
def zRX (r : Nat → Int32) (b : Nat) : Prop := vp_in (r 1) 9 ∧ (∀ b' : Nat, b' < 8 → (r (5 + 6 * b' + 1) = -1 ∨ vp_in (r (5 + 6 * b' + 1)) 3) ∧ vp_in (r (5 + 6 * b' + 3)) 101 ∧
  (b' ≠ b → vp_in (r (5 + 6 * b' + 1)) 3 → (r (5 + 6 * b' + 3)).toNatClampNeg = zct r (nI b') (53 + 100 * (r (5 + 6 * b' + 1)).toNatClampNeg) 100)) ∧
  (∀ k : Nat, k < 300 → r (53 + k) = -1 ∨ ∃ b' : Nat, b' < (r 1).toNatClampNeg ∧ r (53 + k) = nI b')
theorem zRX_of {r : Nat → Int32} (b : Nat) (h : zRow r) : zRX r b := ⟨h.1, fun b' hb' => ⟨(h.2.1 b' hb').1, (h.2.1 b' hb').2.1, fun _ => (h.2.1 b' hb').2.2⟩, h.2.2⟩
theorem zRX_upd {r : Nat → Int32} {b t : Nat} {y : Int32} (h : zRX r b) (hb : b < 8) (h1 : 53 ≤ t) (h2 : t < 353) (old : r t = -1 ∨ r t = nI b) (new : y = -1 ∨ (y = nI b ∧ b < (r 1).toNatClampNeg)) : zRX (upd r t y) b := by
  have e : ∀ j, j < 53 → upd r t y j = r j := fun j hj => zupd_n _ _ (by omega)
  refine ⟨by rw [e 1 (by decide)]; exact h.1, fun b' hb' => ?_, fun k hk => ?_⟩
  · obtain ⟨g1, g2, g3⟩ := h.2.1 b' hb'
    rw [e _ (by omega), e _ (by omega)]
    refine ⟨g1, g2, fun hne hg => ?_⟩
    rw [g3 hne hg]
    have q := zct_upd r t (nI b') y (53 + 100 * (r (5 + 6 * b' + 1)).toNatClampNeg) 100
    have n1 : r t ≠ nI b' := by
      rcases old with o | o
      · rw [o]; exact fun z => nI_ne1 hb' z.symm
      · rw [o]; exact fun z => hne ((nI_eq (by omega) (by omega)).mp z).symm
    have n2 : y ≠ nI b' := by
      rcases new with o | o
      · rw [o]; exact fun z => nI_ne1 hb' z.symm
      · rw [o.1]; exact fun z => hne ((nI_eq (by omega) (by omega)).mp z).symm
    rw [if_neg (fun z => n1 z.2.2), if_neg (fun z => n2 z.2.2)] at q
    omega
  · rw [e 1 (by decide)]
    by_cases q : 53 + k = t
    · rw [q, zupd_s]
      rcases new with o | o
      · exact Or.inl o
      · exact Or.inr ⟨b, o.2, o.1⟩
    · rw [zupd_n _ _ q]; exact h.2.2 k hk
/-- what setShare leaves as it was, and the good row -/
def zSt (M N : Nat → Nat → Int32) (b : Nat) : Prop := (∀ k, k ≠ 0 → N k = M k) ∧ (∀ j, j < 53 → N 0 j = M 0 j) ∧ (∀ j, 353 ≤ j → N 0 j = M 0 j) ∧ zRX (N 0) b
theorem zSt_upd {M N : Nat → Nat → Int32} {b t : Nat} {y : Int32} (h : zSt M N b) (hb : b < 8) (h1 : 53 ≤ t) (h2 : t < 353) (old : N 0 t = -1 ∨ N 0 t = nI b) (new : y = -1 ∨ (y = nI b ∧ b < (M 0 1).toNatClampNeg)) : zSt M (zU N 0 (upd (N 0) t y)) b := by
  refine ⟨fun k hk => by rw [zU_n _ _ hk]; exact h.1 k hk, fun j hj => by rw [zU_s, zupd_n _ _ (by omega)]; exact h.2.1 j hj, fun j hj => by rw [zU_s, zupd_n _ _ (by omega)]; exact h.2.2.1 j hj, ?_⟩
  rw [zU_s]
  exact zRX_upd h.2.2.2 hb h1 h2 old (by rw [h.2.1 1 (by decide)]; exact new)
/-- what setShare answers -/
def zSS (M R : Nat → Nat → Int32) (b to : Nat) : Prop := (∀ k, k ≠ 0 → R k = M k) ∧ (∀ j, j < 53 → j ≠ 5 + 6 * b + 3 → R 0 j = M 0 j) ∧ R 0 (5 + 6 * b + 3) = nI to ∧ (∀ j, 353 ≤ j → R 0 j = M 0 j) ∧ zI R
theorem zSS_put {M N : Nat → Nat → Int32} {b to : Nat} (hb : b < 8) (hto : to ≤ 100) (h : zSt M N b) (c : v_X5_isOfGroup N b = true → to = zct (N 0) (nI b) (53 + (100 * (Int32.toNatClampNeg (v_X5_of N b 1)))) 100) : zSS M (v_X5_put N b 3 (nI to)) b to := by
  unfold v_X5_put
  have e : ∀ j, j ≠ 5 + 6 * b + 3 → upd (N 0) (5 + 6 * b + 3) (nI to) j = N 0 j := fun j hj => zupd_n _ _ hj
  refine ⟨fun k hk => by rw [zU_n _ _ hk]; exact h.1 k hk, fun j hj hn => by rw [zU_s, e j hn]; exact h.2.1 j hj, by rw [zU_s, zupd_s], fun j hj => by rw [zU_s, e j (by omega)]; exact h.2.2.1 j hj, ?_⟩
  unfold zI
  rw [zU_s]
  obtain ⟨r1, r2, r3⟩ := h.2.2.2
  refine ⟨by rw [e 1 (by omega)]; exact r1, fun b' hb' => ?_, fun k hk => by rw [e _ (by omega), e 1 (by omega)]; exact r3 k hk⟩
  obtain ⟨g1, g2, g3⟩ := r2 b' hb'
  have eg : upd (N 0) (5 + 6 * b + 3) (nI to) (5 + 6 * b' + 1) = N 0 (5 + 6 * b' + 1) := e _ (by omega)
  have ec : ∀ g, g < 3 → zct (upd (N 0) (5 + 6 * b + 3) (nI to)) (nI b') (53 + 100 * g) 100 = zct (N 0) (nI b') (53 + 100 * g) 100 := fun g hg => zct_congr _ _ _ (fun k hk => e _ (by omega))
  rw [eg]
  by_cases q : b' = b
  · subst q
    rw [zupd_s]
    refine ⟨g1, vp_in_nI (by omega) (by decide), fun hg => ?_⟩
    rw [nI_nat (by omega), ec _ (znat hg).2]
    refine c ?_
    unfold v_X5_isOfGroup
    have hne : ¬ v_X5_of N b' 1 = -1 := fun z => by
      have z2 : N 0 (5 + 6 * b' + 1) = -1 := z
      rw [z2] at hg
      exact absurd (vp_in_iff.mp hg).1 (by decide)
    rw [if_neg hne]
  · rw [e _ (by omega)]
    refine ⟨g1, g2, fun hg => ?_⟩
    rw [ec _ (znat hg).2]; exact g3 q hg
section ZS
variable {M : Nat → Nat → Int32} {b to : Nat}
theorem zss33 (hb : b < 8) (hI : zI M) (hbr : b < (M 0 1).toNatClampNeg) (hto : to ≤ 100) : ∀ (n k : Nat) (N : Nat → Nat → Int32), 101 - k < n → to ≤ k → k ≤ 101 → zSt M N b →
    (v_X5_isOfGroup N b = true → (Int32.toNatClampNeg (v_X5_of M b 3) ≤ k ∧ zct (N 0) (nI b) (53 + (100 * (Int32.toNatClampNeg (v_X5_of M b 1)))) 100 = to) ∨ (k ≤ Int32.toNatClampNeg (v_X5_of M b 3) ∧ zct (N 0) (nI b) (53 + (100 * (Int32.toNatClampNeg (v_X5_of M b 1)))) 100 + k = Int32.toNatClampNeg (v_X5_of M b 3) + to)) →
    zSS M (v_X5_setShare_33 b to n k N) b to
  | 0, k, N, h, _, _, _, _ => absurd h (Nat.not_lt_zero _)
  | n + 1, k, N, h1, h2, h3, h4, h5 => by
    rw [v_X5_setShare_33]
    have r := h4.2.1
    have eo : v_X5_of N b 3 = v_X5_of M b 3 := zof_eq r hb (by decide)
    have eg : v_X5_of N b 1 = v_X5_of M b 1 := zof_eq r hb (by decide)
    have hs := (znat (show vp_in (v_X5_of M b 3) 101 from (hI.2.1 b hb).2.1)).2
    rw [eo]
    by_cases c1 : Int32.toNatClampNeg (v_X5_of M b 3) ≤ k
    · rw [if_pos c1]
      refine zSS_put hb hto h4 (fun c => ?_)
      rw [eg]
      rcases h5 c with q | q
      · exact q.2.symm
      · omega
    · rw [if_neg c1]
      by_cases c2 : v_X5_isOfGroup N b = true
      · rw [if_pos c2]
        obtain ⟨q1, q2⟩ := (h5 c2).resolve_left (fun z => c1 z.1)
        have hg := zig r hb hI c2
        have hex : ∃ k, k < 100 ∧ N 0 (53 + (100 * (Int32.toNatClampNeg (v_X5_of N b 1))) + k) = nI b := zct_pos (N 0) (nI b) _ 100 (by rw [eg]; omega)
        obtain ⟨t, a1, a2, a3, a4, a5⟩ := zth_char hg hex
        have hg2 := (znat hg).2
        rw [a5]
        have hst := zSt_upd h4 hb (by omega) (by omega) (Or.inr a3) (Or.inl rfl : (-1 : Int32) = -1 ∨ _)
        refine zss33 hb hI hbr hto n (k + 1) _ (by omega) (by omega) (by omega) hst (fun _ => Or.inr ⟨by omega, ?_⟩)
        rw [zU_s]
        have e := zct_upd (N 0) t (nI b) (-1) (53 + (100 * (Int32.toNatClampNeg (v_X5_of M b 1)))) 100
        rw [eg] at a1 a2
        rw [if_pos ⟨a1, a2, a3⟩, if_neg (fun h => nI_ne1 hb h.2.2.symm)] at e
        omega
      · rw [if_neg c2]
        exact zSS_put hb hto h4 (fun c => absurd c c2)
theorem zss7 (hb : b < 8) (hI : zI M) (hbr : b < (M 0 1).toNatClampNeg) (hto : to ≤ 100) : ∀ (n i : Nat) (N : Nat → Nat → Int32), to - i < n → Int32.toNatClampNeg (v_X5_of M b 3) ≤ i → (i ≤ to ∨ i = Int32.toNatClampNeg (v_X5_of M b 3)) → zSt M N b →
    (v_X5_isOfGroup N b = true → to - i ≤ zct (N 0) (-1) (53 + (100 * (Int32.toNatClampNeg (v_X5_of M b 1)))) 100 ∧ zct (N 0) (nI b) (53 + (100 * (Int32.toNatClampNeg (v_X5_of M b 1)))) 100 = i) →
    zSS M (v_X5_setShare_7 b to n i N) b to
  | 0, i, N, h, _, _, _, _ => absurd h (Nat.not_lt_zero _)
  | n + 1, i, N, h1, h2, h3, h4, h5 => by
    rw [v_X5_setShare_7]
    have r := h4.2.1
    have eg : v_X5_of N b 1 = v_X5_of M b 1 := zof_eq r hb (by decide)
    have hs := (znat (show vp_in (v_X5_of M b 3) 101 from (hI.2.1 b hb).2.1)).2
    by_cases c1 : to ≤ i
    · rw [if_pos c1]
      refine zss33 hb hI hbr hto 102 to N (by omega) (Nat.le_refl _) (by omega) h4 (fun c => ?_)
      have := (h5 c).2
      by_cases c3 : Int32.toNatClampNeg (v_X5_of M b 3) ≤ to
      · left; exact ⟨c3, by omega⟩
      · right; exact ⟨by omega, by omega⟩
    · rw [if_neg c1]
      by_cases c2 : v_X5_isOfGroup N b = true
      · rw [if_pos c2]
        obtain ⟨q1, q2⟩ := h5 c2
        have hg := zig r hb hI c2
        have hex : ∃ k, k < 100 ∧ N 0 (53 + (100 * (Int32.toNatClampNeg (v_X5_of N b 1))) + k) = -1 := zct_pos (N 0) (-1) _ 100 (by rw [eg]; omega)
        obtain ⟨t, a1, a2, a3, a4, a5⟩ := zgl_char hex
        have hg2 := (znat hg).2
        rw [a5]
        have hst := zSt_upd h4 hb (by omega) (by omega) (Or.inl a3) (Or.inr ⟨rfl, hbr⟩ : nI b = -1 ∨ _)
        refine zss7 hb hI hbr hto n (i + 1) _ (by omega) (by omega) (Or.inl (by omega)) hst (fun _ => ?_)
        rw [zU_s]
        rw [eg] at a1 a2
        have e := zct_upd (N 0) t (nI b) (nI b) (53 + (100 * (Int32.toNatClampNeg (v_X5_of M b 1)))) 100
        rw [if_neg (fun h => nI_ne1 hb (h.2.2.symm.trans a3)), if_pos ⟨a1, a2, rfl⟩] at e
        have e2 := zct_upd (N 0) t (-1) (nI b) (53 + (100 * (Int32.toNatClampNeg (v_X5_of M b 1)))) 100
        rw [if_pos ⟨a1, a2, a3⟩, if_neg (fun h => nI_ne1 hb h.2.2)] at e2
        omega
      · rw [if_neg c2]
        have hst : ∀ c, c ↔ c := fun _ => Iff.rfl
        exact zss33 hb hI hbr hto 102 to N (by omega) (Nat.le_refl _) (by omega) h4 (fun c => absurd c c2)
theorem zss (hb : b < 8) (hI : zI M) (hbr : b < (M 0 1).toNatClampNeg) (hto : to ≤ 100) (room : v_X5_isOfGroup M b = true → to ≤ (Int32.toNatClampNeg (v_X5_of M b 3)) + zct (M 0) (-1) (53 + (100 * (Int32.toNatClampNeg (v_X5_of M b 1)))) 100) : zSS M (v_X5_setShare M b to) b to := by
  unfold v_X5_setShare
  refine zss7 hb hI hbr hto 101 _ M (by omega) (Nat.le_refl _) (Or.inr rfl) ⟨fun _ _ => rfl, fun _ _ => rfl, fun _ _ => rfl, zRX_of b hI⟩ (fun c => ⟨?_, ?_⟩)
  · have := room c; omega
  · exact ((hI.2.1 b hb).2.2 (zmg c hb (zI_G hI))).symm
end ZS
/-- free buckets as the reference counts them -/
theorem zfree_at (M : Nat → Nat → Int32) (gr : Nat) : ∀ (n : Nat) (many : Int32) (i : Nat), 100 - i < n → i ≤ 100 → v_X5_freeOf_4 M gr n many i = many + nI (zct (M 0) (-1) (53 + (100 * gr) + i) (100 - i))
  | 0, _, _, h, _ => absurd h (Nat.not_lt_zero _)
  | n + 1, many, i, h, hi => by
    rw [v_X5_freeOf_4]
    by_cases c : 100 ≤ i
    · rw [if_pos c, show 100 - i = 0 by omega]
      exact (Int32.add_zero many).symm
    · rw [if_neg c]
      have e : ∀ m : Nat, zct (M 0) (-1) (53 + (100 * gr) + i) (m + 1) = (if M 0 (53 + (100 * gr) + i) = -1 then 1 else 0) + zct (M 0) (-1) (53 + (100 * gr) + (i + 1)) m := by
        intro m
        induction m with
        | zero => show 0 + _ = _ + 0; rw [Nat.zero_add, Nat.add_zero]; rfl
        | succ m ih =>
          show zct (M 0) (-1) (53 + (100 * gr) + i) (m + 1) + (if M 0 (53 + (100 * gr) + i + (m + 1)) = -1 then 1 else 0) = (if M 0 (53 + (100 * gr) + i) = -1 then 1 else 0) + (zct (M 0) (-1) (53 + (100 * gr) + (i + 1)) m + (if M 0 (53 + (100 * gr) + (i + 1) + m) = -1 then 1 else 0))
          rw [ih, show 53 + (100 * gr) + i + (m + 1) = 53 + (100 * gr) + (i + 1) + m by omega]; omega
      rw [show 100 - i = (100 - (i + 1)) + 1 by omega, e]
      by_cases d : M 0 (53 + (100 * gr) + i) = -1
      · rw [if_pos d, if_pos d, zfree_at M gr n _ (i + 1) (by omega) (by omega), ← nI_add, Int32.add_assoc]; rfl
      · rw [if_neg d, if_neg d, zfree_at M gr n _ (i + 1) (by omega) (by omega), Nat.zero_add, Int32.add_zero]
theorem zfree (M : Nat → Nat → Int32) (gr : Nat) : v_X5_freeOf M gr = nI (zct (M 0) (-1) (53 + (100 * gr)) 100) := by
  unfold v_X5_freeOf
  rw [zfree_at M gr 101 0 0 (by omega) (by omega), Int32.zero_add]
  simp only [Nat.add_zero, Nat.sub_zero]
theorem zroom {M : Nat → Nat → Int32} {b to : Nat} (hb : b < 8) (hI : zI M) (hto : to ≤ 100) (h : v_X5_canRaise M b (nI to) = true ∨ v_X5_canLower M b (nI to) = true) : v_X5_isOfGroup M b = true → to ≤ (Int32.toNatClampNeg (v_X5_of M b 3)) + zct (M 0) (-1) (53 + (100 * (Int32.toNatClampNeg (v_X5_of M b 1)))) 100 := by
  intro c
  obtain ⟨es, hs⟩ := znat (show vp_in (v_X5_of M b 3) 101 from (hI.2.1 b hb).2.1)
  rcases h with h | h
  · unfold v_X5_canRaise at h
    by_cases c1 : v_X5_isOpen M b = true
    · rw [if_pos c1] at h
      by_cases c2 : nI to < v_X5_of M b 3
      · rw [if_pos c2] at h; cases h
      · rw [if_neg c2] at h
        by_cases c3 : v_X5_hasRoom M b (nI to) = true
        · unfold v_X5_hasRoom at c3
          rw [if_pos c] at c3
          by_cases c4 : v_X5_freeOf M (Int32.toNatClampNeg (v_X5_of M b 1)) < nI to - v_X5_of M b 3
          · rw [if_pos c4] at c3; cases c3
          · have hle := zct_le (M 0) (-1) (53 + (100 * (Int32.toNatClampNeg (v_X5_of M b 1)))) 100
            have h2 : Int32.toNatClampNeg (v_X5_of M b 3) ≤ to := by
              rw [es] at c2
              by_cases z : Int32.toNatClampNeg (v_X5_of M b 3) ≤ to
              · exact z
              · exact absurd ((nI_ltI (by omega) (by omega)).mpr (by omega)) c2
            have ed : nI to - v_X5_of M b 3 = nI (to - Int32.toNatClampNeg (v_X5_of M b 3)) := by
              rw [es, nI_nat (by omega)]; exact pk_sub h2
            rw [zfree, ed] at c4
            by_cases z : to - Int32.toNatClampNeg (v_X5_of M b 3) ≤ zct (M 0) (-1) (53 + (100 * (Int32.toNatClampNeg (v_X5_of M b 1)))) 100
            · omega
            · exact absurd ((nI_ltI (by omega) (by omega)).mpr (by omega)) c4
        · rw [if_neg c3] at h; cases h
    · rw [if_neg c1] at h; cases h
  · unfold v_X5_canLower at h
    by_cases c1 : v_X5_isOpen M b = true
    · rw [if_pos c1] at h
      by_cases c2 : v_X5_of M b 3 < nI to
      · rw [if_pos c2] at h; cases h
      · rw [es] at c2
        by_cases z : to ≤ Int32.toNatClampNeg (v_X5_of M b 3)
        · omega
        · exact absurd ((nI_ltI (by omega) (by omega)).mpr (by omega)) c2
    · rw [if_neg c1] at h; cases h
