/-! the law's calls: what the class answers where the rows agree -/
def zPI (Z T M I : Nat → Nat → Int32) (Q : Nat → Nat → Int64) : Prop := zTw T (M 0) ∧ zI M ∧ zLw M I Q ∧ vp_in (Z 0 0) 7 ∧ vp_in (Z 1 0) 6 ∧ I 0 3 = Z 0 0
def zCan (I : Nat → Nat → Int32) (Q : Nat → Nat → Int64) (b sh : Nat) : Prop := ¬ I 1 (6 * b) = 0 ∧ (nI sh ≤ I 1 (6 * b + 3) ∨ I 1 (6 * b + 1) < 0 ∨ nI sh - I 1 (6 * b + 3) ≤ nI (v_L_room I Q (I 1 (6 * b + 1))))
def zpos (x : Int32) : Bool := !decide (x ≤ 0)
theorem zpos_t {x : Int32} (h : ¬ x ≤ 0) : true = zpos x := by unfold zpos; rw [decide_eq_false h]; rfl
theorem zpos_f {x : Int32} (h : x ≤ 0) : false = zpos x := by unfold zpos; rw [decide_eq_true h]; rfl
theorem zor_a {x y : Bool} (h : x = true) : true = (x || y) := by rw [h]; rfl
theorem zor_b {x y : Bool} (h : x = false) (h2 : y = true) : true = (x || y) := by rw [h, h2]; rfl
theorem zor_c {x y : Bool} (h : x = false) (h2 : y = false) : false = (x || y) := by rw [h, h2]; rfl
theorem vp_up {x : Int32} {a b : Nat} (h : vp_in x a) (hab : a ≤ b) (hb : b < 2 ^ 31) : vp_in x b := by
  obtain ⟨j, hj, rfl⟩ := vp_in_of h (by omega)
  exact vp_in_nI (by omega) hb
theorem znge0 {a : Nat} (ha : a < 2 ^ 31) : ¬ nI a < 0 := fun z => by
  rw [Int32.lt_iff_toInt_lt, nI_toInt (by omega), show (0 : Int32).toInt = 0 from rfl] at z; omega
theorem zlei {a b : Nat} (ha : a < 2 ^ 31) (hb : b < 2 ^ 31) : nI a ≤ nI b ↔ a ≤ b := by
  rw [Int32.le_iff_toInt_le, nI_toInt ha, nI_toInt hb]; omega
theorem zlti {a b : Nat} (ha : a < 2 ^ 31) (hb : b < 2 ^ 31) : nI a < nI b ↔ a < b := by
  rw [Int32.lt_iff_toInt_lt, nI_toInt ha, nI_toInt hb]; omega
section PC
variable {Z T0 T1 T2 T3 T4 T5 T M I O : Nat → Nat → Int32} {Q : Nat → Nat → Int64} {b p sh : Nat} {xx yy mx : Int32}
theorem zP5 (P : zPI Z T M I Q) : zNb I ≤ 5 := (lw_n P.2.2.1).2
theorem zPb (P : zPI Z T M I Q) (hb : b < zNb I) : b < 5 := lw_b P.2.2.1 hb
theorem zpT (P : zPI Z T M I Q) : vp_in (T 0 0) 9 := by rw [eq_nb P.1]; exact zI_B P.2.1
theorem zn5a (h : I 0 0 = 0) : vp_in (I 0 0) 5 := by rw [h]; exact vp_in_nI (n := 0) (N := 5) (by decide) (by decide)
theorem zn5b (P : zPI Z T M I Q) (c : ¬ 5 ≤ I 0 0) : vp_in (I 0 0) 5 := by
  obtain ⟨j, hj, e⟩ := vp_in_of P.2.2.1.1.1 (by decide)
  rw [e] at c ⊢
  refine vp_in_nI ?_ (by decide)
  rcases Nat.lt_or_ge j 5 with q | q
  · exact q
  · exact absurd ((zlei (a := 5) (by decide) (by omega)).mpr q) c
theorem zbn (P : zPI Z T M I Q) (c : ¬ I 0 0 ≤ nI b) (hb : b ≤ 5) : b < zNb I := by
  have h := lw_le P.2.2.1 (i := b) (by omega)
  rcases Nat.lt_or_ge b (zNb I) with q | q
  · exact q
  · exact absurd (h.mpr q) c
theorem zat_n (P : zPI Z T M I Q) (c : ¬ I 0 0 = 0) : vp_in (v_L_at yy (I 0 0)) (zNb I) := by
  have h := lw_n P.2.2.1
  have pos : 0 < zNb I := by
    rcases Nat.eq_zero_or_pos (zNb I) with q | q
    · rw [q] at h; exact absurd h.1 c
    · exact q
  have k := zlat (x := yy) pos (by have := h.2; omega)
  unfold v_L_at
  rw [← h.1] at k
  exact k
theorem zat_s (u : mx = 101 ∨ mx = 40) : vp_in (v_L_at yy mx) 101 := by
  rcases u with rfl | rfl
  · exact zlat (n := 101) (by decide) (by decide)
  · exact vp_up (zlat (x := yy) (n := 40) (by decide) (by decide)) (by decide) (by decide)
theorem zmx0 (u : mx = 101 ∨ mx = 40) : ¬ mx = 0 := by rcases u with rfl | rfl <;> decide
theorem zat3 (x : Int32) : vp_in (v_L_at x 3) 3 := zlat (n := 3) (by decide) (by decide)
theorem zat150 (x : Int32) : vp_in (v_L_at x 150) 150 := zlat (n := 150) (by decide) (by decide)
theorem zatK (x : Int32) : vp_in (v_L_at x 10000) 10000 := zlat (n := 10000) (by decide) (by decide)
theorem zday (x : Int32) : vp_in ((1 : Int32) + (v_L_at x 3)) 4 := by
  obtain ⟨j, hj, e⟩ := vp_in_of (zat3 x) (by decide)
  rw [e, show (1 : Int32) = nI 1 from rfl, nI_add]
  exact vp_in_nI (by omega) (by decide)
/-- the needs -/
theorem zhasB (P : zPI Z T M I Q) (hb : b < zNb I) : v_X3_hasBread T (nI b) = true := by
  have b5 := zPb P hb
  unfold v_X3_hasBread
  rw [eq_nb P.1, ← P.2.2.1.1.2.1, if_neg (znge0 (by omega)), if_neg (fun z => by have := (lw_le P.2.2.1 (i := b) (by omega)).mp z; omega), if_neg (fun z => by have := (zlei (a := 8) (by decide) (by omega)).mp z; omega)]
theorem zisB (P : zPI Z T M I Q) (hb : b < zNb I) : v_X5_isBread M (nI b) = true := by rw [← zisb P.1 P.2.1]; exact zhasB P hb
theorem zneedB (P : zPI Z T M I Q) (hb : b < zNb I) : e_X4_needBread T (nI b) = none := by unfold e_X4_needBread; rw [if_pos (zhasB P hb)]
theorem zneedSh (hs : sh < 101) : e_X4_needShare (nI sh) = none := by
  unfold e_X4_needShare
  rw [if_neg (znge0 (by omega)), if_pos (show nI sh ≤ 100 from (zlei (b := 100) (by omega) (by decide)).mpr (by omega))]
theorem zneedS {x : Int32} (h : vp_in x 10000) : e_X4_needSalt x = none := by
  obtain ⟨j, hj, rfl⟩ := vp_in_of h (by decide)
  unfold e_X4_needSalt
  rw [if_neg (znge0 (by omega)), if_pos (show nI j ≤ 9999 from (zlei (b := 9999) (by omega) (by decide)).mpr (by omega))]
theorem zneedP (hp : p < 150) : e_X4_needPerson (nI p) = none := by
  unfold e_X4_needPerson
  rw [if_neg (znge0 (by omega)), if_pos (show nI p < 150 from (zlti (b := 150) (by omega) (by decide)).mpr hp)]
theorem zneedG {g : Nat} (hg : g < 3) : e_X4_needGroup (nI g) = none := by
  unfold e_X4_needGroup
  rw [if_pos ((by decide : ∀ g, g < 3 → v_X4_isGroup (nI g) = true) g hg)]
theorem zopenB (P : zPI Z T M I Q) (hb : b < zNb I) : v_X3_isOpenBread T (nI b) = v_X5_isOpen M b := by
  have b5 := zPb P hb
  rw [eq_isOpenB1 P.1 P.2.1 (zisB P hb), nI_nat (by omega)]
theorem zop_iff (P : zPI Z T M I Q) (hb : b < zNb I) : ¬ I 1 (6 * b) = 0 ↔ v_X5_isOpen M b = true := by
  rw [lq_open P.1 P.2.2.1 hb]
  cases v_X5_isOpen M b
  · exact ⟨fun z => absurd rfl z, fun z => absurd z (by decide)⟩
  · exact ⟨fun _ => rfl, fun _ => by decide⟩
theorem zneedO (P : zPI Z T M I Q) (hb : b < zNb I) (c : ¬ I 1 (6 * b) = 0) : e_X4_needOpen T (nI (nI b).toNatClampNeg) = none := by
  have b5 := zPb P hb
  unfold e_X4_needOpen
  rw [nI_nat (by omega), zopenB P hb, if_pos ((zop_iff P hb).mp c)]
/-- when a share can be made -/
theorem zroom_n (P : zPI Z T M I Q) (hb : b < zNb I) {g : Nat} (hg : g < 3) (c : v_X5_isOfGroup M b = true) (e : v_X5_of M b 1 = nI g) : v_L_room I Q (nI g) = zFn T b := by
  have b5 := zPb P hb
  rw [lroom_ct]
  refine fb_ct_cong (fun k hk => ?_)
  rw [lq_free P.2.1 P.2.2.1 hg hk, (zog_own P.1 P.2.1 (by omega) c hk).2]
  have eg : zGo M b = 53 + 100 * g := by show 53 + 100 * (v_X5_of M b 1).toNatClampNeg = _; rw [e, nI_nat (by omega)]
  unfold zq
  show _ = decide (M 0 (zGo M b + k) = -1)
  rw [eg]
theorem zcan_w (P : zPI Z T M I Q) (hb : b < zNb I) (hs : sh < 101) : zCan I Q b sh ↔ (v_X5_isOpen M b = true ∧ sh ≤ zSn T b + zFn T b) := by
  have b5 := zPb P hb
  have h3 := zsh_of P.2.2.1 P.2.1 hb
  have hS := zSn_sh P.1 P.2.1 (b := b) (by omega)
  unfold zCan
  rw [zop_iff P hb, h3.1, zlei (by omega) (by omega), lw_of P.2.2.1 hb (by decide)]
  refine and_congr_right (fun op => ?_)
  rcases zgrp P.2.1 (show b < 8 by omega) with ⟨c, e⟩ | ⟨c, g, hg, e⟩
  · have rm : sh ≤ zSn T b + zFn T b := (zrm_iff P.1 P.2.1 (by omega) (by omega)).mp (fun z => by rw [c] at z; cases z)
    rw [e]
    exact ⟨fun _ => rm, fun _ => Or.inr (Or.inl (by decide))⟩
  · rw [e, zroom_n P hb hg c e]
    have f100 : zFn T b ≤ 100 := fb_ct_le _ 100
    by_cases d : sh ≤ zSh M b
    · exact ⟨fun _ => by omega, fun _ => Or.inl d⟩
    · rw [zsub (by omega) (by omega), zlei (by omega) (by omega)]
      constructor
      · rintro (h | h | h)
        · exact absurd h d
        · exact absurd h (znge0 (by omega))
        · omega
      · intro h; right; right; omega
theorem zcan_a (c : ¬ I 1 (6 * b) = 0) (d : nI sh ≤ I 1 (6 * b + 3)) : zCan I Q b sh := ⟨c, Or.inl d⟩
theorem zcan_b (c : ¬ I 1 (6 * b) = 0) (d : I 1 (6 * b + 1) < 0) : zCan I Q b sh := ⟨c, Or.inr (Or.inl d)⟩
theorem zcan_c (c : ¬ I 1 (6 * b) = 0) (d : nI sh - I 1 (6 * b + 3) ≤ nI (v_L_room I Q (I 1 (6 * b + 1)))) : zCan I Q b sh := ⟨c, Or.inr (Or.inr d)⟩
theorem zcan_x (c : I 1 (6 * b) = 0) : ¬ zCan I Q b sh := fun z => z.1 c
theorem zcan_y (c : ¬ nI sh ≤ I 1 (6 * b + 3)) (d : ¬ I 1 (6 * b + 1) < 0) (e : ¬ nI sh - I 1 (6 * b + 3) ≤ nI (v_L_room I Q (I 1 (6 * b + 1)))) : ¬ zCan I Q b sh := fun z => z.2.elim c (fun z => z.elim d e)
theorem zpo_gr (P : zPI Z T M I Q) (hb : b < zNb I) : zgr (I 1 (6 * b + 1)) := lw_gr P.2.2.1 P.2.1 hb
theorem zpo_ifn (P : zPI Z T M I Q) (hb : b < zNb I) (hs : sh < 101) (O : Nat → Nat → Int32) : e_X4_ifShare O T (nI b) (nI sh) = none := by
  unfold e_X4_ifShare
  rw [if_pos (zneedB P hb), if_pos (zneedSh hs)]
theorem zif_x (P : zPI Z T M I Q) (hb : b < zNb I) (hs : sh < 101) (O : Nat → Nat → Int32) : (v_X4_ifShare O T (nI b) (nI sh)).1 = if v_X5_isOpen M b = true then (if sh ≤ zSn T b + zFn T b then nI (zEc T b sh) else -1) else -1 := by
  have b5 := zPb P hb
  have h := zea P.1 P.2.1 (zisB P hb) O (show sh ≤ 100 by omega)
  rw [nI_nat (by omega)] at h
  exact h
theorem zpo_if1 (P : zPI Z T M I Q) (hb : b < zNb I) (hs : sh < 101) (u : ¬ zCan I Q b sh) (O : Nat → Nat → Int32) : (v_X4_ifShare O T (nI b) (nI sh)).1 = -1 := by
  rw [zif_x P hb hs O]
  rw [zcan_w P hb hs] at u
  by_cases c : v_X5_isOpen M b = true
  · rw [if_pos c, if_neg (fun z => u ⟨c, z⟩)]
  · rw [if_neg c]
theorem zpo_sw (P : zPI Z T M I Q) (hb : b < zNb I) (hs : sh < 101) (u : zCan I Q b sh) : zSw (I 1 (6 * b + 1)) I Q b sh := zSw_of P.1 P.2.1 P.2.2.1 hb ((zcan_w P hb hs).mp u).2
theorem zpo_sw0 (P : zPI Z T M I Q) (hb : b < zNb I) : zSw (I 1 (6 * b + 1)) I Q b 0 := zSw_of P.1 P.2.1 P.2.2.1 hb (Nat.zero_le _)
/-- the town behind a share -/
theorem zshR (P : zPI Z T M I Q) (hb : b < zNb I) (hs : sh < 101) (le : sh ≤ zSn T b + zFn T b) (d : zSh M b ≤ sh) : zTw (v_X3_raiseTo T b (nI sh)) (v_X5_setShare M b sh 0) := by
  have b5 := zPb P hb
  exact eq_raise P.1 P.2.1 (by omega) (by rw [lw_nM P.2.2.1]; exact hb) (by omega) d ((zrm_iff P.1 P.2.1 (by omega) (by omega)).mpr le)
theorem zshL (P : zPI Z T M I Q) (hb : b < zNb I) (hs : sh < 101) (le : sh ≤ zSn T b + zFn T b) (d : sh ≤ zSh M b) : zTw (v_X3_lowerTo T b (nI sh)) (v_X5_setShare M b sh 0) := by
  have b5 := zPb P hb
  exact eq_lower P.1 P.2.1 (by omega) (by rw [lw_nM P.2.2.1]; exact hb) d ((zrm_iff P.1 P.2.1 (by omega) (by omega)).mpr le)
theorem zshI (P : zPI Z T M I Q) (hb : b < zNb I) (hs : sh < 101) (le : sh ≤ zSn T b + zFn T b) : zI (v_X5_setShare M b sh) := by
  have b5 := zPb P hb
  exact (zss (show b < 8 by omega) P.2.1 (by rw [lw_nM P.2.2.1]; exact hb) (by omega) ((zrm_iff P.1 P.2.1 (by omega) (by omega)).mpr le)).2.2.2.2
theorem zshLw (P : zPI Z T M I Q) (hb : b < zNb I) (hs : sh < 101) (le : sh ≤ zSn T b + zFn T b) : zLw (v_X5_setShare M b sh) (v_L_share I Q b sh).1 (v_L_share I Q b sh).2 := zLw_share P.1 P.2.1 P.2.2.1 hb (by omega) le
theorem zshNb (P : zPI Z T M I Q) (hb : b < zNb I) (hs : sh < 101) (le : sh ≤ zSn T b + zFn T b) : zNb (v_L_share I Q b sh).1 = zNb I := by
  have S := (lq_share (show sh ≤ 100 by omega) rfl (zSh0_of P.1 P.2.1 P.2.2.1 hb) (zSx_of P.1 P.2.1 P.2.2.1 hb) (zhm P.1 P.2.1 (zPb P hb) le)).1
  show ((v_L_share I Q b sh).1 0 0).toNatClampNeg = (I 0 0).toNatClampNeg
  rw [S.1]
theorem zshEx (P : zPI Z T M I Q) (hb : b < zNb I) (hs : sh < 101) (le : sh ≤ zSn T b + zFn T b) : ∃ T', zTw T' (v_X5_setShare M b sh 0) := by
  rcases Nat.le_total (zSh M b) sh with d | d
  · exact ⟨_, zshR P hb hs le d⟩
  · exact ⟨_, zshL P hb hs le d⟩
theorem zshEat (P : zPI Z T M I Q) (hb : b < zNb I) (hs : sh < 101) (le : sh ≤ zSn T b + zFn T b) : nI (v_L_eaters (v_L_share I Q b sh).1 (v_L_share I Q b sh).2 b) = v_X5_eaters (v_X5_setShare M b sh) b := by
  obtain ⟨T', R'⟩ := zshEx P hb hs le
  exact lq_eaters R' (zshI P hb hs le) (zshLw P hb hs le) (by rw [zshNb P hb hs le]; exact hb)
theorem zpo_gr2 (P : zPI Z T M I Q) (hb : b < zNb I) (hs : sh < 101) (u : zCan I Q b sh) : zgr ((v_L_share I Q b sh).1 1 (6 * b + 1)) := by
  have le := ((zcan_w P hb hs).mp u).2
  exact lw_gr (zshLw P hb hs le) (zshI P hb hs le) (by rw [zshNb P hb hs le]; exact hb)
theorem zpo_if2 (P : zPI Z T M I Q) (hb : b < zNb I) (hs : sh < 101) (u : zCan I Q b sh) (O : Nat → Nat → Int32) : (v_X4_ifShare O T (nI b) (nI sh)).1 = nI (v_L_eaters (v_L_share I Q b sh).1 (v_L_share I Q b sh).2 b) := by
  have b5 := zPb P hb
  obtain ⟨op, le⟩ := (zcan_w P hb hs).mp u
  rw [zif_x P hb hs O, if_pos op, if_pos le, zshEat P hb hs le, zme_ct]
  exact congrArg nI (fb_ct_cong (fun p hp => (zEs_ok P.1 P.2.1 (by omega) (by rw [lw_nM P.2.2.1]; exact hb) op (by omega) ((zrm_iff P.1 P.2.1 (by omega) (by omega)).mpr le) hp).symm))
theorem zcanR_of (P : zPI Z T M I Q) (hb : b < zNb I) (hs : sh < 101) (u : zCan I Q b sh) (d : zSh M b ≤ sh) : v_X5_canRaise M b (nI sh) = true := by
  have b8 : b < 8 := by have := zPb P hb; omega
  obtain ⟨op, le⟩ := (zcan_w P hb hs).mp u
  have h3 := znat (show vp_in (v_X5_of M b 3) 101 from (P.2.1.2.1 b b8).2.1)
  have hS := zSn_sh P.1 P.2.1 b8
  have e3 : v_X5_of M b 3 = nI (zSh M b) := h3.1
  have l3 : zSh M b < 101 := h3.2
  unfold v_X5_canRaise
  rw [if_pos op, e3, if_neg (show ¬ nI sh < nI (zSh M b) from fun z => by have := (zlti (by omega) (by omega)).mp z; omega)]
  unfold v_X5_hasRoom
  by_cases g : v_X5_isOfGroup M b = true
  · have e : zFn T b = zct (M 0) (-1) (53 + (100 * (Int32.toNatClampNeg (v_X5_of M b 1)))) 100 := by
      rw [zct_fb]; exact fb_ct_cong (fun k hk => (zog_own P.1 P.2.1 b8 g hk).2)
    have l : zFn T b ≤ 100 := fb_ct_le _ 100
    rw [if_pos g, zfree, e3, zsub d (by omega), ← e, if_neg (show ¬ nI (zFn T b) < nI (sh - zSh M b) from fun z => by have := (zlti (by omega) (by omega)).mp z; omega)]; rfl
  · rw [if_neg g]; rfl
theorem zsh_lt (P : zPI Z T M I Q) (hb : b < zNb I) (hs : sh < 101) : nI sh < I 1 (6 * b + 3) ↔ sh < zSh M b := by
  have h3 := zsh_of P.2.2.1 P.2.1 hb
  rw [h3.1, zlti (by omega) (by omega)]
theorem zpo_raise (P : zPI Z T M I Q) (hb : b < zNb I) (hs : sh < 101) (u : zCan I Q b sh) (c : ¬ nI sh < I 1 (6 * b + 3)) :
    e_X4_raise Z T0 T1 T2 T3 T4 T5 T (nI b) (nI sh) = none ∧ (v_X4_raise Z T0 T1 T2 T3 T4 T5 T (nI b) (nI sh)).1 = nI (v_L_eaters (v_L_share I Q b sh).1 (v_L_share I Q b sh).2 b) - nI (v_L_eaters I Q b) := by
  have b5 := zPb P hb
  obtain ⟨op, le⟩ := (zcan_w P hb hs).mp u
  rw [zsh_lt P hb hs] at c
  constructor
  · unfold e_X4_raise
    rw [if_pos (zneedB P hb), if_pos (zneedSh hs), nI_nat (by omega), eq_canRaise P.1 P.2.1 (zisB P hb), nI_nat (by omega), if_pos (zcanR_of P hb hs u (by omega))]
  · show nI (v_X3_eaters (v_X3_raiseTo T (nI b).toNatClampNeg (nI sh)) (nI b).toNatClampNeg) - nI (v_X3_eaters T (nI b).toNatClampNeg) = _
    rw [nI_nat (by omega), eq_eaters (zshR P hb hs le (by omega)) (zshI P hb hs le) (by omega), eq_eaters P.1 P.2.1 (by omega), zshEat P hb hs le, lq_eaters P.1 P.2.1 P.2.2.1 hb]
theorem zpo_lower (P : zPI Z T M I Q) (hb : b < zNb I) (hs : sh < 101) (u : zCan I Q b sh) (c : nI sh < I 1 (6 * b + 3)) :
    e_X4_lower Z T0 T1 T2 T3 T4 T5 T (nI b) (nI sh) = none ∧ (v_X4_lower Z T0 T1 T2 T3 T4 T5 T (nI b) (nI sh)).1 = nI (v_L_eaters I Q b) - nI (v_L_eaters (v_L_share I Q b sh).1 (v_L_share I Q b sh).2 b) := by
  have b5 := zPb P hb
  obtain ⟨op, le⟩ := (zcan_w P hb hs).mp u
  have h3 := znat (show vp_in (v_X5_of M b 3) 101 from (P.2.1.2.1 b (by omega)).2.1)
  have e3 : v_X5_of M b 3 = nI (zSh M b) := h3.1
  have l3 : zSh M b < 101 := h3.2
  rw [zsh_lt P hb hs] at c
  constructor
  · unfold e_X4_lower
    rw [if_pos (zneedB P hb), if_pos (zneedSh hs), nI_nat (by omega), eq_canLower P.1 P.2.1 (zisB P hb), nI_nat (by omega)]
    unfold v_X5_canLower
    rw [if_pos op, e3, if_neg (show ¬ nI (zSh M b) < nI sh from fun z => by have := (zlti (by omega) (by omega)).mp z; omega), if_pos rfl]
  · show nI (v_X3_eaters T (nI b).toNatClampNeg) - nI (v_X3_eaters (v_X3_lowerTo T (nI b).toNatClampNeg (nI sh)) (nI b).toNatClampNeg) = _
    rw [nI_nat (by omega), eq_eaters (zshL P hb hs le (by omega)) (zshI P hb hs le) (by omega), eq_eaters P.1 P.2.1 (by omega), zshEat P hb hs le, lq_eaters P.1 P.2.1 P.2.2.1 hb]
/-- what is read -/
theorem zpo_bread (P : zPI Z T M I Q) (hb : b < zNb I) (k : Nat) (hk : k < 12) : e_X4_bread T (nI b) (nI k) = none ∧ v_X4_bread T (nI b) (nI k) = v_X5_breadNow M b k := by
  have b5 := zPb P hb
  constructor
  · unfold e_X4_bread
    rw [if_pos (zneedB P hb), if_neg (znge0 (by omega)), if_pos (show nI k ≤ 11 from (zlei (b := 11) (by omega) (by decide)).mpr (by omega))]
  · show v_X3_breadProperty T (nI b).toNatClampNeg (nI k) = _
    rw [nI_nat (by omega), eq_bp P.1 P.2.1 (by omega) hk]
theorem zbN (M : Nat → Nat → Int32) (b : Nat) : v_X5_breadNow M b 0 = v_X5_of M b 0 ∧ v_X5_breadNow M b 1 = v_X5_of M b 1 ∧ v_X5_breadNow M b 3 = v_X5_of M b 3 ∧ v_X5_breadNow M b 5 = v_X5_eaters M b ∧ v_X5_breadNow M b 6 = v_X5_personsWith M 653 b ∧ v_X5_breadNow M b 7 = v_X5_of M b 5 ∧ v_X5_breadNow M b 8 = v_X5_personsWith M 353 b ∧ v_X5_breadNow M b 10 = v_X5_lowestOf M b ∧ v_X5_breadNow M b 11 = v_X5_highestOf M b := by
  unfold v_X5_breadNow
  simp
theorem zag0 (P : zPI Z T M I Q) (hb : b < zNb I) : v_X4_bread T (nI b) 0 = I 1 (6 * b) := by
  show v_X4_bread T (nI b) (nI 0) = _
  rw [(zpo_bread P hb 0 (by decide)).2, (zbN M b).1, lw_0 P.2.2.1 hb]
theorem zpo_b0 (P : zPI Z T M I Q) (hb : b < zNb I) (c : I 1 (6 * b) = 0) : v_X4_bread T (nI b) 0 = 0 := by rw [zag0 P hb, c]
theorem zag1 (P : zPI Z T M I Q) (hb : b < zNb I) : v_X4_bread T (nI b) 1 = I 1 (6 * b + 1) := by
  show v_X4_bread T (nI b) (nI 1) = _
  rw [(zpo_bread P hb 1 (by decide)).2, (zbN M b).2.1, lw_of P.2.2.1 hb (by decide)]
theorem zag3 (P : zPI Z T M I Q) (hb : b < zNb I) : v_X4_bread T (nI b) 3 = I 1 (6 * b + 3) := by
  show v_X4_bread T (nI b) (nI 3) = _
  rw [(zpo_bread P hb 3 (by decide)).2, (zbN M b).2.2.1, lw_of P.2.2.1 hb (by decide)]
theorem zag5 (P : zPI Z T M I Q) (hb : b < zNb I) : v_X4_bread T (nI b) 5 = nI (v_L_eaters I Q b) := by
  show v_X4_bread T (nI b) (nI 5) = _
  rw [(zpo_bread P hb 5 (by decide)).2, (zbN M b).2.2.2.1, lq_eaters P.1 P.2.1 P.2.2.1 hb]
theorem zag7 (P : zPI Z T M I Q) (hb : b < zNb I) : v_X4_bread T (nI b) 7 = I 1 (6 * b + 5) := by
  show v_X4_bread T (nI b) (nI 7) = _
  rw [(zpo_bread P hb 7 (by decide)).2, (zbN M b).2.2.2.2.2.1, lw_of P.2.2.1 hb (by decide)]
theorem zpo_eats (P : zPI Z T M I Q) (hb : b < zNb I) (hp : p < 150) : e_X4_eats T (nI p) (nI b) = none ∧ v_X4_eats T (nI p) (nI b) = v_L_eats I Q p b := by
  have b5 := zPb P hb
  constructor
  · unfold e_X4_eats
    rw [if_pos (zneedP hp), if_pos (zneedB P hb)]
  · show v_X3_reasonBy T (nI p).toNatClampNeg (nI b).toNatClampNeg (v_X3_saltOf T (nI b).toNatClampNeg) = _
    rw [nI_nat (by omega), nI_nat (by omega), eq_eat P.1 P.2.1 hp (by omega), lq_eats P.1 P.2.1 P.2.2.1 hb hp]
end PC
