/-! the row stays good -/
theorem zI_U {M : Nat → Nat → Int32} {k : Nat} {f : Nat → Int32} (i : zI M) (hk : 0 ≠ k := by decide) : zI (zU M k f) := zI_row (zU_n _ _ hk) i
theorem zS_U {M : Nat → Nat → Int32} {k : Nat} {f : Nat → Int32} (i : vp_in (M 1 0) 7) (hk : 1 ≠ k := by decide) : vp_in (zU M k f 1 0) 7 := by rw [zU_n _ _ hk]; exact i
theorem zs5_row {M : Nat → Nat → Int32} {f : Nat → Int32} (h : vp_in (M 1 0) 7) : v_X5_save (zU M 5 f) 0 = M 0 := by rw [zsv_row (zS_U h), zU_n _ _ (by decide)]
theorem zI_s5 {M : Nat → Nat → Int32} {f : Nat → Int32} (h : vp_in (M 1 0) 7) (i : zI M) : zI (v_X5_save (zU M 5 f)) := zI_row (zs5_row h) i
theorem zI_la {M : Nat → Nat → Int32} {b : Nat} (i : zI M) : zI (v_X5_layAhead M b) := zI_row (zla_f M b (by decide)) i
theorem zI_ks {M : Nat → Nat → Int32} {b : Nat} (i : zI M) : zI ((v_X5_keepShare M b).2) := zI_row (zks_f M b (by decide)) i
/-- a row changed at one place that the good row does not speak of -/
theorem zRow_upd {r : Nat → Int32} {t : Nat} {x : Int32} (i : zRow r) (h1 : t ≠ 1) (h2 : ∀ b, b < 8 → t ≠ 5 + 6 * b + 1 ∧ t ≠ 5 + 6 * b + 3) (h3 : t < 53 ∨ 353 ≤ t) : zRow (upd r t x) := by
  have e : ∀ j, j ≠ t → upd r t x j = r j := fun j hj => zupd_n _ _ hj
  obtain ⟨i1, i2, i3⟩ := i
  refine ⟨by rw [e 1 (Ne.symm h1)]; exact i1, fun b hb => ?_, fun k hk => by rw [e _ (by omega), e 1 (Ne.symm h1)]; exact i3 k hk⟩
  obtain ⟨g1, g2⟩ := h2 b hb
  obtain ⟨j1, j2, j3⟩ := i2 b hb
  rw [e _ (Ne.symm g1), e _ (Ne.symm g2)]
  refine ⟨j1, j2, fun hg => ?_⟩
  rw [j3 hg]
  have hg2 := (znat hg).2
  exact (zct_congr _ _ _ (fun k hk => e _ (by omega))).symm
theorem zI_put {M : Nat → Nat → Int32} {b k : Nat} {x : Int32} (hb : b < 8) (hk : k = 0 ∨ k = 2 ∨ k = 4 ∨ k = 5) (i : zI M) : zI (v_X5_put M b k x) := by
  unfold zI v_X5_put
  rw [zU_s]
  exact zRow_upd i (by omega) (fun b' hb' => by omega) (by omega)
theorem zI_holds {M : Nat → Nat → Int32} {p b : Nat} {i o : Int32} (hb : b < 8) (h : zI M) : zI (v_X5_holds M p b i o) := by
  unfold zI v_X5_holds
  rw [zU_s]
  exact zRow_upd (zRow_upd h (by omega) (fun b' hb' => by omega) (by omega)) (by omega) (fun b' hb' => by omega) (by omega)
theorem zmb2 {M : Nat → Nat → Int32} {x : Int32} (h : v_X5_isBread M x = true) (hB : vp_in (M 0 1) 9) : x.toNatClampNeg < (M 0 1).toNatClampNeg := by
  obtain ⟨j, hj, e⟩ := vp_in_of hB (by decide)
  unfold v_X5_isBread at h
  rw [e] at h
  have h8 := zwithin_in (n := j) h (by rw [zsub1 j hj]; omega)
  rw [e, nI_nat (by omega)]
  exact (znat h8).2
def zRoom (M : Nat → Nat → Int32) (b to : Nat) : Prop := v_X5_isOfGroup M b = true → to ≤ (Int32.toNatClampNeg (v_X5_of M b 3)) + zct (M 0) (-1) (53 + (100 * (Int32.toNatClampNeg (v_X5_of M b 1)))) 100
theorem zroom_row {M N : Nat → Nat → Int32} {b to : Nat} (e : N 0 = M 0) (h : zRoom M b to) : zRoom N b to := by
  unfold zRoom v_X5_isOfGroup v_X5_of at *
  rw [e]; exact h
theorem zroom5 {M : Nat → Nat → Int32} {f : Nat → Int32} {b to : Nat} (hS : vp_in (M 1 0) 7) (i : zI M) (hb : b < 8) (hto : to ≤ 100) (h : v_X5_canRaise M b (nI to) = true ∨ v_X5_canLower M b (nI to) = true) : zRoom (v_X5_save (zU M 5 f)) b to :=
  zroom_row (zs5_row hS) (zroom hb i hto h)
theorem zroomk {M : Nat → Nat → Int32} {b to : Nat} (hb : b < 8) (i : zI M) (hto : to ≤ 100) (h : v_X5_canRaise M b (nI to) = true ∨ v_X5_canLower M b (nI to) = true) : zRoom ((v_X5_keepShare M b).2) b to :=
  zroom_row (zks_f M b (by decide)) (zroom hb i hto h)
theorem zss5 {M : Nat → Nat → Int32} {f : Nat → Int32} {b to : Nat} (hS : vp_in (M 1 0) 7) (i : zI M) (hb : b < 8) (hbr : b < (M 0 1).toNatClampNeg) (hto : to ≤ 100) (h : v_X5_canRaise M b (nI to) = true ∨ v_X5_canLower M b (nI to) = true) : zSS (v_X5_save (zU M 5 f)) (v_X5_setShare (v_X5_save (zU M 5 f)) b to) b to :=
  zss hb (zI_s5 hS i) (by rw [zs5_row hS]; exact hbr) hto (zroom5 hS i hb hto h)
theorem zssk {M : Nat → Nat → Int32} {b to : Nat} (hb : b < 8) (i : zI M) (hbr : b < (M 0 1).toNatClampNeg) (hto : to ≤ 100) (h : v_X5_canRaise M b (nI to) = true ∨ v_X5_canLower M b (nI to) = true) : zSS ((v_X5_keepShare M b).2) (v_X5_setShare ((v_X5_keepShare M b).2) b to) b to :=
  zss hb (zI_ks i) (by rw [zks_f M b (by decide)]; exact hbr) hto (zroomk hb i hto h)
theorem zin_cnt {x : Int32} (h : v_X5_within x 0 8 = true ∨ v_X5_within x 10 12 = true ∨ v_X5_within x 20 22 = true) : vp_in x 23 ∧ (x.toNatClampNeg < 9 ∨ (10 ≤ x.toNatClampNeg ∧ x.toNatClampNeg ≤ 12) ∨ (20 ≤ x.toNatClampNeg ∧ x.toNatClampNeg ≤ 22)) := by
  have e : x.toNatClampNeg = x.toInt.toNat := rfl
  have t0 : (0 : Int32).toInt = 0 := by decide
  have t8 : (8 : Int32).toInt = 8 := by decide
  have t10 : (10 : Int32).toInt = 10 := by decide
  have t12 : (12 : Int32).toInt = 12 := by decide
  have t20 : (20 : Int32).toInt = 20 := by decide
  have t22 : (22 : Int32).toInt = 22 := by decide
  rcases h with h | h | h <;> obtain ⟨a, b⟩ := zwithin h <;> have a2 := zle_toInt a <;> have b2 := zle_toInt b
  · exact ⟨vp_in_iff.mpr ⟨by omega, by omega⟩, by omega⟩
  · exact ⟨vp_in_iff.mpr ⟨by omega, by omega⟩, by omega⟩
  · exact ⟨vp_in_iff.mpr ⟨by omega, by omega⟩, by omega⟩
def v_X5_open (M : Nat → Nat → Int32) (gr : Int32) (sal : Int32) (sti : Bool) : Int32 × (Nat → Nat → Int32) := (if (v_X5_within gr (-1) 2) = true then (if (v_X5_isSalt sal) = true then (if (M 0 1) = 8 then (0, zU M 5 (fun _ => 2)) else (if sti = true then ((nI (Int32.toNatClampNeg (((v_X5_save (zU M 5 (fun _ => 0))) 0) 1))), v_X5_put (v_X5_put (v_X5_put (v_X5_put (v_X5_put (v_X5_put (zU (v_X5_save (zU M 5 (fun _ => 0))) 0 (upd ((v_X5_save (zU M 5 (fun _ => 0))) 0) 1 ((((v_X5_save (zU M 5 (fun _ => 0))) 0) 1) + 1))) (Int32.toNatClampNeg (((v_X5_save (zU M 5 (fun _ => 0))) 0) 1)) 0 1) (Int32.toNatClampNeg (((v_X5_save (zU M 5 (fun _ => 0))) 0) 1)) 1 gr) (Int32.toNatClampNeg (((v_X5_save (zU M 5 (fun _ => 0))) 0) 1)) 2 sal) (Int32.toNatClampNeg (((v_X5_save (zU M 5 (fun _ => 0))) 0) 1)) 3 0) (Int32.toNatClampNeg (((v_X5_save (zU M 5 (fun _ => 0))) 0) 1)) 4 1) (Int32.toNatClampNeg (((v_X5_save (zU M 5 (fun _ => 0))) 0) 1)) 5 0) else ((nI (Int32.toNatClampNeg (((v_X5_save (zU M 5 (fun _ => 0))) 0) 1))), v_X5_put (v_X5_put (v_X5_put (v_X5_put (v_X5_put (v_X5_put (zU (v_X5_save (zU M 5 (fun _ => 0))) 0 (upd ((v_X5_save (zU M 5 (fun _ => 0))) 0) 1 ((((v_X5_save (zU M 5 (fun _ => 0))) 0) 1) + 1))) (Int32.toNatClampNeg (((v_X5_save (zU M 5 (fun _ => 0))) 0) 1)) 0 1) (Int32.toNatClampNeg (((v_X5_save (zU M 5 (fun _ => 0))) 0) 1)) 1 gr) (Int32.toNatClampNeg (((v_X5_save (zU M 5 (fun _ => 0))) 0) 1)) 2 sal) (Int32.toNatClampNeg (((v_X5_save (zU M 5 (fun _ => 0))) 0) 1)) 3 0) (Int32.toNatClampNeg (((v_X5_save (zU M 5 (fun _ => 0))) 0) 1)) 4 0) (Int32.toNatClampNeg (((v_X5_save (zU M 5 (fun _ => 0))) 0) 1)) 5 0))) else (0, zU M 5 (fun _ => 1))) else (0, zU M 5 (fun _ => 1)))
def v_X5_ends (M : Nat → Nat → Int32) (b : Nat) : (Nat → Nat → Int32) := v_X5_put (v_X5_setShare M b 0) b 0 0
def v_X5_end (M : Nat → Nat → Int32) (xx : Int32) : Int32 × (Nat → Nat → Int32) := (if (v_X5_isBread M xx) = true then (if (v_X5_isOpen M (Int32.toNatClampNeg xx)) = true then ((v_X5_personsWith (v_X5_ends (v_X5_save (zU M 5 (fun _ => 0))) (Int32.toNatClampNeg xx)) 653 (Int32.toNatClampNeg xx)), v_X5_ends (v_X5_save (zU M 5 (fun _ => 0))) (Int32.toNatClampNeg xx)) else (0, zU M 5 (fun _ => 2))) else (0, zU M 5 (fun _ => 1)))
def v_X5_raise (M : Nat → Nat → Int32) (xx : Int32) (tt : Int32) : Int32 × (Nat → Nat → Int32) := (if (v_X5_isBread M xx) = true then (if (v_X5_isShare tt) = true then (if (v_X5_canRaise M (Int32.toNatClampNeg xx) (nI (Int32.toNatClampNeg tt))) = true then (((v_X5_eaters (v_X5_setShare (v_X5_save (zU M 5 (fun _ => 0))) (Int32.toNatClampNeg xx) (Int32.toNatClampNeg tt)) (Int32.toNatClampNeg xx)) - (v_X5_eaters (v_X5_save (zU M 5 (fun _ => 0))) (Int32.toNatClampNeg xx))), v_X5_setShare (v_X5_save (zU M 5 (fun _ => 0))) (Int32.toNatClampNeg xx) (Int32.toNatClampNeg tt)) else (0, zU M 5 (fun _ => 3))) else (0, zU M 5 (fun _ => 2))) else (0, zU M 5 (fun _ => 1)))
def v_X5_lower (M : Nat → Nat → Int32) (xx : Int32) (tt : Int32) : Int32 × (Nat → Nat → Int32) := (if (v_X5_isBread M xx) = true then (if (v_X5_isShare tt) = true then (if (v_X5_canLower M (Int32.toNatClampNeg xx) (nI (Int32.toNatClampNeg tt))) = true then (((v_X5_eaters (v_X5_save (zU M 5 (fun _ => 0))) (Int32.toNatClampNeg xx)) - (v_X5_eaters (v_X5_setShare (v_X5_save (zU M 5 (fun _ => 0))) (Int32.toNatClampNeg xx) (Int32.toNatClampNeg tt)) (Int32.toNatClampNeg xx))), v_X5_setShare (v_X5_save (zU M 5 (fun _ => 0))) (Int32.toNatClampNeg xx) (Int32.toNatClampNeg tt)) else (0, zU M 5 (fun _ => 3))) else (0, zU M 5 (fun _ => 2))) else (0, zU M 5 (fun _ => 1)))
def v_X5_resalt (M : Nat → Nat → Int32) (xx : Int32) (sal : Int32) : Int32 × (Nat → Nat → Int32) := (if (v_X5_isBread M xx) = true then (if (v_X5_isSalt sal) = true then (if (v_X5_hasOwnSalt M (Int32.toNatClampNeg xx)) = true then ((v_X5_changed (v_X5_put (v_X5_layAhead (v_X5_save (zU M 5 (fun _ => 0))) (Int32.toNatClampNeg xx)) (Int32.toNatClampNeg xx) 2 sal) (Int32.toNatClampNeg xx)), v_X5_put (v_X5_layAhead (v_X5_save (zU M 5 (fun _ => 0))) (Int32.toNatClampNeg xx)) (Int32.toNatClampNeg xx) 2 sal) else (0, zU M 5 (fun _ => 3))) else (0, zU M 5 (fun _ => 2))) else (0, zU M 5 (fun _ => 1)))
def v_X5_shake (M : Nat → Nat → Int32) (xg : Int32) (sal : Int32) : Int32 × (Nat → Nat → Int32) := (if (v_X5_isGroup xg) = true then (if (v_X5_isSalt sal) = true then ((((v_X5_save (zU M 5 (fun _ => 0))) 0) (2 + (Int32.toNatClampNeg xg))), zU (v_X5_save (zU M 5 (fun _ => 0))) 0 (upd ((v_X5_save (zU M 5 (fun _ => 0))) 0) (2 + (Int32.toNatClampNeg xg)) sal)) else (0, zU M 5 (fun _ => 2))) else (0, zU M 5 (fun _ => 1)))
def v_X5_holdsAnew (M : Nat → Nat → Int32) (pe : Nat) (b : Nat) (isin : Int32) (isout : Int32) : Int32 × (Nat → Nat → Int32) := (if (v_X5_eatsNow M pe b) ≤ 0 then (if (v_X5_eatsNow (v_X5_holds M pe b isin isout) pe b) ≤ 0 then (0, v_X5_holds M pe b isin isout) else (1, v_X5_holds M pe b isin isout)) else (if (v_X5_eatsNow (v_X5_holds M pe b isin isout) pe b) ≤ 0 then (1, v_X5_holds M pe b isin isout) else (0, v_X5_holds M pe b isin isout)))
def v_X5_hold (M : Nat → Nat → Int32) (pp : Int32) (xx : Int32) (isin : Bool) : Int32 × (Nat → Nat → Int32) := (if (v_X5_isPerson pp) = true then (if (v_X5_isBread M xx) = true then (if (v_X5_canHold M xx) = true then (if isin = true then (if isin = true then (((v_X5_holdsAnew (v_X5_save (zU M 5 (fun _ => 0))) (Int32.toNatClampNeg pp) (Int32.toNatClampNeg xx) 1 0).1), (v_X5_holdsAnew (v_X5_save (zU M 5 (fun _ => 0))) (Int32.toNatClampNeg pp) (Int32.toNatClampNeg xx) 1 0).2) else (((v_X5_holdsAnew (v_X5_save (zU M 5 (fun _ => 0))) (Int32.toNatClampNeg pp) (Int32.toNatClampNeg xx) 1 1).1), (v_X5_holdsAnew (v_X5_save (zU M 5 (fun _ => 0))) (Int32.toNatClampNeg pp) (Int32.toNatClampNeg xx) 1 1).2)) else (if isin = true then (((v_X5_holdsAnew (v_X5_save (zU M 5 (fun _ => 0))) (Int32.toNatClampNeg pp) (Int32.toNatClampNeg xx) 0 0).1), (v_X5_holdsAnew (v_X5_save (zU M 5 (fun _ => 0))) (Int32.toNatClampNeg pp) (Int32.toNatClampNeg xx) 0 0).2) else (((v_X5_holdsAnew (v_X5_save (zU M 5 (fun _ => 0))) (Int32.toNatClampNeg pp) (Int32.toNatClampNeg xx) 0 1).1), (v_X5_holdsAnew (v_X5_save (zU M 5 (fun _ => 0))) (Int32.toNatClampNeg pp) (Int32.toNatClampNeg xx) 0 1).2))) else (0, zU M 5 (fun _ => 2))) else (0, zU M 5 (fun _ => 1))) else (0, zU M 5 (fun _ => 1)))
def v_X5_letGo (M : Nat → Nat → Int32) (pp : Int32) (xx : Int32) : Int32 × (Nat → Nat → Int32) := (if (v_X5_isPerson pp) = true then (if (v_X5_isBread M xx) = true then (if (v_X5_isHeld M 353 (Int32.toNatClampNeg pp) (Int32.toNatClampNeg xx)) = true then (((v_X5_holdsAnew (v_X5_save (zU M 5 (fun _ => 0))) (Int32.toNatClampNeg pp) (Int32.toNatClampNeg xx) 0 0).1), (v_X5_holdsAnew (v_X5_save (zU M 5 (fun _ => 0))) (Int32.toNatClampNeg pp) (Int32.toNatClampNeg xx) 0 0).2) else (if (v_X5_isHeld M 503 (Int32.toNatClampNeg pp) (Int32.toNatClampNeg xx)) = true then (((v_X5_holdsAnew (v_X5_save (zU M 5 (fun _ => 0))) (Int32.toNatClampNeg pp) (Int32.toNatClampNeg xx) 0 0).1), (v_X5_holdsAnew (v_X5_save (zU M 5 (fun _ => 0))) (Int32.toNatClampNeg pp) (Int32.toNatClampNeg xx) 0 0).2) else (0, zU M 5 (fun _ => 2)))) else (0, zU M 5 (fun _ => 1))) else (0, zU M 5 (fun _ => 1)))
