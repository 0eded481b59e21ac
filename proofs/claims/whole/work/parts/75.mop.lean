/-! the row stays good -/
theorem zI_U {M : Nat → Nat → Int32} {k : Nat} {f : Nat → Int32} (i : zI M) (hk : 0 ≠ k := by decide) : zI (zU M k f) := zI_row (zU_n _ _ hk) i
theorem zS_U {M : Nat → Nat → Int32} {k : Nat} {f : Nat → Int32} (i : vp_in (M 1 0) 7) (hk : 1 ≠ k := by decide) : vp_in (zU M k f 1 0) 7 := by rw [zU_n _ _ hk]; exact i
theorem zs5_row {M : Nat → Nat → Int32} {f : Nat → Int32} (h : vp_in (M 1 0) 7) : v_X5_save (zU M 5 f) 0 = M 0 := by rw [zsv_row (zS_U h), zU_n _ _ (by decide)]
theorem zI_s5 {M : Nat → Nat → Int32} {f : Nat → Int32} (h : vp_in (M 1 0) 7) (i : zI M) : zI (v_X5_save (zU M 5 f)) := zI_row (zs5_row h) i
theorem zop {M : Nat → Nat → Int32} {f : Nat → Int32} (h : vp_in (M 1 0) 7) (i : zI M) (c : ¬ M 0 1 = 8) : vp_in (v_X5_save (zU M 5 f) 0 1) 8 := by
  rw [zs5_row h]
  obtain ⟨j, hj, e⟩ := vp_in_of (zI_B i) (by decide)
  rw [e] at c ⊢
  have : j ≠ 8 := fun q => c (by rw [q]; rfl)
  exact vp_in_nI (by omega) (by decide)
theorem zI_la {M : Nat → Nat → Int32} {b : Nat} (i : zI M) : zI (v_X5_layAhead M b) := zI_row (zla_f M b (by decide)) i
theorem zI_ks {M : Nat → Nat → Int32} {b : Nat} (i : zI M) : zI ((v_X5_keepShare M b).2) := zI_row (zks_f M b (by decide)) i
/-- a row changed at one place that the good row does not speak of -/
theorem zRow_upd {r : Nat → Int32} {t : Nat} {x : Int32} (i : zRow r) (h1 : t ≠ 1) (h2 : ∀ b, b < 8 → t ≠ 5 + 6 * b + 1 ∧ t ≠ 5 + 6 * b + 3) (h3 : t < 53 ∨ 353 ≤ t) : zRow (upd r t x) := by
  have e : ∀ j, j ≠ t → upd r t x j = r j := fun j hj => zupd_n _ _ hj
  obtain ⟨i1, i2, i3⟩ := i
  refine ⟨by rw [e 1 (Ne.symm h1)]; exact i1, fun b hb => ?_, fun k hk => by rw [e _ (by omega), e 1 (Ne.symm h1)]; exact i3 k hk⟩
  obtain ⟨g1, g2⟩ := h2 b hb
  obtain ⟨j1, j2, j3⟩ := i2 b hb
  rw [e _ (Ne.symm g1), e _ (Ne.symm g2)]
  refine ⟨j1, j2, fun hg => ?_⟩
  rw [j3 hg]
  have hg2 := (znat hg).2
  exact (zct_congr _ _ _ (fun k hk => e _ (by omega))).symm
theorem zI_put {M : Nat → Nat → Int32} {b k : Nat} {x : Int32} (hb : b < 8) (hk : k = 0 ∨ k = 2 ∨ k = 4 ∨ k = 5) (i : zI M) : zI (v_X5_put M b k x) := by
  unfold zI v_X5_put
  rw [zU_s]
  exact zRow_upd i (by omega) (fun b' hb' => by omega) (by omega)
theorem zI_holds {M : Nat → Nat → Int32} {p b : Nat} {i o : Int32} (hb : b < 8) (h : zI M) : zI (v_X5_holds M p b i o) := by
  unfold zI v_X5_holds
  rw [zU_s]
  exact zRow_upd (zRow_upd h (by omega) (fun b' hb' => by omega) (by omega)) (by omega) (fun b' hb' => by omega) (by omega)
theorem zmb2 {M : Nat → Nat → Int32} {x : Int32} (h : v_X5_isBread M x = true) (hB : vp_in (M 0 1) 9) : x.toNatClampNeg < (M 0 1).toNatClampNeg := by
  obtain ⟨j, hj, e⟩ := vp_in_of hB (by decide)
  unfold v_X5_isBread at h
  rw [e] at h
  have h8 := zwithin_in (n := j) h (by rw [zsub1 j hj]; omega)
  rw [e, nI_nat (by omega)]
  exact (znat h8).2
def zRoom (M : Nat → Nat → Int32) (b to : Nat) : Prop := v_X5_isOfGroup M b = true → to ≤ (Int32.toNatClampNeg (v_X5_of M b 3)) + zct (M 0) (-1) (53 + (100 * (Int32.toNatClampNeg (v_X5_of M b 1)))) 100
theorem zroom_row {M N : Nat → Nat → Int32} {b to : Nat} (e : N 0 = M 0) (h : zRoom M b to) : zRoom N b to := by
  unfold zRoom v_X5_isOfGroup v_X5_of at *
  rw [e]; exact h
theorem zroom5 {M : Nat → Nat → Int32} {f : Nat → Int32} {b to : Nat} (hS : vp_in (M 1 0) 7) (i : zI M) (hb : b < 8) (hto : to ≤ 100) (h : v_X5_canRaise M b (nI to) = true ∨ v_X5_canLower M b (nI to) = true) : zRoom (v_X5_save (zU M 5 f)) b to :=
  zroom_row (zs5_row hS) (zroom hb i hto h)
theorem zroomk {M : Nat → Nat → Int32} {b to : Nat} (hb : b < 8) (i : zI M) (hto : to ≤ 100) (h : v_X5_canRaise M b (nI to) = true ∨ v_X5_canLower M b (nI to) = true) : zRoom ((v_X5_keepShare M b).2) b to :=
  zroom_row (zks_f M b (by decide)) (zroom hb i hto h)
theorem zss5 {M : Nat → Nat → Int32} {f : Nat → Int32} {b to : Nat} (hS : vp_in (M 1 0) 7) (i : zI M) (hb : b < 8) (hbr : b < (M 0 1).toNatClampNeg) (hto : to ≤ 100) (h : v_X5_canRaise M b (nI to) = true ∨ v_X5_canLower M b (nI to) = true) : zSS (v_X5_save (zU M 5 f)) (v_X5_setShare (v_X5_save (zU M 5 f)) b to) b to :=
  zss hb (zI_s5 hS i) (by rw [zs5_row hS]; exact hbr) hto (zroom5 hS i hb hto h)
theorem zI_ss5 {M : Nat → Nat → Int32} {f : Nat → Int32} {b to : Nat} (hS : vp_in (M 1 0) 7) (i : zI M) (hb : b < 8) (hbr : b < (M 0 1).toNatClampNeg) (hto : to ≤ 100) (h : v_X5_canRaise M b (nI to) = true ∨ v_X5_canLower M b (nI to) = true) : zI (v_X5_setShare (v_X5_save (zU M 5 f)) b to) :=
  (zss5 hS i hb hbr hto h).2.2.2.2
theorem zssk {M : Nat → Nat → Int32} {b to : Nat} (hb : b < 8) (i : zI M) (hbr : b < (M 0 1).toNatClampNeg) (hto : to ≤ 100) (h : v_X5_canRaise M b (nI to) = true ∨ v_X5_canLower M b (nI to) = true) : zSS ((v_X5_keepShare M b).2) (v_X5_setShare ((v_X5_keepShare M b).2) b to) b to :=
  zss hb (zI_ks i) (by rw [zks_f M b (by decide)]; exact hbr) hto (zroomk hb i hto h)
theorem zI_ssk {M : Nat → Nat → Int32} {b to : Nat} (hb : b < 8) (i : zI M) (hbr : b < (M 0 1).toNatClampNeg) (hto : to ≤ 100) (h : v_X5_canRaise M b (nI to) = true ∨ v_X5_canLower M b (nI to) = true) : zI (v_X5_setShare ((v_X5_keepShare M b).2) b to) :=
  (zssk hb i hbr hto h).2.2.2.2
theorem zund {x : Int32} (h : vp_in x 7) (c : ¬ x ≤ 0) : vp_in (x - 1) 6 := by
  obtain ⟨j, hj, rfl⟩ := vp_in_of h (by decide)
  have h2 : ¬ j ≤ 0 := fun q => c (nI_le (b := 0) q (by omega))
  have e : nI j - 1 = nI (j - 1) := pk_sub (a := j) (b := 1) (by omega)
  rw [e]; exact vp_in_nI (by omega) (by decide)
theorem zin_cnt {x : Int32} (h : v_X5_within x 0 8 = true ∨ v_X5_within x 10 12 = true ∨ v_X5_within x 20 22 = true) : vp_in x 23 ∧ (x.toNatClampNeg < 9 ∨ (10 ≤ x.toNatClampNeg ∧ x.toNatClampNeg ≤ 12) ∨ (20 ≤ x.toNatClampNeg ∧ x.toNatClampNeg ≤ 22)) := by
  have e : x.toNatClampNeg = x.toInt.toNat := rfl
  have t0 : (0 : Int32).toInt = 0 := by decide
  have t8 : (8 : Int32).toInt = 8 := by decide
  have t10 : (10 : Int32).toInt = 10 := by decide
  have t12 : (12 : Int32).toInt = 12 := by decide
  have t20 : (20 : Int32).toInt = 20 := by decide
  have t22 : (22 : Int32).toInt = 22 := by decide
  rcases h with h | h | h <;> obtain ⟨a, b⟩ := zwithin h <;> have a2 := zle_toInt a <;> have b2 := zle_toInt b
  · exact ⟨vp_in_iff.mpr ⟨by omega, by omega⟩, by omega⟩
  · exact ⟨vp_in_iff.mpr ⟨by omega, by omega⟩, by omega⟩
  · exact ⟨vp_in_iff.mpr ⟨by omega, by omega⟩, by omega⟩
def v_X5_open (M : Nat → Nat → Int32) (gr : Int32) (sal : Int32) (sti : Bool) : Int32 × (Nat → Nat → Int32) := (if (v_X5_within gr (-1) 2) = true then (if (v_X5_isSalt sal) = true then (if (M 0 1) = 8 then (0, zU M 5 (fun _ => 2)) else (if sti = true then ((nI (Int32.toNatClampNeg (((v_X5_save (zU M 5 (fun _ => 0))) 0) 1))), v_X5_put (v_X5_put (v_X5_put (v_X5_put (v_X5_put (v_X5_put (zU (v_X5_save (zU M 5 (fun _ => 0))) 0 (upd ((v_X5_save (zU M 5 (fun _ => 0))) 0) 1 ((((v_X5_save (zU M 5 (fun _ => 0))) 0) 1) + 1))) (Int32.toNatClampNeg (((v_X5_save (zU M 5 (fun _ => 0))) 0) 1)) 0 1) (Int32.toNatClampNeg (((v_X5_save (zU M 5 (fun _ => 0))) 0) 1)) 1 gr) (Int32.toNatClampNeg (((v_X5_save (zU M 5 (fun _ => 0))) 0) 1)) 2 sal) (Int32.toNatClampNeg (((v_X5_save (zU M 5 (fun _ => 0))) 0) 1)) 3 0) (Int32.toNatClampNeg (((v_X5_save (zU M 5 (fun _ => 0))) 0) 1)) 4 1) (Int32.toNatClampNeg (((v_X5_save (zU M 5 (fun _ => 0))) 0) 1)) 5 0) else ((nI (Int32.toNatClampNeg (((v_X5_save (zU M 5 (fun _ => 0))) 0) 1))), v_X5_put (v_X5_put (v_X5_put (v_X5_put (v_X5_put (v_X5_put (zU (v_X5_save (zU M 5 (fun _ => 0))) 0 (upd ((v_X5_save (zU M 5 (fun _ => 0))) 0) 1 ((((v_X5_save (zU M 5 (fun _ => 0))) 0) 1) + 1))) (Int32.toNatClampNeg (((v_X5_save (zU M 5 (fun _ => 0))) 0) 1)) 0 1) (Int32.toNatClampNeg (((v_X5_save (zU M 5 (fun _ => 0))) 0) 1)) 1 gr) (Int32.toNatClampNeg (((v_X5_save (zU M 5 (fun _ => 0))) 0) 1)) 2 sal) (Int32.toNatClampNeg (((v_X5_save (zU M 5 (fun _ => 0))) 0) 1)) 3 0) (Int32.toNatClampNeg (((v_X5_save (zU M 5 (fun _ => 0))) 0) 1)) 4 0) (Int32.toNatClampNeg (((v_X5_save (zU M 5 (fun _ => 0))) 0) 1)) 5 0))) else (0, zU M 5 (fun _ => 1))) else (0, zU M 5 (fun _ => 1)))
set_option maxHeartbeats 400000 in
set_option maxRecDepth 100000 in
theorem c_X5_open (l : Launch) (D : va_G) (g : Nat → ClassId) (u : Nat → Nat) (M : Nat → Nat → Int32) (w : Int64) (gr : Int32) (sal : Int32) (sti : Bool) (z0 : zI M) (z1 : vp_in (M 1 0) 7) : Wr l D (zT g) yX5_open wsX5_open (rmOf 2 42) [.ref (u 0), .int gr, .int sal, .int (bI sti)] (zB_X5 (g 0) u M w) (some (.int ((v_X5_open M gr sal sti).1))) (zB_X5 (g 0) u ((v_X5_open M gr sal sti).2) w) := by
  refine Wr.of (cc := cX5_open) (maxL := 5) (ret := (some .int)) (by decide) rfl (Nat.le_of_ble_eq_true rfl) ?_
  intro p e s m below meth c ls hx hb hr hml hown hts hlocks hP hD hS hK hl
  have hown : s.vm.findClass RX5 = some m.cls := hown
  have hinX5 : ∀ w ∈ u_ws RX5 TX5 13, w ∈ wsX5_open := fun _ h9 => (List.mem_cons_of_mem _ (List.mem_append_right _ h9))
  obtain ⟨q, hq⟩ : ∃ q : Int32 × (Nat → Nat → Int32), q = v_X5_open M gr sal sti := ⟨_, rfl⟩
  rw [← hq]
  unfold v_X5_open at hq
  have hl : lv_has ls 5 [(0, .ref (u 0)), (1, .int gr), (2, .int sal), (3, .int (bI sti))] := hl
  refine lv_aload_n hx hb dX5_open_0 rfl (lv_at hl 0 rfl) ?_
  refine lv_iload_n hx hb dX5_open_1 rfl (lv_at hl 1 rfl) ?_
  refine lv_iconst (v := (-1)) hx hb dX5_open_2 (by decide) ?_
  refine lv_iconst (v := 2) hx hb dX5_open_3 (by decide) ?_
  refine zcSO (n := 3) (c_X5_within l D g gr (-1) 2) hx hb hml hown hts gX5_open_X5_within rfl ⟨by decide, by decide, by decide⟩ ⟨Nat.le_of_ble_eq_true rfl, Nat.le_of_ble_eq_true rfl⟩ ⟨rfl, rfl⟩ hK (hP.sub [] rfl) hl.1 rfl rfl (Nat.le_of_ble_eq_true rfl) ⟨Nat.zero_le _, Nat.zero_le _⟩ dX5_open_4 ?_
  refine zif_eq (tgt := 17) hx hb dX5_open_7 (by decide) (fun c_2 => ?_) (fun c_2 => ?_)
  · have hq := hq.trans (zif_f c_2)
    refine lv_iconst (v := 1) hx hb dX5_open_17 (by decide) ?_
    refine lv_goto (tgt := 37) hx hb dX5_open_18 (by decide) ?_
    refine va_put (D := D) (ci := 5) (v := .int 1) (ty := .int) (C := RX5) (T := TX5) (N := 13) hx hb hts hinX5 tyX5 tyX5_ok nmX5 hown hK.1 hP hD hS 0 rfl rfl 5 (by decide) (hts (.fieldLink RX5 28 "SaltSharesModel" "thrown" "I") (List.mem_of_getElem? (i := 2) rfl)) (fun _ h9 => h9) rfl (by decide +kernel) rfl rfl (Nat.le_of_ble_eq_true rfl) dX5_open_37 (fun H locs hP hD hS => ?_)
    have hP : va_P D vwCl (zB_X5 (g 0) u (zU M 5 (fun _ => 1)) w) H := hP
    have hD : va_D (zA (zB_X5 (g 0) u M w)) (zB_X5 (g 0) u (zU M 5 (fun _ => 1)) w) := hD
    refine lv_aload_n hx hb dX5_open_40 rfl (lv_at hl 0 rfl) ?_
    refine va_get (D := D) (ci := 5) (v := .int 1) (C := RX5) (T := TX5) (N := 13) hx hb hts hinX5 hown hK.1 hP 0 rfl rfl 5 (by decide) (hts (.fieldLink RX5 28 "SaltSharesModel" "thrown" "I") (List.mem_of_getElem? (i := 2) rfl)) (fun _ h9 => h9) rfl dX5_open_41 ?_
    refine lv_if_le (tgt := 49) hx hb dX5_open_44 (by decide) (fun c_3 => ?_) (fun c_3 => ?_)
    · exact absurd c_3 (by decide)
    refine lv_iconst (v := 0) hx hb dX5_open_47 (by decide) ?_
    exact zretw_i hx hb hr hlocks dX5_open_48 hP hS (congrArg (fun z9 => z9.1) hq) (congrArg (fun z9 => zB_X5 (g 0) u z9.2 w) hq)
  · have hq := hq.trans (zif_t c_2)
    refine lv_iload_n hx hb dX5_open_10 rfl (lv_at hl 2 rfl) ?_
    refine zcSO (n := 1) (c_X5_isSalt l D g sal) hx hb hml hown hts gX5_open_X5_isSalt rfl ⟨by decide, by decide, by decide⟩ ⟨Nat.le_of_ble_eq_true rfl, Nat.le_of_ble_eq_true rfl⟩ ⟨rfl, rfl⟩ hK (hP.sub [] rfl) hl.1 rfl rfl (Nat.le_of_ble_eq_true rfl) ⟨Nat.zero_le _, Nat.zero_le _⟩ dX5_open_11 ?_
    refine zif_ne (tgt := 21) hx hb dX5_open_14 (by decide) (fun c_5 => ?_) (fun c_5 => ?_)
    · have hq := hq.trans (zif_t c_5)
      refine lv_aload_n hx hb dX5_open_21 rfl (lv_at hl 0 rfl) ?_
      refine va_get (D := D) (ci := 5) (v := .ref (u 1)) (C := RX5) (T := TX5) (N := 13) hx hb hts hinX5 hown hK.1 hP 0 rfl rfl 0 (by decide) (hts (.fieldLink RX5 7 "SaltSharesModel" "z" "[I") (List.mem_of_getElem? (i := 1) rfl)) (fun _ h9 => h9) rfl dX5_open_22 ?_
      refine lv_iconst (v := 1) hx hb dX5_open_25 (by decide) ?_
      refine z_iald (i := 1) hx hb hK hP 1 0 rfl rfl (by omega) (by decide) dX5_open_26 ?_
      refine lv_bipush (v := 8) hx hb dX5_open_27 (by decide) ?_
      refine lv_icmp_ne (tgt := 36) hx hb dX5_open_29 (by decide) (fun c_6 => ?_) (fun c_6 => ?_)
      · have c_6 : ¬ ((M 0 1) = 8) := c_6
        have hq := hq.trans (if_neg c_6)
        refine lv_iconst (v := 0) hx hb dX5_open_36 (by decide) ?_
        refine va_put (D := D) (ci := 5) (v := .int 0) (ty := .int) (C := RX5) (T := TX5) (N := 13) hx hb hts hinX5 tyX5 tyX5_ok nmX5 hown hK.1 hP hD hS 0 rfl rfl 5 (by decide) (hts (.fieldLink RX5 28 "SaltSharesModel" "thrown" "I") (List.mem_of_getElem? (i := 2) rfl)) (fun _ h9 => h9) rfl (by decide +kernel) rfl rfl (Nat.le_of_ble_eq_true rfl) dX5_open_37 (fun H locs hP hD hS => ?_)
        have hP : va_P D vwCl (zB_X5 (g 0) u (zU M 5 (fun _ => 0)) w) H := hP
        have hD : va_D (zA (zB_X5 (g 0) u M w)) (zB_X5 (g 0) u (zU M 5 (fun _ => 0)) w) := hD
        refine lv_aload_n hx hb dX5_open_40 rfl (lv_at hl 0 rfl) ?_
        refine va_get (D := D) (ci := 5) (v := .int 0) (C := RX5) (T := TX5) (N := 13) hx hb hts hinX5 hown hK.1 hP 0 rfl rfl 5 (by decide) (hts (.fieldLink RX5 28 "SaltSharesModel" "thrown" "I") (List.mem_of_getElem? (i := 2) rfl)) (fun _ h9 => h9) rfl dX5_open_41 ?_
        refine lv_if_le (tgt := 49) hx hb dX5_open_44 (by decide) (fun c_7 => ?_) (fun c_7 => ?_)
        rotate_left
        · exact absurd c_7 (by decide)
        refine lv_aload_n hx hb dX5_open_49 rfl (lv_at hl 0 rfl) ?_
        refine zcVw (ci := 5) (n := 0) (c_X5_save l D g u (zU M 5 (fun _ => 0)) w (zS_U z1)) hx hb hml hown hts gX5_open_X5_save rfl ⟨rfl, by decide, by decide, by decide⟩ ⟨Nat.le_of_ble_eq_true rfl, Nat.le_of_ble_eq_true rfl⟩ ⟨rfl, rfl⟩ hK hP hD rfl rfl rfl hS hl.1 rfl rfl (Nat.le_of_ble_eq_true rfl) ⟨Nat.zero_le _, Nat.zero_le _⟩ dX5_open_50 (fun H1 locs hP1 hk1 hS => ?_)
        have hD := zD_addr (ws' := zB_X5 (g 0) u (v_X5_save (zU M 5 (fun _ => 0))) w) hD (by simp only [zF, List.flatten_cons, List.flatten_nil, List.append_nil, List.map_append, List.map_cons, List.map_nil, zad_X0, zad_X1, zad_X2, zad_X3, zad_X4, zad_X5]); have hP := hP1
        clear hP1 hk1
        have hP : va_P D vwCl (zB_X5 (g 0) u (v_X5_save (zU M 5 (fun _ => 0))) w) H1 := hP
        have hD : va_D (zA (zB_X5 (g 0) u M w)) (zB_X5 (g 0) u (v_X5_save (zU M 5 (fun _ => 0))) w) := hD
        refine lv_aload_n hx hb dX5_open_53 rfl (lv_at hl 0 rfl) ?_
        refine va_get (D := D) (ci := 5) (v := .ref (u 1)) (C := RX5) (T := TX5) (N := 13) hx hb hts hinX5 hown hK.1 hP 0 rfl rfl 0 (by decide) (hts (.fieldLink RX5 7 "SaltSharesModel" "z" "[I") (List.mem_of_getElem? (i := 1) rfl)) (fun _ h9 => h9) rfl dX5_open_54 ?_
        refine lv_iconst (v := 1) hx hb dX5_open_57 (by decide) ?_
        refine z_iald (i := 1) hx hb hK hP 1 0 rfl rfl (by omega) (by decide) dX5_open_58 ?_
        refine lv_istore (lv' := [(4, .int (((v_X5_save (zU M 5 (fun _ => 0))) 0) 1)), (0, .ref (u 0)), (1, .int gr), (2, .int sal), (3, .int (bI sti))]) hx hb dX5_open_59 hl (by decide) rfl (fun ls hl => ?_)
        have w_9 := znat (zop (f := fun _ => 0) z1 z0 (by with_reducible assumption))
        have w_9b := w_9.2
        have hl : lv_has ls 5 [(4, .int (nI (Int32.toNatClampNeg (((v_X5_save (zU M 5 (fun _ => 0))) 0) 1)))), (0, .ref (u 0)), (1, .int gr), (2, .int sal), (3, .int (bI sti))] := by rw [← w_9.1]; exact hl
        refine lv_aload_n hx hb dX5_open_61 rfl (lv_at hl 1 rfl) ?_
        refine va_get (D := D) (ci := 5) (v := .ref (u 1)) (C := RX5) (T := TX5) (N := 13) hx hb hts hinX5 hown hK.1 hP 0 rfl rfl 0 (by decide) (hts (.fieldLink RX5 7 "SaltSharesModel" "z" "[I") (List.mem_of_getElem? (i := 1) rfl)) (fun _ h9 => h9) rfl dX5_open_62 ?_
        refine lv_iconst (v := 1) hx hb dX5_open_65 (by decide) ?_
        refine lv_dup2_11 hx hb dX5_open_66 rfl rfl ?_
        refine z_iald (i := 1) hx hb hK hP 1 0 rfl rfl (by omega) (by decide) dX5_open_67 ?_
        refine lv_iconst (v := 1) hx hb dX5_open_68 (by decide) ?_
        refine lv_iadd hx hb dX5_open_69 ?_
        refine z_iast (i := 1) (x := ((((v_X5_save (zU M 5 (fun _ => 0))) 0) 1) + 1)) hx hb hK hP hD hS 1 0 rfl rfl (by omega) (by decide) dX5_open_70 (fun H locs hP hD hS => ?_)
        have hP : va_P D vwCl (zB_X5 (g 0) u (zU (v_X5_save (zU M 5 (fun _ => 0))) 0 (upd ((v_X5_save (zU M 5 (fun _ => 0))) 0) 1 ((((v_X5_save (zU M 5 (fun _ => 0))) 0) 1) + 1))) w) H := hP
        have hD : va_D (zA (zB_X5 (g 0) u M w)) (zB_X5 (g 0) u (zU (v_X5_save (zU M 5 (fun _ => 0))) 0 (upd ((v_X5_save (zU M 5 (fun _ => 0))) 0) 1 ((((v_X5_save (zU M 5 (fun _ => 0))) 0) 1) + 1))) w) := hD
        refine lv_aload_n hx hb dX5_open_71 rfl (lv_at hl 1 rfl) ?_
        refine lv_iload hx hb dX5_open_72 (lv_at hl 0 rfl) ?_
        refine lv_iconst (v := 0) hx hb dX5_open_74 (by decide) ?_
        refine lv_iconst (v := 1) hx hb dX5_open_75 (by decide) ?_
        refine zcVw (ci := 5) (n := 3) (c_X5_put l D g u (zU (v_X5_save (zU M 5 (fun _ => 0))) 0 (upd ((v_X5_save (zU M 5 (fun _ => 0))) 0) 1 ((((v_X5_save (zU M 5 (fun _ => 0))) 0) 1) + 1))) w (Int32.toNatClampNeg (((v_X5_save (zU M 5 (fun _ => 0))) 0) 1)) 0 1 (by omega)) hx hb hml hown hts gX5_open_X5_put rfl ⟨rfl, by decide, by decide, by decide⟩ ⟨Nat.le_of_ble_eq_true rfl, Nat.le_of_ble_eq_true rfl⟩ ⟨rfl, rfl⟩ hK hP hD rfl rfl rfl hS hl.1 rfl rfl (Nat.le_of_ble_eq_true rfl) ⟨Nat.zero_le _, Nat.zero_le _⟩ dX5_open_76 (fun H1 locs hP1 hk1 hS => ?_)
        have hD := zD_addr (ws' := zB_X5 (g 0) u (v_X5_put (zU (v_X5_save (zU M 5 (fun _ => 0))) 0 (upd ((v_X5_save (zU M 5 (fun _ => 0))) 0) 1 ((((v_X5_save (zU M 5 (fun _ => 0))) 0) 1) + 1))) (Int32.toNatClampNeg (((v_X5_save (zU M 5 (fun _ => 0))) 0) 1)) 0 1) w) hD (by simp only [zF, List.flatten_cons, List.flatten_nil, List.append_nil, List.map_append, List.map_cons, List.map_nil, zad_X0, zad_X1, zad_X2, zad_X3, zad_X4, zad_X5]); have hP := hP1
        clear hP1 hk1
        have hP : va_P D vwCl (zB_X5 (g 0) u (v_X5_put (zU (v_X5_save (zU M 5 (fun _ => 0))) 0 (upd ((v_X5_save (zU M 5 (fun _ => 0))) 0) 1 ((((v_X5_save (zU M 5 (fun _ => 0))) 0) 1) + 1))) (Int32.toNatClampNeg (((v_X5_save (zU M 5 (fun _ => 0))) 0) 1)) 0 1) w) H1 := hP
        have hD : va_D (zA (zB_X5 (g 0) u M w)) (zB_X5 (g 0) u (v_X5_put (zU (v_X5_save (zU M 5 (fun _ => 0))) 0 (upd ((v_X5_save (zU M 5 (fun _ => 0))) 0) 1 ((((v_X5_save (zU M 5 (fun _ => 0))) 0) 1) + 1))) (Int32.toNatClampNeg (((v_X5_save (zU M 5 (fun _ => 0))) 0) 1)) 0 1) w) := hD
        refine lv_aload_n hx hb dX5_open_79 rfl (lv_at hl 1 rfl) ?_
        refine lv_iload hx hb dX5_open_80 (lv_at hl 0 rfl) ?_
        refine lv_iconst (v := 1) hx hb dX5_open_82 (by decide) ?_
        refine lv_iload_n hx hb dX5_open_83 rfl (lv_at hl 2 rfl) ?_
        refine zcVw (ci := 5) (n := 3) (c_X5_put l D g u (v_X5_put (zU (v_X5_save (zU M 5 (fun _ => 0))) 0 (upd ((v_X5_save (zU M 5 (fun _ => 0))) 0) 1 ((((v_X5_save (zU M 5 (fun _ => 0))) 0) 1) + 1))) (Int32.toNatClampNeg (((v_X5_save (zU M 5 (fun _ => 0))) 0) 1)) 0 1) w (Int32.toNatClampNeg (((v_X5_save (zU M 5 (fun _ => 0))) 0) 1)) 1 gr (by omega)) hx hb hml hown hts gX5_open_X5_put rfl ⟨rfl, by decide, by decide, by decide⟩ ⟨Nat.le_of_ble_eq_true rfl, Nat.le_of_ble_eq_true rfl⟩ ⟨rfl, rfl⟩ hK hP hD rfl rfl rfl hS hl.1 rfl rfl (Nat.le_of_ble_eq_true rfl) ⟨Nat.zero_le _, Nat.zero_le _⟩ dX5_open_84 (fun H1 locs hP1 hk1 hS => ?_)
        have hD := zD_addr (ws' := zB_X5 (g 0) u (v_X5_put (v_X5_put (zU (v_X5_save (zU M 5 (fun _ => 0))) 0 (upd ((v_X5_save (zU M 5 (fun _ => 0))) 0) 1 ((((v_X5_save (zU M 5 (fun _ => 0))) 0) 1) + 1))) (Int32.toNatClampNeg (((v_X5_save (zU M 5 (fun _ => 0))) 0) 1)) 0 1) (Int32.toNatClampNeg (((v_X5_save (zU M 5 (fun _ => 0))) 0) 1)) 1 gr) w) hD (by simp only [zF, List.flatten_cons, List.flatten_nil, List.append_nil, List.map_append, List.map_cons, List.map_nil, zad_X0, zad_X1, zad_X2, zad_X3, zad_X4, zad_X5]); have hP := hP1
        clear hP1 hk1
        have hP : va_P D vwCl (zB_X5 (g 0) u (v_X5_put (v_X5_put (zU (v_X5_save (zU M 5 (fun _ => 0))) 0 (upd ((v_X5_save (zU M 5 (fun _ => 0))) 0) 1 ((((v_X5_save (zU M 5 (fun _ => 0))) 0) 1) + 1))) (Int32.toNatClampNeg (((v_X5_save (zU M 5 (fun _ => 0))) 0) 1)) 0 1) (Int32.toNatClampNeg (((v_X5_save (zU M 5 (fun _ => 0))) 0) 1)) 1 gr) w) H1 := hP
        have hD : va_D (zA (zB_X5 (g 0) u M w)) (zB_X5 (g 0) u (v_X5_put (v_X5_put (zU (v_X5_save (zU M 5 (fun _ => 0))) 0 (upd ((v_X5_save (zU M 5 (fun _ => 0))) 0) 1 ((((v_X5_save (zU M 5 (fun _ => 0))) 0) 1) + 1))) (Int32.toNatClampNeg (((v_X5_save (zU M 5 (fun _ => 0))) 0) 1)) 0 1) (Int32.toNatClampNeg (((v_X5_save (zU M 5 (fun _ => 0))) 0) 1)) 1 gr) w) := hD
        refine lv_aload_n hx hb dX5_open_87 rfl (lv_at hl 1 rfl) ?_
        refine lv_iload hx hb dX5_open_88 (lv_at hl 0 rfl) ?_
        refine lv_iconst (v := 2) hx hb dX5_open_90 (by decide) ?_
        refine lv_iload_n hx hb dX5_open_91 rfl (lv_at hl 3 rfl) ?_
        refine zcVw (ci := 5) (n := 3) (c_X5_put l D g u (v_X5_put (v_X5_put (zU (v_X5_save (zU M 5 (fun _ => 0))) 0 (upd ((v_X5_save (zU M 5 (fun _ => 0))) 0) 1 ((((v_X5_save (zU M 5 (fun _ => 0))) 0) 1) + 1))) (Int32.toNatClampNeg (((v_X5_save (zU M 5 (fun _ => 0))) 0) 1)) 0 1) (Int32.toNatClampNeg (((v_X5_save (zU M 5 (fun _ => 0))) 0) 1)) 1 gr) w (Int32.toNatClampNeg (((v_X5_save (zU M 5 (fun _ => 0))) 0) 1)) 2 sal (by omega)) hx hb hml hown hts gX5_open_X5_put rfl ⟨rfl, by decide, by decide, by decide⟩ ⟨Nat.le_of_ble_eq_true rfl, Nat.le_of_ble_eq_true rfl⟩ ⟨rfl, rfl⟩ hK hP hD rfl rfl rfl hS hl.1 rfl rfl (Nat.le_of_ble_eq_true rfl) ⟨Nat.zero_le _, Nat.zero_le _⟩ dX5_open_92 (fun H1 locs hP1 hk1 hS => ?_)
        have hD := zD_addr (ws' := zB_X5 (g 0) u (v_X5_put (v_X5_put (v_X5_put (zU (v_X5_save (zU M 5 (fun _ => 0))) 0 (upd ((v_X5_save (zU M 5 (fun _ => 0))) 0) 1 ((((v_X5_save (zU M 5 (fun _ => 0))) 0) 1) + 1))) (Int32.toNatClampNeg (((v_X5_save (zU M 5 (fun _ => 0))) 0) 1)) 0 1) (Int32.toNatClampNeg (((v_X5_save (zU M 5 (fun _ => 0))) 0) 1)) 1 gr) (Int32.toNatClampNeg (((v_X5_save (zU M 5 (fun _ => 0))) 0) 1)) 2 sal) w) hD (by simp only [zF, List.flatten_cons, List.flatten_nil, List.append_nil, List.map_append, List.map_cons, List.map_nil, zad_X0, zad_X1, zad_X2, zad_X3, zad_X4, zad_X5]); have hP := hP1
        clear hP1 hk1
        have hP : va_P D vwCl (zB_X5 (g 0) u (v_X5_put (v_X5_put (v_X5_put (zU (v_X5_save (zU M 5 (fun _ => 0))) 0 (upd ((v_X5_save (zU M 5 (fun _ => 0))) 0) 1 ((((v_X5_save (zU M 5 (fun _ => 0))) 0) 1) + 1))) (Int32.toNatClampNeg (((v_X5_save (zU M 5 (fun _ => 0))) 0) 1)) 0 1) (Int32.toNatClampNeg (((v_X5_save (zU M 5 (fun _ => 0))) 0) 1)) 1 gr) (Int32.toNatClampNeg (((v_X5_save (zU M 5 (fun _ => 0))) 0) 1)) 2 sal) w) H1 := hP
        have hD : va_D (zA (zB_X5 (g 0) u M w)) (zB_X5 (g 0) u (v_X5_put (v_X5_put (v_X5_put (zU (v_X5_save (zU M 5 (fun _ => 0))) 0 (upd ((v_X5_save (zU M 5 (fun _ => 0))) 0) 1 ((((v_X5_save (zU M 5 (fun _ => 0))) 0) 1) + 1))) (Int32.toNatClampNeg (((v_X5_save (zU M 5 (fun _ => 0))) 0) 1)) 0 1) (Int32.toNatClampNeg (((v_X5_save (zU M 5 (fun _ => 0))) 0) 1)) 1 gr) (Int32.toNatClampNeg (((v_X5_save (zU M 5 (fun _ => 0))) 0) 1)) 2 sal) w) := hD
        refine lv_aload_n hx hb dX5_open_95 rfl (lv_at hl 1 rfl) ?_
        refine lv_iload hx hb dX5_open_96 (lv_at hl 0 rfl) ?_
        refine lv_iconst (v := 3) hx hb dX5_open_98 (by decide) ?_
        refine lv_iconst (v := 0) hx hb dX5_open_99 (by decide) ?_
        refine zcVw (ci := 5) (n := 3) (c_X5_put l D g u (v_X5_put (v_X5_put (v_X5_put (zU (v_X5_save (zU M 5 (fun _ => 0))) 0 (upd ((v_X5_save (zU M 5 (fun _ => 0))) 0) 1 ((((v_X5_save (zU M 5 (fun _ => 0))) 0) 1) + 1))) (Int32.toNatClampNeg (((v_X5_save (zU M 5 (fun _ => 0))) 0) 1)) 0 1) (Int32.toNatClampNeg (((v_X5_save (zU M 5 (fun _ => 0))) 0) 1)) 1 gr) (Int32.toNatClampNeg (((v_X5_save (zU M 5 (fun _ => 0))) 0) 1)) 2 sal) w (Int32.toNatClampNeg (((v_X5_save (zU M 5 (fun _ => 0))) 0) 1)) 3 0 (by omega)) hx hb hml hown hts gX5_open_X5_put rfl ⟨rfl, by decide, by decide, by decide⟩ ⟨Nat.le_of_ble_eq_true rfl, Nat.le_of_ble_eq_true rfl⟩ ⟨rfl, rfl⟩ hK hP hD rfl rfl rfl hS hl.1 rfl rfl (Nat.le_of_ble_eq_true rfl) ⟨Nat.zero_le _, Nat.zero_le _⟩ dX5_open_100 (fun H1 locs hP1 hk1 hS => ?_)
        have hD := zD_addr (ws' := zB_X5 (g 0) u (v_X5_put (v_X5_put (v_X5_put (v_X5_put (zU (v_X5_save (zU M 5 (fun _ => 0))) 0 (upd ((v_X5_save (zU M 5 (fun _ => 0))) 0) 1 ((((v_X5_save (zU M 5 (fun _ => 0))) 0) 1) + 1))) (Int32.toNatClampNeg (((v_X5_save (zU M 5 (fun _ => 0))) 0) 1)) 0 1) (Int32.toNatClampNeg (((v_X5_save (zU M 5 (fun _ => 0))) 0) 1)) 1 gr) (Int32.toNatClampNeg (((v_X5_save (zU M 5 (fun _ => 0))) 0) 1)) 2 sal) (Int32.toNatClampNeg (((v_X5_save (zU M 5 (fun _ => 0))) 0) 1)) 3 0) w) hD (by simp only [zF, List.flatten_cons, List.flatten_nil, List.append_nil, List.map_append, List.map_cons, List.map_nil, zad_X0, zad_X1, zad_X2, zad_X3, zad_X4, zad_X5]); have hP := hP1
        clear hP1 hk1
        have hP : va_P D vwCl (zB_X5 (g 0) u (v_X5_put (v_X5_put (v_X5_put (v_X5_put (zU (v_X5_save (zU M 5 (fun _ => 0))) 0 (upd ((v_X5_save (zU M 5 (fun _ => 0))) 0) 1 ((((v_X5_save (zU M 5 (fun _ => 0))) 0) 1) + 1))) (Int32.toNatClampNeg (((v_X5_save (zU M 5 (fun _ => 0))) 0) 1)) 0 1) (Int32.toNatClampNeg (((v_X5_save (zU M 5 (fun _ => 0))) 0) 1)) 1 gr) (Int32.toNatClampNeg (((v_X5_save (zU M 5 (fun _ => 0))) 0) 1)) 2 sal) (Int32.toNatClampNeg (((v_X5_save (zU M 5 (fun _ => 0))) 0) 1)) 3 0) w) H1 := hP
        have hD : va_D (zA (zB_X5 (g 0) u M w)) (zB_X5 (g 0) u (v_X5_put (v_X5_put (v_X5_put (v_X5_put (zU (v_X5_save (zU M 5 (fun _ => 0))) 0 (upd ((v_X5_save (zU M 5 (fun _ => 0))) 0) 1 ((((v_X5_save (zU M 5 (fun _ => 0))) 0) 1) + 1))) (Int32.toNatClampNeg (((v_X5_save (zU M 5 (fun _ => 0))) 0) 1)) 0 1) (Int32.toNatClampNeg (((v_X5_save (zU M 5 (fun _ => 0))) 0) 1)) 1 gr) (Int32.toNatClampNeg (((v_X5_save (zU M 5 (fun _ => 0))) 0) 1)) 2 sal) (Int32.toNatClampNeg (((v_X5_save (zU M 5 (fun _ => 0))) 0) 1)) 3 0) w) := hD
        refine lv_aload_n hx hb dX5_open_103 rfl (lv_at hl 1 rfl) ?_
        refine lv_iload hx hb dX5_open_104 (lv_at hl 0 rfl) ?_
        refine lv_iconst (v := 4) hx hb dX5_open_106 (by decide) ?_
        refine lv_iload_n hx hb dX5_open_107 rfl (lv_at hl 4 rfl) ?_
        refine zif_eq (tgt := 115) hx hb dX5_open_108 (by decide) (fun c_14 => ?_) (fun c_14 => ?_)
        · have hq := hq.trans (zif_f c_14)
          refine lv_iconst (v := 0) hx hb dX5_open_115 (by decide) ?_
          refine zcVw (ci := 5) (n := 3) (c_X5_put l D g u (v_X5_put (v_X5_put (v_X5_put (v_X5_put (zU (v_X5_save (zU M 5 (fun _ => 0))) 0 (upd ((v_X5_save (zU M 5 (fun _ => 0))) 0) 1 ((((v_X5_save (zU M 5 (fun _ => 0))) 0) 1) + 1))) (Int32.toNatClampNeg (((v_X5_save (zU M 5 (fun _ => 0))) 0) 1)) 0 1) (Int32.toNatClampNeg (((v_X5_save (zU M 5 (fun _ => 0))) 0) 1)) 1 gr) (Int32.toNatClampNeg (((v_X5_save (zU M 5 (fun _ => 0))) 0) 1)) 2 sal) (Int32.toNatClampNeg (((v_X5_save (zU M 5 (fun _ => 0))) 0) 1)) 3 0) w (Int32.toNatClampNeg (((v_X5_save (zU M 5 (fun _ => 0))) 0) 1)) 4 0 (by omega)) hx hb hml hown hts gX5_open_X5_put rfl ⟨rfl, by decide, by decide, by decide⟩ ⟨Nat.le_of_ble_eq_true rfl, Nat.le_of_ble_eq_true rfl⟩ ⟨rfl, rfl⟩ hK hP hD rfl rfl rfl hS hl.1 rfl rfl (Nat.le_of_ble_eq_true rfl) ⟨Nat.zero_le _, Nat.zero_le _⟩ dX5_open_116 (fun H1 locs hP1 hk1 hS => ?_)
          have hD := zD_addr (ws' := zB_X5 (g 0) u (v_X5_put (v_X5_put (v_X5_put (v_X5_put (v_X5_put (zU (v_X5_save (zU M 5 (fun _ => 0))) 0 (upd ((v_X5_save (zU M 5 (fun _ => 0))) 0) 1 ((((v_X5_save (zU M 5 (fun _ => 0))) 0) 1) + 1))) (Int32.toNatClampNeg (((v_X5_save (zU M 5 (fun _ => 0))) 0) 1)) 0 1) (Int32.toNatClampNeg (((v_X5_save (zU M 5 (fun _ => 0))) 0) 1)) 1 gr) (Int32.toNatClampNeg (((v_X5_save (zU M 5 (fun _ => 0))) 0) 1)) 2 sal) (Int32.toNatClampNeg (((v_X5_save (zU M 5 (fun _ => 0))) 0) 1)) 3 0) (Int32.toNatClampNeg (((v_X5_save (zU M 5 (fun _ => 0))) 0) 1)) 4 0) w) hD (by simp only [zF, List.flatten_cons, List.flatten_nil, List.append_nil, List.map_append, List.map_cons, List.map_nil, zad_X0, zad_X1, zad_X2, zad_X3, zad_X4, zad_X5]); have hP := hP1
          clear hP1 hk1
          have hP : va_P D vwCl (zB_X5 (g 0) u (v_X5_put (v_X5_put (v_X5_put (v_X5_put (v_X5_put (zU (v_X5_save (zU M 5 (fun _ => 0))) 0 (upd ((v_X5_save (zU M 5 (fun _ => 0))) 0) 1 ((((v_X5_save (zU M 5 (fun _ => 0))) 0) 1) + 1))) (Int32.toNatClampNeg (((v_X5_save (zU M 5 (fun _ => 0))) 0) 1)) 0 1) (Int32.toNatClampNeg (((v_X5_save (zU M 5 (fun _ => 0))) 0) 1)) 1 gr) (Int32.toNatClampNeg (((v_X5_save (zU M 5 (fun _ => 0))) 0) 1)) 2 sal) (Int32.toNatClampNeg (((v_X5_save (zU M 5 (fun _ => 0))) 0) 1)) 3 0) (Int32.toNatClampNeg (((v_X5_save (zU M 5 (fun _ => 0))) 0) 1)) 4 0) w) H1 := hP
          have hD : va_D (zA (zB_X5 (g 0) u M w)) (zB_X5 (g 0) u (v_X5_put (v_X5_put (v_X5_put (v_X5_put (v_X5_put (zU (v_X5_save (zU M 5 (fun _ => 0))) 0 (upd ((v_X5_save (zU M 5 (fun _ => 0))) 0) 1 ((((v_X5_save (zU M 5 (fun _ => 0))) 0) 1) + 1))) (Int32.toNatClampNeg (((v_X5_save (zU M 5 (fun _ => 0))) 0) 1)) 0 1) (Int32.toNatClampNeg (((v_X5_save (zU M 5 (fun _ => 0))) 0) 1)) 1 gr) (Int32.toNatClampNeg (((v_X5_save (zU M 5 (fun _ => 0))) 0) 1)) 2 sal) (Int32.toNatClampNeg (((v_X5_save (zU M 5 (fun _ => 0))) 0) 1)) 3 0) (Int32.toNatClampNeg (((v_X5_save (zU M 5 (fun _ => 0))) 0) 1)) 4 0) w) := hD
          refine lv_aload_n hx hb dX5_open_119 rfl (lv_at hl 1 rfl) ?_
          refine lv_iload hx hb dX5_open_120 (lv_at hl 0 rfl) ?_
          refine lv_iconst (v := 5) hx hb dX5_open_122 (by decide) ?_
          refine lv_iconst (v := 0) hx hb dX5_open_123 (by decide) ?_
          refine zcVw (ci := 5) (n := 3) (c_X5_put l D g u (v_X5_put (v_X5_put (v_X5_put (v_X5_put (v_X5_put (zU (v_X5_save (zU M 5 (fun _ => 0))) 0 (upd ((v_X5_save (zU M 5 (fun _ => 0))) 0) 1 ((((v_X5_save (zU M 5 (fun _ => 0))) 0) 1) + 1))) (Int32.toNatClampNeg (((v_X5_save (zU M 5 (fun _ => 0))) 0) 1)) 0 1) (Int32.toNatClampNeg (((v_X5_save (zU M 5 (fun _ => 0))) 0) 1)) 1 gr) (Int32.toNatClampNeg (((v_X5_save (zU M 5 (fun _ => 0))) 0) 1)) 2 sal) (Int32.toNatClampNeg (((v_X5_save (zU M 5 (fun _ => 0))) 0) 1)) 3 0) (Int32.toNatClampNeg (((v_X5_save (zU M 5 (fun _ => 0))) 0) 1)) 4 0) w (Int32.toNatClampNeg (((v_X5_save (zU M 5 (fun _ => 0))) 0) 1)) 5 0 (by omega)) hx hb hml hown hts gX5_open_X5_put rfl ⟨rfl, by decide, by decide, by decide⟩ ⟨Nat.le_of_ble_eq_true rfl, Nat.le_of_ble_eq_true rfl⟩ ⟨rfl, rfl⟩ hK hP hD rfl rfl rfl hS hl.1 rfl rfl (Nat.le_of_ble_eq_true rfl) ⟨Nat.zero_le _, Nat.zero_le _⟩ dX5_open_124 (fun H1 locs hP1 hk1 hS => ?_)
          have hD := zD_addr (ws' := zB_X5 (g 0) u (v_X5_put (v_X5_put (v_X5_put (v_X5_put (v_X5_put (v_X5_put (zU (v_X5_save (zU M 5 (fun _ => 0))) 0 (upd ((v_X5_save (zU M 5 (fun _ => 0))) 0) 1 ((((v_X5_save (zU M 5 (fun _ => 0))) 0) 1) + 1))) (Int32.toNatClampNeg (((v_X5_save (zU M 5 (fun _ => 0))) 0) 1)) 0 1) (Int32.toNatClampNeg (((v_X5_save (zU M 5 (fun _ => 0))) 0) 1)) 1 gr) (Int32.toNatClampNeg (((v_X5_save (zU M 5 (fun _ => 0))) 0) 1)) 2 sal) (Int32.toNatClampNeg (((v_X5_save (zU M 5 (fun _ => 0))) 0) 1)) 3 0) (Int32.toNatClampNeg (((v_X5_save (zU M 5 (fun _ => 0))) 0) 1)) 4 0) (Int32.toNatClampNeg (((v_X5_save (zU M 5 (fun _ => 0))) 0) 1)) 5 0) w) hD (by simp only [zF, List.flatten_cons, List.flatten_nil, List.append_nil, List.map_append, List.map_cons, List.map_nil, zad_X0, zad_X1, zad_X2, zad_X3, zad_X4, zad_X5]); have hP := hP1
          clear hP1 hk1
          have hP : va_P D vwCl (zB_X5 (g 0) u (v_X5_put (v_X5_put (v_X5_put (v_X5_put (v_X5_put (v_X5_put (zU (v_X5_save (zU M 5 (fun _ => 0))) 0 (upd ((v_X5_save (zU M 5 (fun _ => 0))) 0) 1 ((((v_X5_save (zU M 5 (fun _ => 0))) 0) 1) + 1))) (Int32.toNatClampNeg (((v_X5_save (zU M 5 (fun _ => 0))) 0) 1)) 0 1) (Int32.toNatClampNeg (((v_X5_save (zU M 5 (fun _ => 0))) 0) 1)) 1 gr) (Int32.toNatClampNeg (((v_X5_save (zU M 5 (fun _ => 0))) 0) 1)) 2 sal) (Int32.toNatClampNeg (((v_X5_save (zU M 5 (fun _ => 0))) 0) 1)) 3 0) (Int32.toNatClampNeg (((v_X5_save (zU M 5 (fun _ => 0))) 0) 1)) 4 0) (Int32.toNatClampNeg (((v_X5_save (zU M 5 (fun _ => 0))) 0) 1)) 5 0) w) H1 := hP
          have hD : va_D (zA (zB_X5 (g 0) u M w)) (zB_X5 (g 0) u (v_X5_put (v_X5_put (v_X5_put (v_X5_put (v_X5_put (v_X5_put (zU (v_X5_save (zU M 5 (fun _ => 0))) 0 (upd ((v_X5_save (zU M 5 (fun _ => 0))) 0) 1 ((((v_X5_save (zU M 5 (fun _ => 0))) 0) 1) + 1))) (Int32.toNatClampNeg (((v_X5_save (zU M 5 (fun _ => 0))) 0) 1)) 0 1) (Int32.toNatClampNeg (((v_X5_save (zU M 5 (fun _ => 0))) 0) 1)) 1 gr) (Int32.toNatClampNeg (((v_X5_save (zU M 5 (fun _ => 0))) 0) 1)) 2 sal) (Int32.toNatClampNeg (((v_X5_save (zU M 5 (fun _ => 0))) 0) 1)) 3 0) (Int32.toNatClampNeg (((v_X5_save (zU M 5 (fun _ => 0))) 0) 1)) 4 0) (Int32.toNatClampNeg (((v_X5_save (zU M 5 (fun _ => 0))) 0) 1)) 5 0) w) := hD
          refine lv_iload hx hb dX5_open_127 (lv_at hl 0 rfl) ?_
          exact zretw_i hx hb hr hlocks dX5_open_129 hP hS (congrArg (fun z9 => z9.1) hq) (congrArg (fun z9 => zB_X5 (g 0) u z9.2 w) hq)
        · have hq := hq.trans (zif_t c_14)
          refine lv_iconst (v := 1) hx hb dX5_open_111 (by decide) ?_
          refine lv_goto (tgt := 116) hx hb dX5_open_112 (by decide) ?_
          refine zcVw (ci := 5) (n := 3) (c_X5_put l D g u (v_X5_put (v_X5_put (v_X5_put (v_X5_put (zU (v_X5_save (zU M 5 (fun _ => 0))) 0 (upd ((v_X5_save (zU M 5 (fun _ => 0))) 0) 1 ((((v_X5_save (zU M 5 (fun _ => 0))) 0) 1) + 1))) (Int32.toNatClampNeg (((v_X5_save (zU M 5 (fun _ => 0))) 0) 1)) 0 1) (Int32.toNatClampNeg (((v_X5_save (zU M 5 (fun _ => 0))) 0) 1)) 1 gr) (Int32.toNatClampNeg (((v_X5_save (zU M 5 (fun _ => 0))) 0) 1)) 2 sal) (Int32.toNatClampNeg (((v_X5_save (zU M 5 (fun _ => 0))) 0) 1)) 3 0) w (Int32.toNatClampNeg (((v_X5_save (zU M 5 (fun _ => 0))) 0) 1)) 4 1 (by omega)) hx hb hml hown hts gX5_open_X5_put rfl ⟨rfl, by decide, by decide, by decide⟩ ⟨Nat.le_of_ble_eq_true rfl, Nat.le_of_ble_eq_true rfl⟩ ⟨rfl, rfl⟩ hK hP hD rfl rfl rfl hS hl.1 rfl rfl (Nat.le_of_ble_eq_true rfl) ⟨Nat.zero_le _, Nat.zero_le _⟩ dX5_open_116 (fun H1 locs hP1 hk1 hS => ?_)
          have hD := zD_addr (ws' := zB_X5 (g 0) u (v_X5_put (v_X5_put (v_X5_put (v_X5_put (v_X5_put (zU (v_X5_save (zU M 5 (fun _ => 0))) 0 (upd ((v_X5_save (zU M 5 (fun _ => 0))) 0) 1 ((((v_X5_save (zU M 5 (fun _ => 0))) 0) 1) + 1))) (Int32.toNatClampNeg (((v_X5_save (zU M 5 (fun _ => 0))) 0) 1)) 0 1) (Int32.toNatClampNeg (((v_X5_save (zU M 5 (fun _ => 0))) 0) 1)) 1 gr) (Int32.toNatClampNeg (((v_X5_save (zU M 5 (fun _ => 0))) 0) 1)) 2 sal) (Int32.toNatClampNeg (((v_X5_save (zU M 5 (fun _ => 0))) 0) 1)) 3 0) (Int32.toNatClampNeg (((v_X5_save (zU M 5 (fun _ => 0))) 0) 1)) 4 1) w) hD (by simp only [zF, List.flatten_cons, List.flatten_nil, List.append_nil, List.map_append, List.map_cons, List.map_nil, zad_X0, zad_X1, zad_X2, zad_X3, zad_X4, zad_X5]); have hP := hP1
          clear hP1 hk1
          have hP : va_P D vwCl (zB_X5 (g 0) u (v_X5_put (v_X5_put (v_X5_put (v_X5_put (v_X5_put (zU (v_X5_save (zU M 5 (fun _ => 0))) 0 (upd ((v_X5_save (zU M 5 (fun _ => 0))) 0) 1 ((((v_X5_save (zU M 5 (fun _ => 0))) 0) 1) + 1))) (Int32.toNatClampNeg (((v_X5_save (zU M 5 (fun _ => 0))) 0) 1)) 0 1) (Int32.toNatClampNeg (((v_X5_save (zU M 5 (fun _ => 0))) 0) 1)) 1 gr) (Int32.toNatClampNeg (((v_X5_save (zU M 5 (fun _ => 0))) 0) 1)) 2 sal) (Int32.toNatClampNeg (((v_X5_save (zU M 5 (fun _ => 0))) 0) 1)) 3 0) (Int32.toNatClampNeg (((v_X5_save (zU M 5 (fun _ => 0))) 0) 1)) 4 1) w) H1 := hP
          have hD : va_D (zA (zB_X5 (g 0) u M w)) (zB_X5 (g 0) u (v_X5_put (v_X5_put (v_X5_put (v_X5_put (v_X5_put (zU (v_X5_save (zU M 5 (fun _ => 0))) 0 (upd ((v_X5_save (zU M 5 (fun _ => 0))) 0) 1 ((((v_X5_save (zU M 5 (fun _ => 0))) 0) 1) + 1))) (Int32.toNatClampNeg (((v_X5_save (zU M 5 (fun _ => 0))) 0) 1)) 0 1) (Int32.toNatClampNeg (((v_X5_save (zU M 5 (fun _ => 0))) 0) 1)) 1 gr) (Int32.toNatClampNeg (((v_X5_save (zU M 5 (fun _ => 0))) 0) 1)) 2 sal) (Int32.toNatClampNeg (((v_X5_save (zU M 5 (fun _ => 0))) 0) 1)) 3 0) (Int32.toNatClampNeg (((v_X5_save (zU M 5 (fun _ => 0))) 0) 1)) 4 1) w) := hD
          refine lv_aload_n hx hb dX5_open_119 rfl (lv_at hl 1 rfl) ?_
          refine lv_iload hx hb dX5_open_120 (lv_at hl 0 rfl) ?_
          refine lv_iconst (v := 5) hx hb dX5_open_122 (by decide) ?_
          refine lv_iconst (v := 0) hx hb dX5_open_123 (by decide) ?_
          refine zcVw (ci := 5) (n := 3) (c_X5_put l D g u (v_X5_put (v_X5_put (v_X5_put (v_X5_put (v_X5_put (zU (v_X5_save (zU M 5 (fun _ => 0))) 0 (upd ((v_X5_save (zU M 5 (fun _ => 0))) 0) 1 ((((v_X5_save (zU M 5 (fun _ => 0))) 0) 1) + 1))) (Int32.toNatClampNeg (((v_X5_save (zU M 5 (fun _ => 0))) 0) 1)) 0 1) (Int32.toNatClampNeg (((v_X5_save (zU M 5 (fun _ => 0))) 0) 1)) 1 gr) (Int32.toNatClampNeg (((v_X5_save (zU M 5 (fun _ => 0))) 0) 1)) 2 sal) (Int32.toNatClampNeg (((v_X5_save (zU M 5 (fun _ => 0))) 0) 1)) 3 0) (Int32.toNatClampNeg (((v_X5_save (zU M 5 (fun _ => 0))) 0) 1)) 4 1) w (Int32.toNatClampNeg (((v_X5_save (zU M 5 (fun _ => 0))) 0) 1)) 5 0 (by omega)) hx hb hml hown hts gX5_open_X5_put rfl ⟨rfl, by decide, by decide, by decide⟩ ⟨Nat.le_of_ble_eq_true rfl, Nat.le_of_ble_eq_true rfl⟩ ⟨rfl, rfl⟩ hK hP hD rfl rfl rfl hS hl.1 rfl rfl (Nat.le_of_ble_eq_true rfl) ⟨Nat.zero_le _, Nat.zero_le _⟩ dX5_open_124 (fun H1 locs hP1 hk1 hS => ?_)
          have hD := zD_addr (ws' := zB_X5 (g 0) u (v_X5_put (v_X5_put (v_X5_put (v_X5_put (v_X5_put (v_X5_put (zU (v_X5_save (zU M 5 (fun _ => 0))) 0 (upd ((v_X5_save (zU M 5 (fun _ => 0))) 0) 1 ((((v_X5_save (zU M 5 (fun _ => 0))) 0) 1) + 1))) (Int32.toNatClampNeg (((v_X5_save (zU M 5 (fun _ => 0))) 0) 1)) 0 1) (Int32.toNatClampNeg (((v_X5_save (zU M 5 (fun _ => 0))) 0) 1)) 1 gr) (Int32.toNatClampNeg (((v_X5_save (zU M 5 (fun _ => 0))) 0) 1)) 2 sal) (Int32.toNatClampNeg (((v_X5_save (zU M 5 (fun _ => 0))) 0) 1)) 3 0) (Int32.toNatClampNeg (((v_X5_save (zU M 5 (fun _ => 0))) 0) 1)) 4 1) (Int32.toNatClampNeg (((v_X5_save (zU M 5 (fun _ => 0))) 0) 1)) 5 0) w) hD (by simp only [zF, List.flatten_cons, List.flatten_nil, List.append_nil, List.map_append, List.map_cons, List.map_nil, zad_X0, zad_X1, zad_X2, zad_X3, zad_X4, zad_X5]); have hP := hP1
          clear hP1 hk1
          have hP : va_P D vwCl (zB_X5 (g 0) u (v_X5_put (v_X5_put (v_X5_put (v_X5_put (v_X5_put (v_X5_put (zU (v_X5_save (zU M 5 (fun _ => 0))) 0 (upd ((v_X5_save (zU M 5 (fun _ => 0))) 0) 1 ((((v_X5_save (zU M 5 (fun _ => 0))) 0) 1) + 1))) (Int32.toNatClampNeg (((v_X5_save (zU M 5 (fun _ => 0))) 0) 1)) 0 1) (Int32.toNatClampNeg (((v_X5_save (zU M 5 (fun _ => 0))) 0) 1)) 1 gr) (Int32.toNatClampNeg (((v_X5_save (zU M 5 (fun _ => 0))) 0) 1)) 2 sal) (Int32.toNatClampNeg (((v_X5_save (zU M 5 (fun _ => 0))) 0) 1)) 3 0) (Int32.toNatClampNeg (((v_X5_save (zU M 5 (fun _ => 0))) 0) 1)) 4 1) (Int32.toNatClampNeg (((v_X5_save (zU M 5 (fun _ => 0))) 0) 1)) 5 0) w) H1 := hP
          have hD : va_D (zA (zB_X5 (g 0) u M w)) (zB_X5 (g 0) u (v_X5_put (v_X5_put (v_X5_put (v_X5_put (v_X5_put (v_X5_put (zU (v_X5_save (zU M 5 (fun _ => 0))) 0 (upd ((v_X5_save (zU M 5 (fun _ => 0))) 0) 1 ((((v_X5_save (zU M 5 (fun _ => 0))) 0) 1) + 1))) (Int32.toNatClampNeg (((v_X5_save (zU M 5 (fun _ => 0))) 0) 1)) 0 1) (Int32.toNatClampNeg (((v_X5_save (zU M 5 (fun _ => 0))) 0) 1)) 1 gr) (Int32.toNatClampNeg (((v_X5_save (zU M 5 (fun _ => 0))) 0) 1)) 2 sal) (Int32.toNatClampNeg (((v_X5_save (zU M 5 (fun _ => 0))) 0) 1)) 3 0) (Int32.toNatClampNeg (((v_X5_save (zU M 5 (fun _ => 0))) 0) 1)) 4 1) (Int32.toNatClampNeg (((v_X5_save (zU M 5 (fun _ => 0))) 0) 1)) 5 0) w) := hD
          refine lv_iload hx hb dX5_open_127 (lv_at hl 0 rfl) ?_
          exact zretw_i hx hb hr hlocks dX5_open_129 hP hS (congrArg (fun z9 => z9.1) hq) (congrArg (fun z9 => zB_X5 (g 0) u z9.2 w) hq)
      · have c_6 : (M 0 1) = 8 := c_6
        have hq := hq.trans (if_pos c_6)
        refine lv_iconst (v := 2) hx hb dX5_open_32 (by decide) ?_
        refine lv_goto (tgt := 37) hx hb dX5_open_33 (by decide) ?_
        refine va_put (D := D) (ci := 5) (v := .int 2) (ty := .int) (C := RX5) (T := TX5) (N := 13) hx hb hts hinX5 tyX5 tyX5_ok nmX5 hown hK.1 hP hD hS 0 rfl rfl 5 (by decide) (hts (.fieldLink RX5 28 "SaltSharesModel" "thrown" "I") (List.mem_of_getElem? (i := 2) rfl)) (fun _ h9 => h9) rfl (by decide +kernel) rfl rfl (Nat.le_of_ble_eq_true rfl) dX5_open_37 (fun H locs hP hD hS => ?_)
        have hP : va_P D vwCl (zB_X5 (g 0) u (zU M 5 (fun _ => 2)) w) H := hP
        have hD : va_D (zA (zB_X5 (g 0) u M w)) (zB_X5 (g 0) u (zU M 5 (fun _ => 2)) w) := hD
        refine lv_aload_n hx hb dX5_open_40 rfl (lv_at hl 0 rfl) ?_
        refine va_get (D := D) (ci := 5) (v := .int 2) (C := RX5) (T := TX5) (N := 13) hx hb hts hinX5 hown hK.1 hP 0 rfl rfl 5 (by decide) (hts (.fieldLink RX5 28 "SaltSharesModel" "thrown" "I") (List.mem_of_getElem? (i := 2) rfl)) (fun _ h9 => h9) rfl dX5_open_41 ?_
        refine lv_if_le (tgt := 49) hx hb dX5_open_44 (by decide) (fun c_19 => ?_) (fun c_19 => ?_)
        · exact absurd c_19 (by decide)
        refine lv_iconst (v := 0) hx hb dX5_open_47 (by decide) ?_
        exact zretw_i hx hb hr hlocks dX5_open_48 hP hS (congrArg (fun z9 => z9.1) hq) (congrArg (fun z9 => zB_X5 (g 0) u z9.2 w) hq)
    · have hq := hq.trans (zif_f c_5)
      refine lv_iconst (v := 1) hx hb dX5_open_17 (by decide) ?_
      refine lv_goto (tgt := 37) hx hb dX5_open_18 (by decide) ?_
      refine va_put (D := D) (ci := 5) (v := .int 1) (ty := .int) (C := RX5) (T := TX5) (N := 13) hx hb hts hinX5 tyX5 tyX5_ok nmX5 hown hK.1 hP hD hS 0 rfl rfl 5 (by decide) (hts (.fieldLink RX5 28 "SaltSharesModel" "thrown" "I") (List.mem_of_getElem? (i := 2) rfl)) (fun _ h9 => h9) rfl (by decide +kernel) rfl rfl (Nat.le_of_ble_eq_true rfl) dX5_open_37 (fun H locs hP hD hS => ?_)
      have hP : va_P D vwCl (zB_X5 (g 0) u (zU M 5 (fun _ => 1)) w) H := hP
      have hD : va_D (zA (zB_X5 (g 0) u M w)) (zB_X5 (g 0) u (zU M 5 (fun _ => 1)) w) := hD
      refine lv_aload_n hx hb dX5_open_40 rfl (lv_at hl 0 rfl) ?_
      refine va_get (D := D) (ci := 5) (v := .int 1) (C := RX5) (T := TX5) (N := 13) hx hb hts hinX5 hown hK.1 hP 0 rfl rfl 5 (by decide) (hts (.fieldLink RX5 28 "SaltSharesModel" "thrown" "I") (List.mem_of_getElem? (i := 2) rfl)) (fun _ h9 => h9) rfl dX5_open_41 ?_
      refine lv_if_le (tgt := 49) hx hb dX5_open_44 (by decide) (fun c_20 => ?_) (fun c_20 => ?_)
      · exact absurd c_20 (by decide)
      refine lv_iconst (v := 0) hx hb dX5_open_47 (by decide) ?_
      exact zretw_i hx hb hr hlocks dX5_open_48 hP hS (congrArg (fun z9 => z9.1) hq) (congrArg (fun z9 => zB_X5 (g 0) u z9.2 w) hq)
def v_X5_ends (M : Nat → Nat → Int32) (b : Nat) : (Nat → Nat → Int32) := v_X5_put (v_X5_setShare M b 0) b 0 0
set_option maxHeartbeats 400000 in
set_option maxRecDepth 100000 in
theorem c_X5_ends (l : Launch) (D : va_G) (g : Nat → ClassId) (u : Nat → Nat) (M : Nat → Nat → Int32) (w : Int64) (b : Nat) (z0 : b < 8) (z1 : zI M) : Wr l D (zT g) yX5_ends wsX5_ends (rmOf 3 67) [.ref (u 0), .int (nI b)] (zB_X5 (g 0) u M w) (none) (zB_X5 (g 0) u (v_X5_ends M b) w) := by
  refine Wr.of (cc := cX5_ends) (maxL := 2) (ret := none) (by decide) rfl (Nat.le_of_ble_eq_true rfl) ?_
  intro p e s m below meth c ls hx hb hr hml hown hts hlocks hP hD hS hK hl
  have hown : s.vm.findClass RX5 = some m.cls := hown
  obtain ⟨q, hq⟩ : ∃ q : (Nat → Nat → Int32), q = v_X5_ends M b := ⟨_, rfl⟩
  rw [← hq]
  unfold v_X5_ends at hq
  have hl : lv_has ls 2 [(0, .ref (u 0)), (1, .int (nI b))] := hl
  refine lv_aload_n hx hb dX5_ends_0 rfl (lv_at hl 0 rfl) ?_
  refine lv_iload_n hx hb dX5_ends_1 rfl (lv_at hl 1 rfl) ?_
  refine lv_iconst (v := 0) hx hb dX5_ends_2 (by decide) ?_
  refine zcVw (ci := 5) (n := 2) (c_X5_setShare l D g u M w b 0 z0 z1 (by decide) (fun _ => Nat.zero_le _)) hx hb hml hown hts gX5_ends_X5_setShare rfl ⟨rfl, by decide, by decide, by decide⟩ ⟨Nat.le_of_ble_eq_true rfl, Nat.le_of_ble_eq_true rfl⟩ ⟨rfl, rfl⟩ hK hP hD rfl rfl rfl hS hl.1 rfl rfl (Nat.le_of_ble_eq_true rfl) ⟨Nat.zero_le _, Nat.zero_le _⟩ dX5_ends_3 (fun H1 locs hP1 hk1 hS => ?_)
  have hD := zD_addr (ws' := zB_X5 (g 0) u (v_X5_setShare M b 0) w) hD (by simp only [zF, List.flatten_cons, List.flatten_nil, List.append_nil, List.map_append, List.map_cons, List.map_nil, zad_X0, zad_X1, zad_X2, zad_X3, zad_X4, zad_X5]); have hP := hP1
  clear hP1 hk1
  have hP : va_P D vwCl (zB_X5 (g 0) u (v_X5_setShare M b 0) w) H1 := hP
  have hD : va_D (zA (zB_X5 (g 0) u M w)) (zB_X5 (g 0) u (v_X5_setShare M b 0) w) := hD
  refine lv_aload_n hx hb dX5_ends_6 rfl (lv_at hl 0 rfl) ?_
  refine lv_iload_n hx hb dX5_ends_7 rfl (lv_at hl 1 rfl) ?_
  refine lv_iconst (v := 0) hx hb dX5_ends_8 (by decide) ?_
  refine lv_iconst (v := 0) hx hb dX5_ends_9 (by decide) ?_
  refine zcVw (ci := 5) (n := 3) (c_X5_put l D g u (v_X5_setShare M b 0) w b 0 0 (by omega)) hx hb hml hown hts gX5_ends_X5_put rfl ⟨rfl, by decide, by decide, by decide⟩ ⟨Nat.le_of_ble_eq_true rfl, Nat.le_of_ble_eq_true rfl⟩ ⟨rfl, rfl⟩ hK hP hD rfl rfl rfl hS hl.1 rfl rfl (Nat.le_of_ble_eq_true rfl) ⟨Nat.zero_le _, Nat.zero_le _⟩ dX5_ends_10 (fun H1 locs hP1 hk1 hS => ?_)
  have hD := zD_addr (ws' := zB_X5 (g 0) u (v_X5_put (v_X5_setShare M b 0) b 0 0) w) hD (by simp only [zF, List.flatten_cons, List.flatten_nil, List.append_nil, List.map_append, List.map_cons, List.map_nil, zad_X0, zad_X1, zad_X2, zad_X3, zad_X4, zad_X5]); have hP := hP1
  clear hP1 hk1
  have hP : va_P D vwCl (zB_X5 (g 0) u (v_X5_put (v_X5_setShare M b 0) b 0 0) w) H1 := hP
  have hD : va_D (zA (zB_X5 (g 0) u M w)) (zB_X5 (g 0) u (v_X5_put (v_X5_setShare M b 0) b 0 0) w) := hD
  exact zretw_v hx hb hr hlocks dX5_ends_13 hP hS (congrArg (fun z9 => zB_X5 (g 0) u z9 w) hq)
def v_X5_end (M : Nat → Nat → Int32) (xx : Int32) : Int32 × (Nat → Nat → Int32) := (if (v_X5_isBread M xx) = true then (if (v_X5_isOpen M (Int32.toNatClampNeg xx)) = true then ((v_X5_personsWith (v_X5_ends (v_X5_save (zU M 5 (fun _ => 0))) (Int32.toNatClampNeg xx)) 653 (Int32.toNatClampNeg xx)), v_X5_ends (v_X5_save (zU M 5 (fun _ => 0))) (Int32.toNatClampNeg xx)) else (0, zU M 5 (fun _ => 2))) else (0, zU M 5 (fun _ => 1)))
set_option maxHeartbeats 400000 in
set_option maxRecDepth 100000 in
theorem c_X5_end (l : Launch) (D : va_G) (g : Nat → ClassId) (u : Nat → Nat) (M : Nat → Nat → Int32) (w : Int64) (xx : Int32) (z0 : zI M) (z1 : vp_in (M 1 0) 7) : Wr l D (zT g) yX5_end wsX5_end (rmOf 4 88) [.ref (u 0), .int xx] (zB_X5 (g 0) u M w) (some (.int ((v_X5_end M xx).1))) (zB_X5 (g 0) u ((v_X5_end M xx).2) w) := by
  refine Wr.of (cc := cX5_end) (maxL := 2) (ret := (some .int)) (by decide) rfl (Nat.le_of_ble_eq_true rfl) ?_
  intro p e s m below meth c ls hx hb hr hml hown hts hlocks hP hD hS hK hl
  have hown : s.vm.findClass RX5 = some m.cls := hown
  have hinX5 : ∀ w ∈ u_ws RX5 TX5 13, w ∈ wsX5_end := fun _ h9 => (List.mem_cons_of_mem _ (List.mem_append_right _ h9))
  obtain ⟨q, hq⟩ : ∃ q : Int32 × (Nat → Nat → Int32), q = v_X5_end M xx := ⟨_, rfl⟩
  rw [← hq]
  unfold v_X5_end at hq
  have hl : lv_has ls 2 [(0, .ref (u 0)), (1, .int xx)] := hl
  refine lv_aload_n hx hb dX5_end_0 rfl (lv_at hl 0 rfl) ?_
  refine lv_aload_n hx hb dX5_end_1 rfl (lv_at hl 0 rfl) ?_
  refine lv_iload_n hx hb dX5_end_2 rfl (lv_at hl 1 rfl) ?_
  refine zcV (ci := 5) (n := 1) (c_X5_isBread l D g u M w xx) hx hb hml hown hts gX5_end_X5_isBread rfl ⟨rfl, by decide, by decide, by decide⟩ ⟨Nat.le_of_ble_eq_true rfl, Nat.le_of_ble_eq_true rfl⟩ ⟨rfl, rfl⟩ hK hP rfl rfl rfl hl.1 rfl rfl (Nat.le_of_ble_eq_true rfl) ⟨Nat.zero_le _, Nat.zero_le _⟩ dX5_end_3 ?_
  refine zif_ne (tgt := 13) hx hb dX5_end_6 (by decide) (fun c_2 => ?_) (fun c_2 => ?_)
  · have hq := hq.trans (zif_t c_2)
    have w_3 := znat (zmb (by with_reducible assumption) (zI_B z0))
    have w_3b := w_3.2
    have hl : lv_has ls 2 [(0, .ref (u 0)), (1, .int (nI (Int32.toNatClampNeg xx)))] := by rw [← w_3.1]; exact hl
    refine lv_aload_n hx hb dX5_end_13 rfl (lv_at hl 0 rfl) ?_
    refine lv_iload_n hx hb dX5_end_14 rfl (lv_at hl 1 rfl) ?_
    refine zcV (ci := 5) (n := 1) (c_X5_isOpen l D g u M w (Int32.toNatClampNeg xx) (by omega)) hx hb hml hown hts gX5_end_X5_isOpen rfl ⟨rfl, by decide, by decide, by decide⟩ ⟨Nat.le_of_ble_eq_true rfl, Nat.le_of_ble_eq_true rfl⟩ ⟨rfl, rfl⟩ hK hP rfl rfl rfl hl.1 rfl rfl (Nat.le_of_ble_eq_true rfl) ⟨Nat.zero_le _, Nat.zero_le _⟩ dX5_end_15 ?_
    refine zif_eq (tgt := 25) hx hb dX5_end_18 (by decide) (fun c_5 => ?_) (fun c_5 => ?_)
    · have hq := hq.trans (zif_f c_5)
      refine lv_iconst (v := 2) hx hb dX5_end_25 (by decide) ?_
      refine va_put (D := D) (ci := 5) (v := .int 2) (ty := .int) (C := RX5) (T := TX5) (N := 13) hx hb hts hinX5 tyX5 tyX5_ok nmX5 hown hK.1 hP hD hS 0 rfl rfl 5 (by decide) (hts (.fieldLink RX5 28 "SaltSharesModel" "thrown" "I") (List.mem_of_getElem? (i := 1) rfl)) (fun _ h9 => h9) rfl (by decide +kernel) rfl rfl (Nat.le_of_ble_eq_true rfl) dX5_end_26 (fun H locs hP hD hS => ?_)
      have hP : va_P D vwCl (zB_X5 (g 0) u (zU M 5 (fun _ => 2)) w) H := hP
      have hD : va_D (zA (zB_X5 (g 0) u M w)) (zB_X5 (g 0) u (zU M 5 (fun _ => 2)) w) := hD
      refine lv_aload_n hx hb dX5_end_29 rfl (lv_at hl 0 rfl) ?_
      refine va_get (D := D) (ci := 5) (v := .int 2) (C := RX5) (T := TX5) (N := 13) hx hb hts hinX5 hown hK.1 hP 0 rfl rfl 5 (by decide) (hts (.fieldLink RX5 28 "SaltSharesModel" "thrown" "I") (List.mem_of_getElem? (i := 1) rfl)) (fun _ h9 => h9) rfl dX5_end_30 ?_
      refine lv_if_le (tgt := 38) hx hb dX5_end_33 (by decide) (fun c_6 => ?_) (fun c_6 => ?_)
      · exact absurd c_6 (by decide)
      refine lv_iconst (v := 0) hx hb dX5_end_36 (by decide) ?_
      exact zretw_i hx hb hr hlocks dX5_end_37 hP hS (congrArg (fun z9 => z9.1) hq) (congrArg (fun z9 => zB_X5 (g 0) u z9.2 w) hq)
    · have hq := hq.trans (zif_t c_5)
      refine lv_iconst (v := 0) hx hb dX5_end_21 (by decide) ?_
      refine lv_goto (tgt := 26) hx hb dX5_end_22 (by decide) ?_
      refine va_put (D := D) (ci := 5) (v := .int 0) (ty := .int) (C := RX5) (T := TX5) (N := 13) hx hb hts hinX5 tyX5 tyX5_ok nmX5 hown hK.1 hP hD hS 0 rfl rfl 5 (by decide) (hts (.fieldLink RX5 28 "SaltSharesModel" "thrown" "I") (List.mem_of_getElem? (i := 1) rfl)) (fun _ h9 => h9) rfl (by decide +kernel) rfl rfl (Nat.le_of_ble_eq_true rfl) dX5_end_26 (fun H locs hP hD hS => ?_)
      have hP : va_P D vwCl (zB_X5 (g 0) u (zU M 5 (fun _ => 0)) w) H := hP
      have hD : va_D (zA (zB_X5 (g 0) u M w)) (zB_X5 (g 0) u (zU M 5 (fun _ => 0)) w) := hD
      refine lv_aload_n hx hb dX5_end_29 rfl (lv_at hl 0 rfl) ?_
      refine va_get (D := D) (ci := 5) (v := .int 0) (C := RX5) (T := TX5) (N := 13) hx hb hts hinX5 hown hK.1 hP 0 rfl rfl 5 (by decide) (hts (.fieldLink RX5 28 "SaltSharesModel" "thrown" "I") (List.mem_of_getElem? (i := 1) rfl)) (fun _ h9 => h9) rfl dX5_end_30 ?_
      refine lv_if_le (tgt := 38) hx hb dX5_end_33 (by decide) (fun c_7 => ?_) (fun c_7 => ?_)
      rotate_left
      · exact absurd c_7 (by decide)
      refine lv_aload_n hx hb dX5_end_38 rfl (lv_at hl 0 rfl) ?_
      refine zcVw (ci := 5) (n := 0) (c_X5_save l D g u (zU M 5 (fun _ => 0)) w (zS_U z1)) hx hb hml hown hts gX5_end_X5_save rfl ⟨rfl, by decide, by decide, by decide⟩ ⟨Nat.le_of_ble_eq_true rfl, Nat.le_of_ble_eq_true rfl⟩ ⟨rfl, rfl⟩ hK hP hD rfl rfl rfl hS hl.1 rfl rfl (Nat.le_of_ble_eq_true rfl) ⟨Nat.zero_le _, Nat.zero_le _⟩ dX5_end_39 (fun H1 locs hP1 hk1 hS => ?_)
      have hD := zD_addr (ws' := zB_X5 (g 0) u (v_X5_save (zU M 5 (fun _ => 0))) w) hD (by simp only [zF, List.flatten_cons, List.flatten_nil, List.append_nil, List.map_append, List.map_cons, List.map_nil, zad_X0, zad_X1, zad_X2, zad_X3, zad_X4, zad_X5]); have hP := hP1
      clear hP1 hk1
      have hP : va_P D vwCl (zB_X5 (g 0) u (v_X5_save (zU M 5 (fun _ => 0))) w) H1 := hP
      have hD : va_D (zA (zB_X5 (g 0) u M w)) (zB_X5 (g 0) u (v_X5_save (zU M 5 (fun _ => 0))) w) := hD
      refine lv_aload_n hx hb dX5_end_42 rfl (lv_at hl 0 rfl) ?_
      refine lv_iload_n hx hb dX5_end_43 rfl (lv_at hl 1 rfl) ?_
      refine zcVw (ci := 5) (n := 1) (c_X5_ends l D g u (v_X5_save (zU M 5 (fun _ => 0))) w (Int32.toNatClampNeg xx) (by omega) (zI_s5 z1 z0)) hx hb hml hown hts gX5_end_X5_ends rfl ⟨rfl, by decide, by decide, by decide⟩ ⟨Nat.le_of_ble_eq_true rfl, Nat.le_of_ble_eq_true rfl⟩ ⟨rfl, rfl⟩ hK hP hD rfl rfl rfl hS hl.1 rfl rfl (Nat.le_of_ble_eq_true rfl) ⟨Nat.zero_le _, Nat.zero_le _⟩ dX5_end_44 (fun H1 locs hP1 hk1 hS => ?_)
      have hD := zD_addr (ws' := zB_X5 (g 0) u (v_X5_ends (v_X5_save (zU M 5 (fun _ => 0))) (Int32.toNatClampNeg xx)) w) hD (by simp only [zF, List.flatten_cons, List.flatten_nil, List.append_nil, List.map_append, List.map_cons, List.map_nil, zad_X0, zad_X1, zad_X2, zad_X3, zad_X4, zad_X5]); have hP := hP1
      clear hP1 hk1
      have hP : va_P D vwCl (zB_X5 (g 0) u (v_X5_ends (v_X5_save (zU M 5 (fun _ => 0))) (Int32.toNatClampNeg xx)) w) H1 := hP
      have hD : va_D (zA (zB_X5 (g 0) u M w)) (zB_X5 (g 0) u (v_X5_ends (v_X5_save (zU M 5 (fun _ => 0))) (Int32.toNatClampNeg xx)) w) := hD
      refine lv_aload_n hx hb dX5_end_47 rfl (lv_at hl 0 rfl) ?_
      refine lv_sipush (v := 653) hx hb dX5_end_48 (by decide) ?_
      refine lv_iload_n hx hb dX5_end_51 rfl (lv_at hl 1 rfl) ?_
      refine zcV (ci := 5) (n := 2) (c_X5_personsWith l D g u (v_X5_ends (v_X5_save (zU M 5 (fun _ => 0))) (Int32.toNatClampNeg xx)) w 653 (Int32.toNatClampNeg xx) (by omega)) hx hb hml hown hts gX5_end_X5_personsWith rfl ⟨rfl, by decide, by decide, by decide⟩ ⟨Nat.le_of_ble_eq_true rfl, Nat.le_of_ble_eq_true rfl⟩ ⟨rfl, rfl⟩ hK hP rfl rfl rfl hl.1 rfl rfl (Nat.le_of_ble_eq_true rfl) ⟨Nat.zero_le _, Nat.zero_le _⟩ dX5_end_52 ?_
      exact zretw_i hx hb hr hlocks dX5_end_55 hP hS (congrArg (fun z9 => z9.1) hq) (congrArg (fun z9 => zB_X5 (g 0) u z9.2 w) hq)
  · have hq := hq.trans (zif_f c_2)
    refine lv_iconst (v := 1) hx hb dX5_end_9 (by decide) ?_
    refine lv_goto (tgt := 26) hx hb dX5_end_10 (by decide) ?_
    refine va_put (D := D) (ci := 5) (v := .int 1) (ty := .int) (C := RX5) (T := TX5) (N := 13) hx hb hts hinX5 tyX5 tyX5_ok nmX5 hown hK.1 hP hD hS 0 rfl rfl 5 (by decide) (hts (.fieldLink RX5 28 "SaltSharesModel" "thrown" "I") (List.mem_of_getElem? (i := 1) rfl)) (fun _ h9 => h9) rfl (by decide +kernel) rfl rfl (Nat.le_of_ble_eq_true rfl) dX5_end_26 (fun H locs hP hD hS => ?_)
    have hP : va_P D vwCl (zB_X5 (g 0) u (zU M 5 (fun _ => 1)) w) H := hP
    have hD : va_D (zA (zB_X5 (g 0) u M w)) (zB_X5 (g 0) u (zU M 5 (fun _ => 1)) w) := hD
    refine lv_aload_n hx hb dX5_end_29 rfl (lv_at hl 0 rfl) ?_
    refine va_get (D := D) (ci := 5) (v := .int 1) (C := RX5) (T := TX5) (N := 13) hx hb hts hinX5 hown hK.1 hP 0 rfl rfl 5 (by decide) (hts (.fieldLink RX5 28 "SaltSharesModel" "thrown" "I") (List.mem_of_getElem? (i := 1) rfl)) (fun _ h9 => h9) rfl dX5_end_30 ?_
    refine lv_if_le (tgt := 38) hx hb dX5_end_33 (by decide) (fun c_11 => ?_) (fun c_11 => ?_)
    · exact absurd c_11 (by decide)
    refine lv_iconst (v := 0) hx hb dX5_end_36 (by decide) ?_
    exact zretw_i hx hb hr hlocks dX5_end_37 hP hS (congrArg (fun z9 => z9.1) hq) (congrArg (fun z9 => zB_X5 (g 0) u z9.2 w) hq)
def v_X5_raise (M : Nat → Nat → Int32) (xx : Int32) (tt : Int32) : Int32 × (Nat → Nat → Int32) := (if (v_X5_isBread M xx) = true then (if (v_X5_isShare tt) = true then (if (v_X5_canRaise M (Int32.toNatClampNeg xx) (nI (Int32.toNatClampNeg tt))) = true then (((v_X5_eaters (v_X5_setShare (v_X5_save (zU M 5 (fun _ => 0))) (Int32.toNatClampNeg xx) (Int32.toNatClampNeg tt)) (Int32.toNatClampNeg xx)) - (v_X5_eaters (v_X5_save (zU M 5 (fun _ => 0))) (Int32.toNatClampNeg xx))), v_X5_setShare (v_X5_save (zU M 5 (fun _ => 0))) (Int32.toNatClampNeg xx) (Int32.toNatClampNeg tt)) else (0, zU M 5 (fun _ => 3))) else (0, zU M 5 (fun _ => 2))) else (0, zU M 5 (fun _ => 1)))
set_option maxHeartbeats 400000 in
set_option maxRecDepth 100000 in
theorem c_X5_raise (l : Launch) (D : va_G) (g : Nat → ClassId) (u : Nat → Nat) (M : Nat → Nat → Int32) (w : Int64) (xx : Int32) (tt : Int32) (z0 : zI M) (z1 : vp_in (M 1 0) 7) : Wr l D (zT g) yX5_raise wsX5_raise (rmOf 5 111) [.ref (u 0), .int xx, .int tt] (zB_X5 (g 0) u M w) (some (.int ((v_X5_raise M xx tt).1))) (zB_X5 (g 0) u ((v_X5_raise M xx tt).2) w) := by
  refine Wr.of (cc := cX5_raise) (maxL := 4) (ret := (some .int)) (by decide) rfl (Nat.le_of_ble_eq_true rfl) ?_
  intro p e s m below meth c ls hx hb hr hml hown hts hlocks hP hD hS hK hl
  have hown : s.vm.findClass RX5 = some m.cls := hown
  have hinX5 : ∀ w ∈ u_ws RX5 TX5 13, w ∈ wsX5_raise := fun _ h9 => (List.mem_cons_of_mem _ (List.mem_append_right _ h9))
  obtain ⟨q, hq⟩ : ∃ q : Int32 × (Nat → Nat → Int32), q = v_X5_raise M xx tt := ⟨_, rfl⟩
  rw [← hq]
  unfold v_X5_raise at hq
  have hl : lv_has ls 4 [(0, .ref (u 0)), (1, .int xx), (2, .int tt)] := hl
  refine lv_aload_n hx hb dX5_raise_0 rfl (lv_at hl 0 rfl) ?_
  refine lv_aload_n hx hb dX5_raise_1 rfl (lv_at hl 0 rfl) ?_
  refine lv_iload_n hx hb dX5_raise_2 rfl (lv_at hl 1 rfl) ?_
  refine zcV (ci := 5) (n := 1) (c_X5_isBread l D g u M w xx) hx hb hml hown hts gX5_raise_X5_isBread rfl ⟨rfl, by decide, by decide, by decide⟩ ⟨Nat.le_of_ble_eq_true rfl, Nat.le_of_ble_eq_true rfl⟩ ⟨rfl, rfl⟩ hK hP rfl rfl rfl hl.1 rfl rfl (Nat.le_of_ble_eq_true rfl) ⟨Nat.zero_le _, Nat.zero_le _⟩ dX5_raise_3 ?_
  refine zif_ne (tgt := 13) hx hb dX5_raise_6 (by decide) (fun c_2 => ?_) (fun c_2 => ?_)
  · have hq := hq.trans (zif_t c_2)
    refine lv_iload_n hx hb dX5_raise_13 rfl (lv_at hl 2 rfl) ?_
    refine zcSO (n := 1) (c_X5_isShare l D g tt) hx hb hml hown hts gX5_raise_X5_isShare rfl ⟨by decide, by decide, by decide⟩ ⟨Nat.le_of_ble_eq_true rfl, Nat.le_of_ble_eq_true rfl⟩ ⟨rfl, rfl⟩ hK (hP.sub [] rfl) hl.1 rfl rfl (Nat.le_of_ble_eq_true rfl) ⟨Nat.zero_le _, Nat.zero_le _⟩ dX5_raise_14 ?_
    refine zif_ne (tgt := 24) hx hb dX5_raise_17 (by decide) (fun c_4 => ?_) (fun c_4 => ?_)
    · have hq := hq.trans (zif_t c_4)
      have w_5 := znat (zmb (by with_reducible assumption) (zI_B z0))
      have w_5b := w_5.2
      have hl : lv_has ls 4 [(0, .ref (u 0)), (1, .int (nI (Int32.toNatClampNeg xx))), (2, .int tt)] := by rw [← w_5.1]; exact hl
      have w_6 := znat (zmsh (by with_reducible assumption))
      have w_6b := w_6.2
      have hl : lv_has ls 4 [(0, .ref (u 0)), (1, .int (nI (Int32.toNatClampNeg xx))), (2, .int (nI (Int32.toNatClampNeg tt)))] := by rw [← w_6.1]; exact hl
      refine lv_aload_n hx hb dX5_raise_24 rfl (lv_at hl 0 rfl) ?_
      refine lv_iload_n hx hb dX5_raise_25 rfl (lv_at hl 1 rfl) ?_
      refine lv_iload_n hx hb dX5_raise_26 rfl (lv_at hl 2 rfl) ?_
      refine zcV (ci := 5) (n := 2) (c_X5_canRaise l D g u M w (Int32.toNatClampNeg xx) (nI (Int32.toNatClampNeg tt)) (by omega) (zI_G z0)) hx hb hml hown hts gX5_raise_X5_canRaise rfl ⟨rfl, by decide, by decide, by decide⟩ ⟨Nat.le_of_ble_eq_true rfl, Nat.le_of_ble_eq_true rfl⟩ ⟨rfl, rfl⟩ hK hP rfl rfl rfl hl.1 rfl rfl (Nat.le_of_ble_eq_true rfl) ⟨Nat.zero_le _, Nat.zero_le _⟩ dX5_raise_27 ?_
      refine zif_eq (tgt := 37) hx hb dX5_raise_30 (by decide) (fun c_8 => ?_) (fun c_8 => ?_)
      · have hq := hq.trans (zif_f c_8)
        refine lv_iconst (v := 3) hx hb dX5_raise_37 (by decide) ?_
        refine va_put (D := D) (ci := 5) (v := .int 3) (ty := .int) (C := RX5) (T := TX5) (N := 13) hx hb hts hinX5 tyX5 tyX5_ok nmX5 hown hK.1 hP hD hS 0 rfl rfl 5 (by decide) (hts (.fieldLink RX5 28 "SaltSharesModel" "thrown" "I") (List.mem_of_getElem? (i := 1) rfl)) (fun _ h9 => h9) rfl (by decide +kernel) rfl rfl (Nat.le_of_ble_eq_true rfl) dX5_raise_38 (fun H locs hP hD hS => ?_)
        have hP : va_P D vwCl (zB_X5 (g 0) u (zU M 5 (fun _ => 3)) w) H := hP
        have hD : va_D (zA (zB_X5 (g 0) u M w)) (zB_X5 (g 0) u (zU M 5 (fun _ => 3)) w) := hD
        refine lv_aload_n hx hb dX5_raise_41 rfl (lv_at hl 0 rfl) ?_
        refine va_get (D := D) (ci := 5) (v := .int 3) (C := RX5) (T := TX5) (N := 13) hx hb hts hinX5 hown hK.1 hP 0 rfl rfl 5 (by decide) (hts (.fieldLink RX5 28 "SaltSharesModel" "thrown" "I") (List.mem_of_getElem? (i := 1) rfl)) (fun _ h9 => h9) rfl dX5_raise_42 ?_
        refine lv_if_le (tgt := 50) hx hb dX5_raise_45 (by decide) (fun c_9 => ?_) (fun c_9 => ?_)
        · exact absurd c_9 (by decide)
        refine lv_iconst (v := 0) hx hb dX5_raise_48 (by decide) ?_
        exact zretw_i hx hb hr hlocks dX5_raise_49 hP hS (congrArg (fun z9 => z9.1) hq) (congrArg (fun z9 => zB_X5 (g 0) u z9.2 w) hq)
      · have hq := hq.trans (zif_t c_8)
        refine lv_iconst (v := 0) hx hb dX5_raise_33 (by decide) ?_
        refine lv_goto (tgt := 38) hx hb dX5_raise_34 (by decide) ?_
        refine va_put (D := D) (ci := 5) (v := .int 0) (ty := .int) (C := RX5) (T := TX5) (N := 13) hx hb hts hinX5 tyX5 tyX5_ok nmX5 hown hK.1 hP hD hS 0 rfl rfl 5 (by decide) (hts (.fieldLink RX5 28 "SaltSharesModel" "thrown" "I") (List.mem_of_getElem? (i := 1) rfl)) (fun _ h9 => h9) rfl (by decide +kernel) rfl rfl (Nat.le_of_ble_eq_true rfl) dX5_raise_38 (fun H locs hP hD hS => ?_)
        have hP : va_P D vwCl (zB_X5 (g 0) u (zU M 5 (fun _ => 0)) w) H := hP
        have hD : va_D (zA (zB_X5 (g 0) u M w)) (zB_X5 (g 0) u (zU M 5 (fun _ => 0)) w) := hD
        refine lv_aload_n hx hb dX5_raise_41 rfl (lv_at hl 0 rfl) ?_
        refine va_get (D := D) (ci := 5) (v := .int 0) (C := RX5) (T := TX5) (N := 13) hx hb hts hinX5 hown hK.1 hP 0 rfl rfl 5 (by decide) (hts (.fieldLink RX5 28 "SaltSharesModel" "thrown" "I") (List.mem_of_getElem? (i := 1) rfl)) (fun _ h9 => h9) rfl dX5_raise_42 ?_
        refine lv_if_le (tgt := 50) hx hb dX5_raise_45 (by decide) (fun c_10 => ?_) (fun c_10 => ?_)
        rotate_left
        · exact absurd c_10 (by decide)
        refine lv_aload_n hx hb dX5_raise_50 rfl (lv_at hl 0 rfl) ?_
        refine zcVw (ci := 5) (n := 0) (c_X5_save l D g u (zU M 5 (fun _ => 0)) w (zS_U z1)) hx hb hml hown hts gX5_raise_X5_save rfl ⟨rfl, by decide, by decide, by decide⟩ ⟨Nat.le_of_ble_eq_true rfl, Nat.le_of_ble_eq_true rfl⟩ ⟨rfl, rfl⟩ hK hP hD rfl rfl rfl hS hl.1 rfl rfl (Nat.le_of_ble_eq_true rfl) ⟨Nat.zero_le _, Nat.zero_le _⟩ dX5_raise_51 (fun H1 locs hP1 hk1 hS => ?_)
        have hD := zD_addr (ws' := zB_X5 (g 0) u (v_X5_save (zU M 5 (fun _ => 0))) w) hD (by simp only [zF, List.flatten_cons, List.flatten_nil, List.append_nil, List.map_append, List.map_cons, List.map_nil, zad_X0, zad_X1, zad_X2, zad_X3, zad_X4, zad_X5]); have hP := hP1
        clear hP1 hk1
        have hP : va_P D vwCl (zB_X5 (g 0) u (v_X5_save (zU M 5 (fun _ => 0))) w) H1 := hP
        have hD : va_D (zA (zB_X5 (g 0) u M w)) (zB_X5 (g 0) u (v_X5_save (zU M 5 (fun _ => 0))) w) := hD
        refine lv_aload_n hx hb dX5_raise_54 rfl (lv_at hl 0 rfl) ?_
        refine lv_iload_n hx hb dX5_raise_55 rfl (lv_at hl 1 rfl) ?_
        refine zcV (ci := 5) (n := 1) (c_X5_eaters l D g u (v_X5_save (zU M 5 (fun _ => 0))) w (Int32.toNatClampNeg xx) (by omega) (zI_G (zI_s5 z1 z0))) hx hb hml hown hts gX5_raise_X5_eaters rfl ⟨rfl, by decide, by decide, by decide⟩ ⟨Nat.le_of_ble_eq_true rfl, Nat.le_of_ble_eq_true rfl⟩ ⟨rfl, rfl⟩ hK hP rfl rfl rfl hl.1 rfl rfl (Nat.le_of_ble_eq_true rfl) ⟨Nat.zero_le _, Nat.zero_le _⟩ dX5_raise_56 ?_
        refine lv_istore_n (lv' := [(3, .int (v_X5_eaters (v_X5_save (zU M 5 (fun _ => 0))) (Int32.toNatClampNeg xx))), (0, .ref (u 0)), (1, .int (nI (Int32.toNatClampNeg xx))), (2, .int (nI (Int32.toNatClampNeg tt)))]) hx hb dX5_raise_59 rfl hl (by decide) rfl (fun ls hl => ?_)
        refine lv_aload_n hx hb dX5_raise_60 rfl (lv_at hl 1 rfl) ?_
        refine lv_iload_n hx hb dX5_raise_61 rfl (lv_at hl 2 rfl) ?_
        refine lv_iload_n hx hb dX5_raise_62 rfl (lv_at hl 3 rfl) ?_
        refine zcVw (ci := 5) (n := 2) (c_X5_setShare l D g u (v_X5_save (zU M 5 (fun _ => 0))) w (Int32.toNatClampNeg xx) (Int32.toNatClampNeg tt) (by omega) (zI_s5 z1 z0) (by omega) (zroom5 z1 z0 (by omega) (by omega) (Or.inl (by with_reducible assumption)))) hx hb hml hown hts gX5_raise_X5_setShare rfl ⟨rfl, by decide, by decide, by decide⟩ ⟨Nat.le_of_ble_eq_true rfl, Nat.le_of_ble_eq_true rfl⟩ ⟨rfl, rfl⟩ hK hP hD rfl rfl rfl hS hl.1 rfl rfl (Nat.le_of_ble_eq_true rfl) ⟨Nat.zero_le _, Nat.zero_le _⟩ dX5_raise_63 (fun H1 locs hP1 hk1 hS => ?_)
        have hD := zD_addr (ws' := zB_X5 (g 0) u (v_X5_setShare (v_X5_save (zU M 5 (fun _ => 0))) (Int32.toNatClampNeg xx) (Int32.toNatClampNeg tt)) w) hD (by simp only [zF, List.flatten_cons, List.flatten_nil, List.append_nil, List.map_append, List.map_cons, List.map_nil, zad_X0, zad_X1, zad_X2, zad_X3, zad_X4, zad_X5]); have hP := hP1
        clear hP1 hk1
        have hP : va_P D vwCl (zB_X5 (g 0) u (v_X5_setShare (v_X5_save (zU M 5 (fun _ => 0))) (Int32.toNatClampNeg xx) (Int32.toNatClampNeg tt)) w) H1 := hP
        have hD : va_D (zA (zB_X5 (g 0) u M w)) (zB_X5 (g 0) u (v_X5_setShare (v_X5_save (zU M 5 (fun _ => 0))) (Int32.toNatClampNeg xx) (Int32.toNatClampNeg tt)) w) := hD
        refine lv_aload_n hx hb dX5_raise_66 rfl (lv_at hl 1 rfl) ?_
        refine lv_iload_n hx hb dX5_raise_67 rfl (lv_at hl 2 rfl) ?_
        refine zcV (ci := 5) (n := 1) (c_X5_eaters l D g u (v_X5_setShare (v_X5_save (zU M 5 (fun _ => 0))) (Int32.toNatClampNeg xx) (Int32.toNatClampNeg tt)) w (Int32.toNatClampNeg xx) (by omega) (zI_G (zI_ss5 z1 z0 (by omega) (zmb2 (by with_reducible assumption) (zI_B z0)) (by omega) (Or.inl (by with_reducible assumption))))) hx hb hml hown hts gX5_raise_X5_eaters rfl ⟨rfl, by decide, by decide, by decide⟩ ⟨Nat.le_of_ble_eq_true rfl, Nat.le_of_ble_eq_true rfl⟩ ⟨rfl, rfl⟩ hK hP rfl rfl rfl hl.1 rfl rfl (Nat.le_of_ble_eq_true rfl) ⟨Nat.zero_le _, Nat.zero_le _⟩ dX5_raise_68 ?_
        refine lv_iload_n hx hb dX5_raise_71 rfl (lv_at hl 0 rfl) ?_
        refine lv_isub hx hb dX5_raise_72 ?_
        exact zretw_i hx hb hr hlocks dX5_raise_73 hP hS (congrArg (fun z9 => z9.1) hq) (congrArg (fun z9 => zB_X5 (g 0) u z9.2 w) hq)
    · have hq := hq.trans (zif_f c_4)
      refine lv_iconst (v := 2) hx hb dX5_raise_20 (by decide) ?_
      refine lv_goto (tgt := 38) hx hb dX5_raise_21 (by decide) ?_
      refine va_put (D := D) (ci := 5) (v := .int 2) (ty := .int) (C := RX5) (T := TX5) (N := 13) hx hb hts hinX5 tyX5 tyX5_ok nmX5 hown hK.1 hP hD hS 0 rfl rfl 5 (by decide) (hts (.fieldLink RX5 28 "SaltSharesModel" "thrown" "I") (List.mem_of_getElem? (i := 1) rfl)) (fun _ h9 => h9) rfl (by decide +kernel) rfl rfl (Nat.le_of_ble_eq_true rfl) dX5_raise_38 (fun H locs hP hD hS => ?_)
      have hP : va_P D vwCl (zB_X5 (g 0) u (zU M 5 (fun _ => 2)) w) H := hP
      have hD : va_D (zA (zB_X5 (g 0) u M w)) (zB_X5 (g 0) u (zU M 5 (fun _ => 2)) w) := hD
      refine lv_aload_n hx hb dX5_raise_41 rfl (lv_at hl 0 rfl) ?_
      refine va_get (D := D) (ci := 5) (v := .int 2) (C := RX5) (T := TX5) (N := 13) hx hb hts hinX5 hown hK.1 hP 0 rfl rfl 5 (by decide) (hts (.fieldLink RX5 28 "SaltSharesModel" "thrown" "I") (List.mem_of_getElem? (i := 1) rfl)) (fun _ h9 => h9) rfl dX5_raise_42 ?_
      refine lv_if_le (tgt := 50) hx hb dX5_raise_45 (by decide) (fun c_15 => ?_) (fun c_15 => ?_)
      · exact absurd c_15 (by decide)
      refine lv_iconst (v := 0) hx hb dX5_raise_48 (by decide) ?_
      exact zretw_i hx hb hr hlocks dX5_raise_49 hP hS (congrArg (fun z9 => z9.1) hq) (congrArg (fun z9 => zB_X5 (g 0) u z9.2 w) hq)
  · have hq := hq.trans (zif_f c_2)
    refine lv_iconst (v := 1) hx hb dX5_raise_9 (by decide) ?_
    refine lv_goto (tgt := 38) hx hb dX5_raise_10 (by decide) ?_
    refine va_put (D := D) (ci := 5) (v := .int 1) (ty := .int) (C := RX5) (T := TX5) (N := 13) hx hb hts hinX5 tyX5 tyX5_ok nmX5 hown hK.1 hP hD hS 0 rfl rfl 5 (by decide) (hts (.fieldLink RX5 28 "SaltSharesModel" "thrown" "I") (List.mem_of_getElem? (i := 1) rfl)) (fun _ h9 => h9) rfl (by decide +kernel) rfl rfl (Nat.le_of_ble_eq_true rfl) dX5_raise_38 (fun H locs hP hD hS => ?_)
    have hP : va_P D vwCl (zB_X5 (g 0) u (zU M 5 (fun _ => 1)) w) H := hP
    have hD : va_D (zA (zB_X5 (g 0) u M w)) (zB_X5 (g 0) u (zU M 5 (fun _ => 1)) w) := hD
    refine lv_aload_n hx hb dX5_raise_41 rfl (lv_at hl 0 rfl) ?_
    refine va_get (D := D) (ci := 5) (v := .int 1) (C := RX5) (T := TX5) (N := 13) hx hb hts hinX5 hown hK.1 hP 0 rfl rfl 5 (by decide) (hts (.fieldLink RX5 28 "SaltSharesModel" "thrown" "I") (List.mem_of_getElem? (i := 1) rfl)) (fun _ h9 => h9) rfl dX5_raise_42 ?_
    refine lv_if_le (tgt := 50) hx hb dX5_raise_45 (by decide) (fun c_16 => ?_) (fun c_16 => ?_)
    · exact absurd c_16 (by decide)
    refine lv_iconst (v := 0) hx hb dX5_raise_48 (by decide) ?_
    exact zretw_i hx hb hr hlocks dX5_raise_49 hP hS (congrArg (fun z9 => z9.1) hq) (congrArg (fun z9 => zB_X5 (g 0) u z9.2 w) hq)
def v_X5_lower (M : Nat → Nat → Int32) (xx : Int32) (tt : Int32) : Int32 × (Nat → Nat → Int32) := (if (v_X5_isBread M xx) = true then (if (v_X5_isShare tt) = true then (if (v_X5_canLower M (Int32.toNatClampNeg xx) (nI (Int32.toNatClampNeg tt))) = true then (((v_X5_eaters (v_X5_save (zU M 5 (fun _ => 0))) (Int32.toNatClampNeg xx)) - (v_X5_eaters (v_X5_setShare (v_X5_save (zU M 5 (fun _ => 0))) (Int32.toNatClampNeg xx) (Int32.toNatClampNeg tt)) (Int32.toNatClampNeg xx))), v_X5_setShare (v_X5_save (zU M 5 (fun _ => 0))) (Int32.toNatClampNeg xx) (Int32.toNatClampNeg tt)) else (0, zU M 5 (fun _ => 3))) else (0, zU M 5 (fun _ => 2))) else (0, zU M 5 (fun _ => 1)))
set_option maxHeartbeats 400000 in
set_option maxRecDepth 100000 in
theorem c_X5_lower (l : Launch) (D : va_G) (g : Nat → ClassId) (u : Nat → Nat) (M : Nat → Nat → Int32) (w : Int64) (xx : Int32) (tt : Int32) (z0 : zI M) (z1 : vp_in (M 1 0) 7) : Wr l D (zT g) yX5_lower wsX5_lower (rmOf 5 111) [.ref (u 0), .int xx, .int tt] (zB_X5 (g 0) u M w) (some (.int ((v_X5_lower M xx tt).1))) (zB_X5 (g 0) u ((v_X5_lower M xx tt).2) w) := by
  refine Wr.of (cc := cX5_lower) (maxL := 4) (ret := (some .int)) (by decide) rfl (Nat.le_of_ble_eq_true rfl) ?_
  intro p e s m below meth c ls hx hb hr hml hown hts hlocks hP hD hS hK hl
  have hown : s.vm.findClass RX5 = some m.cls := hown
  have hinX5 : ∀ w ∈ u_ws RX5 TX5 13, w ∈ wsX5_lower := fun _ h9 => (List.mem_cons_of_mem _ (List.mem_append_right _ h9))
  obtain ⟨q, hq⟩ : ∃ q : Int32 × (Nat → Nat → Int32), q = v_X5_lower M xx tt := ⟨_, rfl⟩
  rw [← hq]
  unfold v_X5_lower at hq
  have hl : lv_has ls 4 [(0, .ref (u 0)), (1, .int xx), (2, .int tt)] := hl
  refine lv_aload_n hx hb dX5_lower_0 rfl (lv_at hl 0 rfl) ?_
  refine lv_aload_n hx hb dX5_lower_1 rfl (lv_at hl 0 rfl) ?_
  refine lv_iload_n hx hb dX5_lower_2 rfl (lv_at hl 1 rfl) ?_
  refine zcV (ci := 5) (n := 1) (c_X5_isBread l D g u M w xx) hx hb hml hown hts gX5_lower_X5_isBread rfl ⟨rfl, by decide, by decide, by decide⟩ ⟨Nat.le_of_ble_eq_true rfl, Nat.le_of_ble_eq_true rfl⟩ ⟨rfl, rfl⟩ hK hP rfl rfl rfl hl.1 rfl rfl (Nat.le_of_ble_eq_true rfl) ⟨Nat.zero_le _, Nat.zero_le _⟩ dX5_lower_3 ?_
  refine zif_ne (tgt := 13) hx hb dX5_lower_6 (by decide) (fun c_2 => ?_) (fun c_2 => ?_)
  · have hq := hq.trans (zif_t c_2)
    refine lv_iload_n hx hb dX5_lower_13 rfl (lv_at hl 2 rfl) ?_
    refine zcSO (n := 1) (c_X5_isShare l D g tt) hx hb hml hown hts gX5_lower_X5_isShare rfl ⟨by decide, by decide, by decide⟩ ⟨Nat.le_of_ble_eq_true rfl, Nat.le_of_ble_eq_true rfl⟩ ⟨rfl, rfl⟩ hK (hP.sub [] rfl) hl.1 rfl rfl (Nat.le_of_ble_eq_true rfl) ⟨Nat.zero_le _, Nat.zero_le _⟩ dX5_lower_14 ?_
    refine zif_ne (tgt := 24) hx hb dX5_lower_17 (by decide) (fun c_4 => ?_) (fun c_4 => ?_)
    · have hq := hq.trans (zif_t c_4)
      have w_5 := znat (zmb (by with_reducible assumption) (zI_B z0))
      have w_5b := w_5.2
      have hl : lv_has ls 4 [(0, .ref (u 0)), (1, .int (nI (Int32.toNatClampNeg xx))), (2, .int tt)] := by rw [← w_5.1]; exact hl
      have w_6 := znat (zmsh (by with_reducible assumption))
      have w_6b := w_6.2
      have hl : lv_has ls 4 [(0, .ref (u 0)), (1, .int (nI (Int32.toNatClampNeg xx))), (2, .int (nI (Int32.toNatClampNeg tt)))] := by rw [← w_6.1]; exact hl
      refine lv_aload_n hx hb dX5_lower_24 rfl (lv_at hl 0 rfl) ?_
      refine lv_iload_n hx hb dX5_lower_25 rfl (lv_at hl 1 rfl) ?_
      refine lv_iload_n hx hb dX5_lower_26 rfl (lv_at hl 2 rfl) ?_
      refine zcV (ci := 5) (n := 2) (c_X5_canLower l D g u M w (Int32.toNatClampNeg xx) (nI (Int32.toNatClampNeg tt)) (by omega)) hx hb hml hown hts gX5_lower_X5_canLower rfl ⟨rfl, by decide, by decide, by decide⟩ ⟨Nat.le_of_ble_eq_true rfl, Nat.le_of_ble_eq_true rfl⟩ ⟨rfl, rfl⟩ hK hP rfl rfl rfl hl.1 rfl rfl (Nat.le_of_ble_eq_true rfl) ⟨Nat.zero_le _, Nat.zero_le _⟩ dX5_lower_27 ?_
      refine zif_eq (tgt := 37) hx hb dX5_lower_30 (by decide) (fun c_8 => ?_) (fun c_8 => ?_)
      · have hq := hq.trans (zif_f c_8)
        refine lv_iconst (v := 3) hx hb dX5_lower_37 (by decide) ?_
        refine va_put (D := D) (ci := 5) (v := .int 3) (ty := .int) (C := RX5) (T := TX5) (N := 13) hx hb hts hinX5 tyX5 tyX5_ok nmX5 hown hK.1 hP hD hS 0 rfl rfl 5 (by decide) (hts (.fieldLink RX5 28 "SaltSharesModel" "thrown" "I") (List.mem_of_getElem? (i := 1) rfl)) (fun _ h9 => h9) rfl (by decide +kernel) rfl rfl (Nat.le_of_ble_eq_true rfl) dX5_lower_38 (fun H locs hP hD hS => ?_)
        have hP : va_P D vwCl (zB_X5 (g 0) u (zU M 5 (fun _ => 3)) w) H := hP
        have hD : va_D (zA (zB_X5 (g 0) u M w)) (zB_X5 (g 0) u (zU M 5 (fun _ => 3)) w) := hD
        refine lv_aload_n hx hb dX5_lower_41 rfl (lv_at hl 0 rfl) ?_
        refine va_get (D := D) (ci := 5) (v := .int 3) (C := RX5) (T := TX5) (N := 13) hx hb hts hinX5 hown hK.1 hP 0 rfl rfl 5 (by decide) (hts (.fieldLink RX5 28 "SaltSharesModel" "thrown" "I") (List.mem_of_getElem? (i := 1) rfl)) (fun _ h9 => h9) rfl dX5_lower_42 ?_
        refine lv_if_le (tgt := 50) hx hb dX5_lower_45 (by decide) (fun c_9 => ?_) (fun c_9 => ?_)
        · exact absurd c_9 (by decide)
        refine lv_iconst (v := 0) hx hb dX5_lower_48 (by decide) ?_
        exact zretw_i hx hb hr hlocks dX5_lower_49 hP hS (congrArg (fun z9 => z9.1) hq) (congrArg (fun z9 => zB_X5 (g 0) u z9.2 w) hq)
      · have hq := hq.trans (zif_t c_8)
        refine lv_iconst (v := 0) hx hb dX5_lower_33 (by decide) ?_
        refine lv_goto (tgt := 38) hx hb dX5_lower_34 (by decide) ?_
        refine va_put (D := D) (ci := 5) (v := .int 0) (ty := .int) (C := RX5) (T := TX5) (N := 13) hx hb hts hinX5 tyX5 tyX5_ok nmX5 hown hK.1 hP hD hS 0 rfl rfl 5 (by decide) (hts (.fieldLink RX5 28 "SaltSharesModel" "thrown" "I") (List.mem_of_getElem? (i := 1) rfl)) (fun _ h9 => h9) rfl (by decide +kernel) rfl rfl (Nat.le_of_ble_eq_true rfl) dX5_lower_38 (fun H locs hP hD hS => ?_)
        have hP : va_P D vwCl (zB_X5 (g 0) u (zU M 5 (fun _ => 0)) w) H := hP
        have hD : va_D (zA (zB_X5 (g 0) u M w)) (zB_X5 (g 0) u (zU M 5 (fun _ => 0)) w) := hD
        refine lv_aload_n hx hb dX5_lower_41 rfl (lv_at hl 0 rfl) ?_
        refine va_get (D := D) (ci := 5) (v := .int 0) (C := RX5) (T := TX5) (N := 13) hx hb hts hinX5 hown hK.1 hP 0 rfl rfl 5 (by decide) (hts (.fieldLink RX5 28 "SaltSharesModel" "thrown" "I") (List.mem_of_getElem? (i := 1) rfl)) (fun _ h9 => h9) rfl dX5_lower_42 ?_
        refine lv_if_le (tgt := 50) hx hb dX5_lower_45 (by decide) (fun c_10 => ?_) (fun c_10 => ?_)
        rotate_left
        · exact absurd c_10 (by decide)
        refine lv_aload_n hx hb dX5_lower_50 rfl (lv_at hl 0 rfl) ?_
        refine zcVw (ci := 5) (n := 0) (c_X5_save l D g u (zU M 5 (fun _ => 0)) w (zS_U z1)) hx hb hml hown hts gX5_lower_X5_save rfl ⟨rfl, by decide, by decide, by decide⟩ ⟨Nat.le_of_ble_eq_true rfl, Nat.le_of_ble_eq_true rfl⟩ ⟨rfl, rfl⟩ hK hP hD rfl rfl rfl hS hl.1 rfl rfl (Nat.le_of_ble_eq_true rfl) ⟨Nat.zero_le _, Nat.zero_le _⟩ dX5_lower_51 (fun H1 locs hP1 hk1 hS => ?_)
        have hD := zD_addr (ws' := zB_X5 (g 0) u (v_X5_save (zU M 5 (fun _ => 0))) w) hD (by simp only [zF, List.flatten_cons, List.flatten_nil, List.append_nil, List.map_append, List.map_cons, List.map_nil, zad_X0, zad_X1, zad_X2, zad_X3, zad_X4, zad_X5]); have hP := hP1
        clear hP1 hk1
        have hP : va_P D vwCl (zB_X5 (g 0) u (v_X5_save (zU M 5 (fun _ => 0))) w) H1 := hP
        have hD : va_D (zA (zB_X5 (g 0) u M w)) (zB_X5 (g 0) u (v_X5_save (zU M 5 (fun _ => 0))) w) := hD
        refine lv_aload_n hx hb dX5_lower_54 rfl (lv_at hl 0 rfl) ?_
        refine lv_iload_n hx hb dX5_lower_55 rfl (lv_at hl 1 rfl) ?_
        refine zcV (ci := 5) (n := 1) (c_X5_eaters l D g u (v_X5_save (zU M 5 (fun _ => 0))) w (Int32.toNatClampNeg xx) (by omega) (zI_G (zI_s5 z1 z0))) hx hb hml hown hts gX5_lower_X5_eaters rfl ⟨rfl, by decide, by decide, by decide⟩ ⟨Nat.le_of_ble_eq_true rfl, Nat.le_of_ble_eq_true rfl⟩ ⟨rfl, rfl⟩ hK hP rfl rfl rfl hl.1 rfl rfl (Nat.le_of_ble_eq_true rfl) ⟨Nat.zero_le _, Nat.zero_le _⟩ dX5_lower_56 ?_
        refine lv_istore_n (lv' := [(3, .int (v_X5_eaters (v_X5_save (zU M 5 (fun _ => 0))) (Int32.toNatClampNeg xx))), (0, .ref (u 0)), (1, .int (nI (Int32.toNatClampNeg xx))), (2, .int (nI (Int32.toNatClampNeg tt)))]) hx hb dX5_lower_59 rfl hl (by decide) rfl (fun ls hl => ?_)
        refine lv_aload_n hx hb dX5_lower_60 rfl (lv_at hl 1 rfl) ?_
        refine lv_iload_n hx hb dX5_lower_61 rfl (lv_at hl 2 rfl) ?_
        refine lv_iload_n hx hb dX5_lower_62 rfl (lv_at hl 3 rfl) ?_
        refine zcVw (ci := 5) (n := 2) (c_X5_setShare l D g u (v_X5_save (zU M 5 (fun _ => 0))) w (Int32.toNatClampNeg xx) (Int32.toNatClampNeg tt) (by omega) (zI_s5 z1 z0) (by omega) (zroom5 z1 z0 (by omega) (by omega) (Or.inr (by with_reducible assumption)))) hx hb hml hown hts gX5_lower_X5_setShare rfl ⟨rfl, by decide, by decide, by decide⟩ ⟨Nat.le_of_ble_eq_true rfl, Nat.le_of_ble_eq_true rfl⟩ ⟨rfl, rfl⟩ hK hP hD rfl rfl rfl hS hl.1 rfl rfl (Nat.le_of_ble_eq_true rfl) ⟨Nat.zero_le _, Nat.zero_le _⟩ dX5_lower_63 (fun H1 locs hP1 hk1 hS => ?_)
        have hD := zD_addr (ws' := zB_X5 (g 0) u (v_X5_setShare (v_X5_save (zU M 5 (fun _ => 0))) (Int32.toNatClampNeg xx) (Int32.toNatClampNeg tt)) w) hD (by simp only [zF, List.flatten_cons, List.flatten_nil, List.append_nil, List.map_append, List.map_cons, List.map_nil, zad_X0, zad_X1, zad_X2, zad_X3, zad_X4, zad_X5]); have hP := hP1
        clear hP1 hk1
        have hP : va_P D vwCl (zB_X5 (g 0) u (v_X5_setShare (v_X5_save (zU M 5 (fun _ => 0))) (Int32.toNatClampNeg xx) (Int32.toNatClampNeg tt)) w) H1 := hP
        have hD : va_D (zA (zB_X5 (g 0) u M w)) (zB_X5 (g 0) u (v_X5_setShare (v_X5_save (zU M 5 (fun _ => 0))) (Int32.toNatClampNeg xx) (Int32.toNatClampNeg tt)) w) := hD
        refine lv_iload_n hx hb dX5_lower_66 rfl (lv_at hl 0 rfl) ?_
        refine lv_aload_n hx hb dX5_lower_67 rfl (lv_at hl 1 rfl) ?_
        refine lv_iload_n hx hb dX5_lower_68 rfl (lv_at hl 2 rfl) ?_
        refine zcV (ci := 5) (n := 1) (c_X5_eaters l D g u (v_X5_setShare (v_X5_save (zU M 5 (fun _ => 0))) (Int32.toNatClampNeg xx) (Int32.toNatClampNeg tt)) w (Int32.toNatClampNeg xx) (by omega) (zI_G (zI_ss5 z1 z0 (by omega) (zmb2 (by with_reducible assumption) (zI_B z0)) (by omega) (Or.inr (by with_reducible assumption))))) hx hb hml hown hts gX5_lower_X5_eaters rfl ⟨rfl, by decide, by decide, by decide⟩ ⟨Nat.le_of_ble_eq_true rfl, Nat.le_of_ble_eq_true rfl⟩ ⟨rfl, rfl⟩ hK hP rfl rfl rfl hl.1 rfl rfl (Nat.le_of_ble_eq_true rfl) ⟨Nat.zero_le _, Nat.zero_le _⟩ dX5_lower_69 ?_
        refine lv_isub hx hb dX5_lower_72 ?_
        exact zretw_i hx hb hr hlocks dX5_lower_73 hP hS (congrArg (fun z9 => z9.1) hq) (congrArg (fun z9 => zB_X5 (g 0) u z9.2 w) hq)
    · have hq := hq.trans (zif_f c_4)
      refine lv_iconst (v := 2) hx hb dX5_lower_20 (by decide) ?_
      refine lv_goto (tgt := 38) hx hb dX5_lower_21 (by decide) ?_
      refine va_put (D := D) (ci := 5) (v := .int 2) (ty := .int) (C := RX5) (T := TX5) (N := 13) hx hb hts hinX5 tyX5 tyX5_ok nmX5 hown hK.1 hP hD hS 0 rfl rfl 5 (by decide) (hts (.fieldLink RX5 28 "SaltSharesModel" "thrown" "I") (List.mem_of_getElem? (i := 1) rfl)) (fun _ h9 => h9) rfl (by decide +kernel) rfl rfl (Nat.le_of_ble_eq_true rfl) dX5_lower_38 (fun H locs hP hD hS => ?_)
      have hP : va_P D vwCl (zB_X5 (g 0) u (zU M 5 (fun _ => 2)) w) H := hP
      have hD : va_D (zA (zB_X5 (g 0) u M w)) (zB_X5 (g 0) u (zU M 5 (fun _ => 2)) w) := hD
      refine lv_aload_n hx hb dX5_lower_41 rfl (lv_at hl 0 rfl) ?_
      refine va_get (D := D) (ci := 5) (v := .int 2) (C := RX5) (T := TX5) (N := 13) hx hb hts hinX5 hown hK.1 hP 0 rfl rfl 5 (by decide) (hts (.fieldLink RX5 28 "SaltSharesModel" "thrown" "I") (List.mem_of_getElem? (i := 1) rfl)) (fun _ h9 => h9) rfl dX5_lower_42 ?_
      refine lv_if_le (tgt := 50) hx hb dX5_lower_45 (by decide) (fun c_15 => ?_) (fun c_15 => ?_)
      · exact absurd c_15 (by decide)
      refine lv_iconst (v := 0) hx hb dX5_lower_48 (by decide) ?_
      exact zretw_i hx hb hr hlocks dX5_lower_49 hP hS (congrArg (fun z9 => z9.1) hq) (congrArg (fun z9 => zB_X5 (g 0) u z9.2 w) hq)
  · have hq := hq.trans (zif_f c_2)
    refine lv_iconst (v := 1) hx hb dX5_lower_9 (by decide) ?_
    refine lv_goto (tgt := 38) hx hb dX5_lower_10 (by decide) ?_
    refine va_put (D := D) (ci := 5) (v := .int 1) (ty := .int) (C := RX5) (T := TX5) (N := 13) hx hb hts hinX5 tyX5 tyX5_ok nmX5 hown hK.1 hP hD hS 0 rfl rfl 5 (by decide) (hts (.fieldLink RX5 28 "SaltSharesModel" "thrown" "I") (List.mem_of_getElem? (i := 1) rfl)) (fun _ h9 => h9) rfl (by decide +kernel) rfl rfl (Nat.le_of_ble_eq_true rfl) dX5_lower_38 (fun H locs hP hD hS => ?_)
    have hP : va_P D vwCl (zB_X5 (g 0) u (zU M 5 (fun _ => 1)) w) H := hP
    have hD : va_D (zA (zB_X5 (g 0) u M w)) (zB_X5 (g 0) u (zU M 5 (fun _ => 1)) w) := hD
    refine lv_aload_n hx hb dX5_lower_41 rfl (lv_at hl 0 rfl) ?_
    refine va_get (D := D) (ci := 5) (v := .int 1) (C := RX5) (T := TX5) (N := 13) hx hb hts hinX5 hown hK.1 hP 0 rfl rfl 5 (by decide) (hts (.fieldLink RX5 28 "SaltSharesModel" "thrown" "I") (List.mem_of_getElem? (i := 1) rfl)) (fun _ h9 => h9) rfl dX5_lower_42 ?_
    refine lv_if_le (tgt := 50) hx hb dX5_lower_45 (by decide) (fun c_16 => ?_) (fun c_16 => ?_)
    · exact absurd c_16 (by decide)
    refine lv_iconst (v := 0) hx hb dX5_lower_48 (by decide) ?_
    exact zretw_i hx hb hr hlocks dX5_lower_49 hP hS (congrArg (fun z9 => z9.1) hq) (congrArg (fun z9 => zB_X5 (g 0) u z9.2 w) hq)
def v_X5_resalt (M : Nat → Nat → Int32) (xx : Int32) (sal : Int32) : Int32 × (Nat → Nat → Int32) := (if (v_X5_isBread M xx) = true then (if (v_X5_isSalt sal) = true then (if (v_X5_hasOwnSalt M (Int32.toNatClampNeg xx)) = true then ((v_X5_changed (v_X5_put (v_X5_layAhead (v_X5_save (zU M 5 (fun _ => 0))) (Int32.toNatClampNeg xx)) (Int32.toNatClampNeg xx) 2 sal) (Int32.toNatClampNeg xx)), v_X5_put (v_X5_layAhead (v_X5_save (zU M 5 (fun _ => 0))) (Int32.toNatClampNeg xx)) (Int32.toNatClampNeg xx) 2 sal) else (0, zU M 5 (fun _ => 3))) else (0, zU M 5 (fun _ => 2))) else (0, zU M 5 (fun _ => 1)))
set_option maxHeartbeats 400000 in
set_option maxRecDepth 100000 in
theorem c_X5_resalt (l : Launch) (D : va_G) (g : Nat → ClassId) (u : Nat → Nat) (M : Nat → Nat → Int32) (w : Int64) (xx : Int32) (sal : Int32) (z0 : zI M) (z1 : vp_in (M 1 0) 7) : Wr l D (zT g) yX5_resalt wsX5_resalt (rmOf 5 111) [.ref (u 0), .int xx, .int sal] (zB_X5 (g 0) u M w) (some (.int ((v_X5_resalt M xx sal).1))) (zB_X5 (g 0) u ((v_X5_resalt M xx sal).2) w) := by
  refine Wr.of (cc := cX5_resalt) (maxL := 3) (ret := (some .int)) (by decide) rfl (Nat.le_of_ble_eq_true rfl) ?_
  intro p e s m below meth c ls hx hb hr hml hown hts hlocks hP hD hS hK hl
  have hown : s.vm.findClass RX5 = some m.cls := hown
  have hinX5 : ∀ w ∈ u_ws RX5 TX5 13, w ∈ wsX5_resalt := fun _ h9 => (List.mem_cons_of_mem _ (List.mem_append_right _ h9))
  obtain ⟨q, hq⟩ : ∃ q : Int32 × (Nat → Nat → Int32), q = v_X5_resalt M xx sal := ⟨_, rfl⟩
  rw [← hq]
  unfold v_X5_resalt at hq
  have hl : lv_has ls 3 [(0, .ref (u 0)), (1, .int xx), (2, .int sal)] := hl
  refine lv_aload_n hx hb dX5_resalt_0 rfl (lv_at hl 0 rfl) ?_
  refine lv_aload_n hx hb dX5_resalt_1 rfl (lv_at hl 0 rfl) ?_
  refine lv_iload_n hx hb dX5_resalt_2 rfl (lv_at hl 1 rfl) ?_
  refine zcV (ci := 5) (n := 1) (c_X5_isBread l D g u M w xx) hx hb hml hown hts gX5_resalt_X5_isBread rfl ⟨rfl, by decide, by decide, by decide⟩ ⟨Nat.le_of_ble_eq_true rfl, Nat.le_of_ble_eq_true rfl⟩ ⟨rfl, rfl⟩ hK hP rfl rfl rfl hl.1 rfl rfl (Nat.le_of_ble_eq_true rfl) ⟨Nat.zero_le _, Nat.zero_le _⟩ dX5_resalt_3 ?_
  refine zif_ne (tgt := 13) hx hb dX5_resalt_6 (by decide) (fun c_2 => ?_) (fun c_2 => ?_)
  · have hq := hq.trans (zif_t c_2)
    refine lv_iload_n hx hb dX5_resalt_13 rfl (lv_at hl 2 rfl) ?_
    refine zcSO (n := 1) (c_X5_isSalt l D g sal) hx hb hml hown hts gX5_resalt_X5_isSalt rfl ⟨by decide, by decide, by decide⟩ ⟨Nat.le_of_ble_eq_true rfl, Nat.le_of_ble_eq_true rfl⟩ ⟨rfl, rfl⟩ hK (hP.sub [] rfl) hl.1 rfl rfl (Nat.le_of_ble_eq_true rfl) ⟨Nat.zero_le _, Nat.zero_le _⟩ dX5_resalt_14 ?_
    refine zif_ne (tgt := 24) hx hb dX5_resalt_17 (by decide) (fun c_4 => ?_) (fun c_4 => ?_)
    · have hq := hq.trans (zif_t c_4)
      have w_5 := znat (zmb (by with_reducible assumption) (zI_B z0))
      have w_5b := w_5.2
      have hl : lv_has ls 3 [(0, .ref (u 0)), (1, .int (nI (Int32.toNatClampNeg xx))), (2, .int sal)] := by rw [← w_5.1]; exact hl
      refine lv_aload_n hx hb dX5_resalt_24 rfl (lv_at hl 0 rfl) ?_
      refine lv_iload_n hx hb dX5_resalt_25 rfl (lv_at hl 1 rfl) ?_
      refine zcV (ci := 5) (n := 1) (c_X5_hasOwnSalt l D g u M w (Int32.toNatClampNeg xx) (by omega)) hx hb hml hown hts gX5_resalt_X5_hasOwnSalt rfl ⟨rfl, by decide, by decide, by decide⟩ ⟨Nat.le_of_ble_eq_true rfl, Nat.le_of_ble_eq_true rfl⟩ ⟨rfl, rfl⟩ hK hP rfl rfl rfl hl.1 rfl rfl (Nat.le_of_ble_eq_true rfl) ⟨Nat.zero_le _, Nat.zero_le _⟩ dX5_resalt_26 ?_
      refine zif_eq (tgt := 36) hx hb dX5_resalt_29 (by decide) (fun c_7 => ?_) (fun c_7 => ?_)
      · have hq := hq.trans (zif_f c_7)
        refine lv_iconst (v := 3) hx hb dX5_resalt_36 (by decide) ?_
        refine va_put (D := D) (ci := 5) (v := .int 3) (ty := .int) (C := RX5) (T := TX5) (N := 13) hx hb hts hinX5 tyX5 tyX5_ok nmX5 hown hK.1 hP hD hS 0 rfl rfl 5 (by decide) (hts (.fieldLink RX5 28 "SaltSharesModel" "thrown" "I") (List.mem_of_getElem? (i := 1) rfl)) (fun _ h9 => h9) rfl (by decide +kernel) rfl rfl (Nat.le_of_ble_eq_true rfl) dX5_resalt_37 (fun H locs hP hD hS => ?_)
        have hP : va_P D vwCl (zB_X5 (g 0) u (zU M 5 (fun _ => 3)) w) H := hP
        have hD : va_D (zA (zB_X5 (g 0) u M w)) (zB_X5 (g 0) u (zU M 5 (fun _ => 3)) w) := hD
        refine lv_aload_n hx hb dX5_resalt_40 rfl (lv_at hl 0 rfl) ?_
        refine va_get (D := D) (ci := 5) (v := .int 3) (C := RX5) (T := TX5) (N := 13) hx hb hts hinX5 hown hK.1 hP 0 rfl rfl 5 (by decide) (hts (.fieldLink RX5 28 "SaltSharesModel" "thrown" "I") (List.mem_of_getElem? (i := 1) rfl)) (fun _ h9 => h9) rfl dX5_resalt_41 ?_
        refine lv_if_le (tgt := 49) hx hb dX5_resalt_44 (by decide) (fun c_8 => ?_) (fun c_8 => ?_)
        · exact absurd c_8 (by decide)
        refine lv_iconst (v := 0) hx hb dX5_resalt_47 (by decide) ?_
        exact zretw_i hx hb hr hlocks dX5_resalt_48 hP hS (congrArg (fun z9 => z9.1) hq) (congrArg (fun z9 => zB_X5 (g 0) u z9.2 w) hq)
      · have hq := hq.trans (zif_t c_7)
        refine lv_iconst (v := 0) hx hb dX5_resalt_32 (by decide) ?_
        refine lv_goto (tgt := 37) hx hb dX5_resalt_33 (by decide) ?_
        refine va_put (D := D) (ci := 5) (v := .int 0) (ty := .int) (C := RX5) (T := TX5) (N := 13) hx hb hts hinX5 tyX5 tyX5_ok nmX5 hown hK.1 hP hD hS 0 rfl rfl 5 (by decide) (hts (.fieldLink RX5 28 "SaltSharesModel" "thrown" "I") (List.mem_of_getElem? (i := 1) rfl)) (fun _ h9 => h9) rfl (by decide +kernel) rfl rfl (Nat.le_of_ble_eq_true rfl) dX5_resalt_37 (fun H locs hP hD hS => ?_)
        have hP : va_P D vwCl (zB_X5 (g 0) u (zU M 5 (fun _ => 0)) w) H := hP
        have hD : va_D (zA (zB_X5 (g 0) u M w)) (zB_X5 (g 0) u (zU M 5 (fun _ => 0)) w) := hD
        refine lv_aload_n hx hb dX5_resalt_40 rfl (lv_at hl 0 rfl) ?_
        refine va_get (D := D) (ci := 5) (v := .int 0) (C := RX5) (T := TX5) (N := 13) hx hb hts hinX5 hown hK.1 hP 0 rfl rfl 5 (by decide) (hts (.fieldLink RX5 28 "SaltSharesModel" "thrown" "I") (List.mem_of_getElem? (i := 1) rfl)) (fun _ h9 => h9) rfl dX5_resalt_41 ?_
        refine lv_if_le (tgt := 49) hx hb dX5_resalt_44 (by decide) (fun c_9 => ?_) (fun c_9 => ?_)
        rotate_left
        · exact absurd c_9 (by decide)
        refine lv_aload_n hx hb dX5_resalt_49 rfl (lv_at hl 0 rfl) ?_
        refine zcVw (ci := 5) (n := 0) (c_X5_save l D g u (zU M 5 (fun _ => 0)) w (zS_U z1)) hx hb hml hown hts gX5_resalt_X5_save rfl ⟨rfl, by decide, by decide, by decide⟩ ⟨Nat.le_of_ble_eq_true rfl, Nat.le_of_ble_eq_true rfl⟩ ⟨rfl, rfl⟩ hK hP hD rfl rfl rfl hS hl.1 rfl rfl (Nat.le_of_ble_eq_true rfl) ⟨Nat.zero_le _, Nat.zero_le _⟩ dX5_resalt_50 (fun H1 locs hP1 hk1 hS => ?_)
        have hD := zD_addr (ws' := zB_X5 (g 0) u (v_X5_save (zU M 5 (fun _ => 0))) w) hD (by simp only [zF, List.flatten_cons, List.flatten_nil, List.append_nil, List.map_append, List.map_cons, List.map_nil, zad_X0, zad_X1, zad_X2, zad_X3, zad_X4, zad_X5]); have hP := hP1
        clear hP1 hk1
        have hP : va_P D vwCl (zB_X5 (g 0) u (v_X5_save (zU M 5 (fun _ => 0))) w) H1 := hP
        have hD : va_D (zA (zB_X5 (g 0) u M w)) (zB_X5 (g 0) u (v_X5_save (zU M 5 (fun _ => 0))) w) := hD
        refine lv_aload_n hx hb dX5_resalt_53 rfl (lv_at hl 0 rfl) ?_
        refine lv_iload_n hx hb dX5_resalt_54 rfl (lv_at hl 1 rfl) ?_
        refine zcVw (ci := 5) (n := 1) (c_X5_layAhead l D g u (v_X5_save (zU M 5 (fun _ => 0))) w (Int32.toNatClampNeg xx) (by omega) (zI_s5 z1 z0)) hx hb hml hown hts gX5_resalt_X5_layAhead rfl ⟨rfl, by decide, by decide, by decide⟩ ⟨Nat.le_of_ble_eq_true rfl, Nat.le_of_ble_eq_true rfl⟩ ⟨rfl, rfl⟩ hK hP hD rfl rfl rfl hS hl.1 rfl rfl (Nat.le_of_ble_eq_true rfl) ⟨Nat.zero_le _, Nat.zero_le _⟩ dX5_resalt_55 (fun H1 locs hP1 hk1 hS => ?_)
        have hD := zD_addr (ws' := zB_X5 (g 0) u (v_X5_layAhead (v_X5_save (zU M 5 (fun _ => 0))) (Int32.toNatClampNeg xx)) w) hD (by simp only [zF, List.flatten_cons, List.flatten_nil, List.append_nil, List.map_append, List.map_cons, List.map_nil, zad_X0, zad_X1, zad_X2, zad_X3, zad_X4, zad_X5]); have hP := hP1
        clear hP1 hk1
        have hP : va_P D vwCl (zB_X5 (g 0) u (v_X5_layAhead (v_X5_save (zU M 5 (fun _ => 0))) (Int32.toNatClampNeg xx)) w) H1 := hP
        have hD : va_D (zA (zB_X5 (g 0) u M w)) (zB_X5 (g 0) u (v_X5_layAhead (v_X5_save (zU M 5 (fun _ => 0))) (Int32.toNatClampNeg xx)) w) := hD
        refine lv_aload_n hx hb dX5_resalt_58 rfl (lv_at hl 0 rfl) ?_
        refine lv_iload_n hx hb dX5_resalt_59 rfl (lv_at hl 1 rfl) ?_
        refine lv_iconst (v := 2) hx hb dX5_resalt_60 (by decide) ?_
        refine lv_iload_n hx hb dX5_resalt_61 rfl (lv_at hl 2 rfl) ?_
        refine zcVw (ci := 5) (n := 3) (c_X5_put l D g u (v_X5_layAhead (v_X5_save (zU M 5 (fun _ => 0))) (Int32.toNatClampNeg xx)) w (Int32.toNatClampNeg xx) 2 sal (by omega)) hx hb hml hown hts gX5_resalt_X5_put rfl ⟨rfl, by decide, by decide, by decide⟩ ⟨Nat.le_of_ble_eq_true rfl, Nat.le_of_ble_eq_true rfl⟩ ⟨rfl, rfl⟩ hK hP hD rfl rfl rfl hS hl.1 rfl rfl (Nat.le_of_ble_eq_true rfl) ⟨Nat.zero_le _, Nat.zero_le _⟩ dX5_resalt_62 (fun H1 locs hP1 hk1 hS => ?_)
        have hD := zD_addr (ws' := zB_X5 (g 0) u (v_X5_put (v_X5_layAhead (v_X5_save (zU M 5 (fun _ => 0))) (Int32.toNatClampNeg xx)) (Int32.toNatClampNeg xx) 2 sal) w) hD (by simp only [zF, List.flatten_cons, List.flatten_nil, List.append_nil, List.map_append, List.map_cons, List.map_nil, zad_X0, zad_X1, zad_X2, zad_X3, zad_X4, zad_X5]); have hP := hP1
        clear hP1 hk1
        have hP : va_P D vwCl (zB_X5 (g 0) u (v_X5_put (v_X5_layAhead (v_X5_save (zU M 5 (fun _ => 0))) (Int32.toNatClampNeg xx)) (Int32.toNatClampNeg xx) 2 sal) w) H1 := hP
        have hD : va_D (zA (zB_X5 (g 0) u M w)) (zB_X5 (g 0) u (v_X5_put (v_X5_layAhead (v_X5_save (zU M 5 (fun _ => 0))) (Int32.toNatClampNeg xx)) (Int32.toNatClampNeg xx) 2 sal) w) := hD
        refine lv_aload_n hx hb dX5_resalt_65 rfl (lv_at hl 0 rfl) ?_
        refine lv_iload_n hx hb dX5_resalt_66 rfl (lv_at hl 1 rfl) ?_
        refine zcV (ci := 5) (n := 1) (c_X5_changed l D g u (v_X5_put (v_X5_layAhead (v_X5_save (zU M 5 (fun _ => 0))) (Int32.toNatClampNeg xx)) (Int32.toNatClampNeg xx) 2 sal) w (Int32.toNatClampNeg xx) (by omega) (zI_G (zI_put (k := 2) (by omega) (by decide) (zI_la (zI_s5 z1 z0))))) hx hb hml hown hts gX5_resalt_X5_changed rfl ⟨rfl, by decide, by decide, by decide⟩ ⟨Nat.le_of_ble_eq_true rfl, Nat.le_of_ble_eq_true rfl⟩ ⟨rfl, rfl⟩ hK hP rfl rfl rfl hl.1 rfl rfl (Nat.le_of_ble_eq_true rfl) ⟨Nat.zero_le _, Nat.zero_le _⟩ dX5_resalt_67 ?_
        exact zretw_i hx hb hr hlocks dX5_resalt_70 hP hS (congrArg (fun z9 => z9.1) hq) (congrArg (fun z9 => zB_X5 (g 0) u z9.2 w) hq)
    · have hq := hq.trans (zif_f c_4)
      refine lv_iconst (v := 2) hx hb dX5_resalt_20 (by decide) ?_
      refine lv_goto (tgt := 37) hx hb dX5_resalt_21 (by decide) ?_
      refine va_put (D := D) (ci := 5) (v := .int 2) (ty := .int) (C := RX5) (T := TX5) (N := 13) hx hb hts hinX5 tyX5 tyX5_ok nmX5 hown hK.1 hP hD hS 0 rfl rfl 5 (by decide) (hts (.fieldLink RX5 28 "SaltSharesModel" "thrown" "I") (List.mem_of_getElem? (i := 1) rfl)) (fun _ h9 => h9) rfl (by decide +kernel) rfl rfl (Nat.le_of_ble_eq_true rfl) dX5_resalt_37 (fun H locs hP hD hS => ?_)
      have hP : va_P D vwCl (zB_X5 (g 0) u (zU M 5 (fun _ => 2)) w) H := hP
      have hD : va_D (zA (zB_X5 (g 0) u M w)) (zB_X5 (g 0) u (zU M 5 (fun _ => 2)) w) := hD
      refine lv_aload_n hx hb dX5_resalt_40 rfl (lv_at hl 0 rfl) ?_
      refine va_get (D := D) (ci := 5) (v := .int 2) (C := RX5) (T := TX5) (N := 13) hx hb hts hinX5 hown hK.1 hP 0 rfl rfl 5 (by decide) (hts (.fieldLink RX5 28 "SaltSharesModel" "thrown" "I") (List.mem_of_getElem? (i := 1) rfl)) (fun _ h9 => h9) rfl dX5_resalt_41 ?_
      refine lv_if_le (tgt := 49) hx hb dX5_resalt_44 (by decide) (fun c_14 => ?_) (fun c_14 => ?_)
      · exact absurd c_14 (by decide)
      refine lv_iconst (v := 0) hx hb dX5_resalt_47 (by decide) ?_
      exact zretw_i hx hb hr hlocks dX5_resalt_48 hP hS (congrArg (fun z9 => z9.1) hq) (congrArg (fun z9 => zB_X5 (g 0) u z9.2 w) hq)
  · have hq := hq.trans (zif_f c_2)
    refine lv_iconst (v := 1) hx hb dX5_resalt_9 (by decide) ?_
    refine lv_goto (tgt := 37) hx hb dX5_resalt_10 (by decide) ?_
    refine va_put (D := D) (ci := 5) (v := .int 1) (ty := .int) (C := RX5) (T := TX5) (N := 13) hx hb hts hinX5 tyX5 tyX5_ok nmX5 hown hK.1 hP hD hS 0 rfl rfl 5 (by decide) (hts (.fieldLink RX5 28 "SaltSharesModel" "thrown" "I") (List.mem_of_getElem? (i := 1) rfl)) (fun _ h9 => h9) rfl (by decide +kernel) rfl rfl (Nat.le_of_ble_eq_true rfl) dX5_resalt_37 (fun H locs hP hD hS => ?_)
    have hP : va_P D vwCl (zB_X5 (g 0) u (zU M 5 (fun _ => 1)) w) H := hP
    have hD : va_D (zA (zB_X5 (g 0) u M w)) (zB_X5 (g 0) u (zU M 5 (fun _ => 1)) w) := hD
    refine lv_aload_n hx hb dX5_resalt_40 rfl (lv_at hl 0 rfl) ?_
    refine va_get (D := D) (ci := 5) (v := .int 1) (C := RX5) (T := TX5) (N := 13) hx hb hts hinX5 hown hK.1 hP 0 rfl rfl 5 (by decide) (hts (.fieldLink RX5 28 "SaltSharesModel" "thrown" "I") (List.mem_of_getElem? (i := 1) rfl)) (fun _ h9 => h9) rfl dX5_resalt_41 ?_
    refine lv_if_le (tgt := 49) hx hb dX5_resalt_44 (by decide) (fun c_15 => ?_) (fun c_15 => ?_)
    · exact absurd c_15 (by decide)
    refine lv_iconst (v := 0) hx hb dX5_resalt_47 (by decide) ?_
    exact zretw_i hx hb hr hlocks dX5_resalt_48 hP hS (congrArg (fun z9 => z9.1) hq) (congrArg (fun z9 => zB_X5 (g 0) u z9.2 w) hq)
def v_X5_shake (M : Nat → Nat → Int32) (xg : Int32) (sal : Int32) : Int32 × (Nat → Nat → Int32) := (if (v_X5_isGroup xg) = true then (if (v_X5_isSalt sal) = true then ((((v_X5_save (zU M 5 (fun _ => 0))) 0) (2 + (Int32.toNatClampNeg xg))), zU (v_X5_save (zU M 5 (fun _ => 0))) 0 (upd ((v_X5_save (zU M 5 (fun _ => 0))) 0) (2 + (Int32.toNatClampNeg xg)) sal)) else (0, zU M 5 (fun _ => 2))) else (0, zU M 5 (fun _ => 1)))
set_option maxHeartbeats 400000 in
set_option maxRecDepth 100000 in
theorem c_X5_shake (l : Launch) (D : va_G) (g : Nat → ClassId) (u : Nat → Nat) (M : Nat → Nat → Int32) (w : Int64) (xg : Int32) (sal : Int32) (z0 : zI M) (z1 : vp_in (M 1 0) 7) : Wr l D (zT g) yX5_shake wsX5_shake (rmOf 2 42) [.ref (u 0), .int xg, .int sal] (zB_X5 (g 0) u M w) (some (.int ((v_X5_shake M xg sal).1))) (zB_X5 (g 0) u ((v_X5_shake M xg sal).2) w) := by
  refine Wr.of (cc := cX5_shake) (maxL := 4) (ret := (some .int)) (by decide) rfl (Nat.le_of_ble_eq_true rfl) ?_
  intro p e s m below meth c ls hx hb hr hml hown hts hlocks hP hD hS hK hl
  have hown : s.vm.findClass RX5 = some m.cls := hown
  have hinX5 : ∀ w ∈ u_ws RX5 TX5 13, w ∈ wsX5_shake := fun _ h9 => (List.mem_cons_of_mem _ (List.mem_append_right _ h9))
  obtain ⟨q, hq⟩ : ∃ q : Int32 × (Nat → Nat → Int32), q = v_X5_shake M xg sal := ⟨_, rfl⟩
  rw [← hq]
  unfold v_X5_shake at hq
  have hl : lv_has ls 4 [(0, .ref (u 0)), (1, .int xg), (2, .int sal)] := hl
  refine lv_aload_n hx hb dX5_shake_0 rfl (lv_at hl 0 rfl) ?_
  refine lv_iload_n hx hb dX5_shake_1 rfl (lv_at hl 1 rfl) ?_
  refine zcSO (n := 1) (c_X5_isGroup l D g xg) hx hb hml hown hts gX5_shake_X5_isGroup rfl ⟨by decide, by decide, by decide⟩ ⟨Nat.le_of_ble_eq_true rfl, Nat.le_of_ble_eq_true rfl⟩ ⟨rfl, rfl⟩ hK (hP.sub [] rfl) hl.1 rfl rfl (Nat.le_of_ble_eq_true rfl) ⟨Nat.zero_le _, Nat.zero_le _⟩ dX5_shake_2 ?_
  refine zif_ne (tgt := 12) hx hb dX5_shake_5 (by decide) (fun c_2 => ?_) (fun c_2 => ?_)
  · have hq := hq.trans (zif_t c_2)
    refine lv_iload_n hx hb dX5_shake_12 rfl (lv_at hl 2 rfl) ?_
    refine zcSO (n := 1) (c_X5_isSalt l D g sal) hx hb hml hown hts gX5_shake_X5_isSalt rfl ⟨by decide, by decide, by decide⟩ ⟨Nat.le_of_ble_eq_true rfl, Nat.le_of_ble_eq_true rfl⟩ ⟨rfl, rfl⟩ hK (hP.sub [] rfl) hl.1 rfl rfl (Nat.le_of_ble_eq_true rfl) ⟨Nat.zero_le _, Nat.zero_le _⟩ dX5_shake_13 ?_
    refine zif_eq (tgt := 23) hx hb dX5_shake_16 (by decide) (fun c_4 => ?_) (fun c_4 => ?_)
    · have hq := hq.trans (zif_f c_4)
      refine lv_iconst (v := 2) hx hb dX5_shake_23 (by decide) ?_
      refine va_put (D := D) (ci := 5) (v := .int 2) (ty := .int) (C := RX5) (T := TX5) (N := 13) hx hb hts hinX5 tyX5 tyX5_ok nmX5 hown hK.1 hP hD hS 0 rfl rfl 5 (by decide) (hts (.fieldLink RX5 28 "SaltSharesModel" "thrown" "I") (List.mem_of_getElem? (i := 1) rfl)) (fun _ h9 => h9) rfl (by decide +kernel) rfl rfl (Nat.le_of_ble_eq_true rfl) dX5_shake_24 (fun H locs hP hD hS => ?_)
      have hP : va_P D vwCl (zB_X5 (g 0) u (zU M 5 (fun _ => 2)) w) H := hP
      have hD : va_D (zA (zB_X5 (g 0) u M w)) (zB_X5 (g 0) u (zU M 5 (fun _ => 2)) w) := hD
      refine lv_aload_n hx hb dX5_shake_27 rfl (lv_at hl 0 rfl) ?_
      refine va_get (D := D) (ci := 5) (v := .int 2) (C := RX5) (T := TX5) (N := 13) hx hb hts hinX5 hown hK.1 hP 0 rfl rfl 5 (by decide) (hts (.fieldLink RX5 28 "SaltSharesModel" "thrown" "I") (List.mem_of_getElem? (i := 1) rfl)) (fun _ h9 => h9) rfl dX5_shake_28 ?_
      refine lv_if_le (tgt := 36) hx hb dX5_shake_31 (by decide) (fun c_5 => ?_) (fun c_5 => ?_)
      · exact absurd c_5 (by decide)
      refine lv_iconst (v := 0) hx hb dX5_shake_34 (by decide) ?_
      exact zretw_i hx hb hr hlocks dX5_shake_35 hP hS (congrArg (fun z9 => z9.1) hq) (congrArg (fun z9 => zB_X5 (g 0) u z9.2 w) hq)
    · have hq := hq.trans (zif_t c_4)
      refine lv_iconst (v := 0) hx hb dX5_shake_19 (by decide) ?_
      refine lv_goto (tgt := 24) hx hb dX5_shake_20 (by decide) ?_
      refine va_put (D := D) (ci := 5) (v := .int 0) (ty := .int) (C := RX5) (T := TX5) (N := 13) hx hb hts hinX5 tyX5 tyX5_ok nmX5 hown hK.1 hP hD hS 0 rfl rfl 5 (by decide) (hts (.fieldLink RX5 28 "SaltSharesModel" "thrown" "I") (List.mem_of_getElem? (i := 1) rfl)) (fun _ h9 => h9) rfl (by decide +kernel) rfl rfl (Nat.le_of_ble_eq_true rfl) dX5_shake_24 (fun H locs hP hD hS => ?_)
      have hP : va_P D vwCl (zB_X5 (g 0) u (zU M 5 (fun _ => 0)) w) H := hP
      have hD : va_D (zA (zB_X5 (g 0) u M w)) (zB_X5 (g 0) u (zU M 5 (fun _ => 0)) w) := hD
      refine lv_aload_n hx hb dX5_shake_27 rfl (lv_at hl 0 rfl) ?_
      refine va_get (D := D) (ci := 5) (v := .int 0) (C := RX5) (T := TX5) (N := 13) hx hb hts hinX5 hown hK.1 hP 0 rfl rfl 5 (by decide) (hts (.fieldLink RX5 28 "SaltSharesModel" "thrown" "I") (List.mem_of_getElem? (i := 1) rfl)) (fun _ h9 => h9) rfl dX5_shake_28 ?_
      refine lv_if_le (tgt := 36) hx hb dX5_shake_31 (by decide) (fun c_6 => ?_) (fun c_6 => ?_)
      rotate_left
      · exact absurd c_6 (by decide)
      have w_7 := znat (zmgr (by with_reducible assumption))
      have w_7b := w_7.2
      have hl : lv_has ls 4 [(0, .ref (u 0)), (1, .int (nI (Int32.toNatClampNeg xg))), (2, .int sal)] := by rw [← w_7.1]; exact hl
      refine lv_aload_n hx hb dX5_shake_36 rfl (lv_at hl 0 rfl) ?_
      refine zcVw (ci := 5) (n := 0) (c_X5_save l D g u (zU M 5 (fun _ => 0)) w (zS_U z1)) hx hb hml hown hts gX5_shake_X5_save rfl ⟨rfl, by decide, by decide, by decide⟩ ⟨Nat.le_of_ble_eq_true rfl, Nat.le_of_ble_eq_true rfl⟩ ⟨rfl, rfl⟩ hK hP hD rfl rfl rfl hS hl.1 rfl rfl (Nat.le_of_ble_eq_true rfl) ⟨Nat.zero_le _, Nat.zero_le _⟩ dX5_shake_37 (fun H1 locs hP1 hk1 hS => ?_)
      have hD := zD_addr (ws' := zB_X5 (g 0) u (v_X5_save (zU M 5 (fun _ => 0))) w) hD (by simp only [zF, List.flatten_cons, List.flatten_nil, List.append_nil, List.map_append, List.map_cons, List.map_nil, zad_X0, zad_X1, zad_X2, zad_X3, zad_X4, zad_X5]); have hP := hP1
      clear hP1 hk1
      have hP : va_P D vwCl (zB_X5 (g 0) u (v_X5_save (zU M 5 (fun _ => 0))) w) H1 := hP
      have hD : va_D (zA (zB_X5 (g 0) u M w)) (zB_X5 (g 0) u (v_X5_save (zU M 5 (fun _ => 0))) w) := hD
      refine lv_aload_n hx hb dX5_shake_40 rfl (lv_at hl 0 rfl) ?_
      refine va_get (D := D) (ci := 5) (v := .ref (u 1)) (C := RX5) (T := TX5) (N := 13) hx hb hts hinX5 hown hK.1 hP 0 rfl rfl 0 (by decide) (hts (.fieldLink RX5 7 "SaltSharesModel" "z" "[I") (List.mem_of_getElem? (i := 2) rfl)) (fun _ h9 => h9) rfl dX5_shake_41 ?_
      refine lv_iconst (v := 2) hx hb dX5_shake_44 (by decide) ?_
      refine lv_iload_n hx hb dX5_shake_45 rfl (lv_at hl 1 rfl) ?_
      refine lv_iadd hx hb dX5_shake_46 ?_
      refine lv_is (show (2 : Int32) + (nI (Int32.toNatClampNeg xg)) = (nI (2 + (Int32.toNatClampNeg xg))) from nI_add 2 (Int32.toNatClampNeg xg)) ?_
      refine z_iald (i := 2 + (Int32.toNatClampNeg xg)) hx hb hK hP 1 0 rfl rfl (by omega) (by decide) dX5_shake_47 ?_
      refine lv_istore_n (lv' := [(3, .int (((v_X5_save (zU M 5 (fun _ => 0))) 0) (2 + (Int32.toNatClampNeg xg)))), (0, .ref (u 0)), (1, .int (nI (Int32.toNatClampNeg xg))), (2, .int sal)]) hx hb dX5_shake_48 rfl hl (by decide) rfl (fun ls hl => ?_)
      refine lv_aload_n hx hb dX5_shake_49 rfl (lv_at hl 1 rfl) ?_
      refine va_get (D := D) (ci := 5) (v := .ref (u 1)) (C := RX5) (T := TX5) (N := 13) hx hb hts hinX5 hown hK.1 hP 0 rfl rfl 0 (by decide) (hts (.fieldLink RX5 7 "SaltSharesModel" "z" "[I") (List.mem_of_getElem? (i := 2) rfl)) (fun _ h9 => h9) rfl dX5_shake_50 ?_
      refine lv_iconst (v := 2) hx hb dX5_shake_53 (by decide) ?_
      refine lv_iload_n hx hb dX5_shake_54 rfl (lv_at hl 2 rfl) ?_
      refine lv_iadd hx hb dX5_shake_55 ?_
      refine lv_is (show (2 : Int32) + (nI (Int32.toNatClampNeg xg)) = (nI (2 + (Int32.toNatClampNeg xg))) from nI_add 2 (Int32.toNatClampNeg xg)) ?_
      refine lv_iload_n hx hb dX5_shake_56 rfl (lv_at hl 3 rfl) ?_
      refine z_iast (i := 2 + (Int32.toNatClampNeg xg)) (x := sal) hx hb hK hP hD hS 1 0 rfl rfl (by omega) (by decide) dX5_shake_57 (fun H locs hP hD hS => ?_)
      have hP : va_P D vwCl (zB_X5 (g 0) u (zU (v_X5_save (zU M 5 (fun _ => 0))) 0 (upd ((v_X5_save (zU M 5 (fun _ => 0))) 0) (2 + (Int32.toNatClampNeg xg)) sal)) w) H := hP
      have hD : va_D (zA (zB_X5 (g 0) u M w)) (zB_X5 (g 0) u (zU (v_X5_save (zU M 5 (fun _ => 0))) 0 (upd ((v_X5_save (zU M 5 (fun _ => 0))) 0) (2 + (Int32.toNatClampNeg xg)) sal)) w) := hD
      refine lv_iload_n hx hb dX5_shake_58 rfl (lv_at hl 0 rfl) ?_
      exact zretw_i hx hb hr hlocks dX5_shake_59 hP hS (congrArg (fun z9 => z9.1) hq) (congrArg (fun z9 => zB_X5 (g 0) u z9.2 w) hq)
  · have hq := hq.trans (zif_f c_2)
    refine lv_iconst (v := 1) hx hb dX5_shake_8 (by decide) ?_
    refine lv_goto (tgt := 24) hx hb dX5_shake_9 (by decide) ?_
    refine va_put (D := D) (ci := 5) (v := .int 1) (ty := .int) (C := RX5) (T := TX5) (N := 13) hx hb hts hinX5 tyX5 tyX5_ok nmX5 hown hK.1 hP hD hS 0 rfl rfl 5 (by decide) (hts (.fieldLink RX5 28 "SaltSharesModel" "thrown" "I") (List.mem_of_getElem? (i := 1) rfl)) (fun _ h9 => h9) rfl (by decide +kernel) rfl rfl (Nat.le_of_ble_eq_true rfl) dX5_shake_24 (fun H locs hP hD hS => ?_)
    have hP : va_P D vwCl (zB_X5 (g 0) u (zU M 5 (fun _ => 1)) w) H := hP
    have hD : va_D (zA (zB_X5 (g 0) u M w)) (zB_X5 (g 0) u (zU M 5 (fun _ => 1)) w) := hD
    refine lv_aload_n hx hb dX5_shake_27 rfl (lv_at hl 0 rfl) ?_
    refine va_get (D := D) (ci := 5) (v := .int 1) (C := RX5) (T := TX5) (N := 13) hx hb hts hinX5 hown hK.1 hP 0 rfl rfl 5 (by decide) (hts (.fieldLink RX5 28 "SaltSharesModel" "thrown" "I") (List.mem_of_getElem? (i := 1) rfl)) (fun _ h9 => h9) rfl dX5_shake_28 ?_
    refine lv_if_le (tgt := 36) hx hb dX5_shake_31 (by decide) (fun c_9 => ?_) (fun c_9 => ?_)
    · exact absurd c_9 (by decide)
    refine lv_iconst (v := 0) hx hb dX5_shake_34 (by decide) ?_
    exact zretw_i hx hb hr hlocks dX5_shake_35 hP hS (congrArg (fun z9 => z9.1) hq) (congrArg (fun z9 => zB_X5 (g 0) u z9.2 w) hq)
def v_X5_holdsAnew (M : Nat → Nat → Int32) (pe : Nat) (b : Nat) (isin : Int32) (isout : Int32) : Int32 × (Nat → Nat → Int32) := (if (v_X5_eatsNow M pe b) ≤ 0 then (if (v_X5_eatsNow (v_X5_holds M pe b isin isout) pe b) ≤ 0 then (0, v_X5_holds M pe b isin isout) else (1, v_X5_holds M pe b isin isout)) else (if (v_X5_eatsNow (v_X5_holds M pe b isin isout) pe b) ≤ 0 then (1, v_X5_holds M pe b isin isout) else (0, v_X5_holds M pe b isin isout)))
set_option maxHeartbeats 400000 in
set_option maxRecDepth 100000 in
theorem c_X5_holdsAnew (l : Launch) (D : va_G) (g : Nat → ClassId) (u : Nat → Nat) (M : Nat → Nat → Int32) (w : Int64) (pe : Nat) (b : Nat) (isin : Int32) (isout : Int32) (z0 : pe < 150) (z1 : b < 8) (z2 : zI M) : Wr l D (zT g) yX5_holdsAnew wsX5_holdsAnew (rmOf 4 88) [.ref (u 0), .int (nI pe), .int (nI b), .int isin, .int isout] (zB_X5 (g 0) u M w) (some (.int ((v_X5_holdsAnew M pe b isin isout).1))) (zB_X5 (g 0) u ((v_X5_holdsAnew M pe b isin isout).2) w) := by
  refine Wr.of (cc := cX5_holdsAnew) (maxL := 6) (ret := (some .int)) (by decide) rfl (Nat.le_of_ble_eq_true rfl) ?_
  intro p e s m below meth c ls hx hb hr hml hown hts hlocks hP hD hS hK hl
  have hown : s.vm.findClass RX5 = some m.cls := hown
  obtain ⟨q, hq⟩ : ∃ q : Int32 × (Nat → Nat → Int32), q = v_X5_holdsAnew M pe b isin isout := ⟨_, rfl⟩
  rw [← hq]
  unfold v_X5_holdsAnew at hq
  have hl : lv_has ls 6 [(0, .ref (u 0)), (1, .int (nI pe)), (2, .int (nI b)), (3, .int isin), (4, .int isout)] := hl
  refine lv_aload_n hx hb dX5_holdsAnew_0 rfl (lv_at hl 0 rfl) ?_
  refine lv_iload_n hx hb dX5_holdsAnew_1 rfl (lv_at hl 1 rfl) ?_
  refine lv_iload_n hx hb dX5_holdsAnew_2 rfl (lv_at hl 2 rfl) ?_
  refine zcV (ci := 5) (n := 2) (c_X5_eatsNow l D g u M w pe b (by omega) (by omega) (zI_G z2)) hx hb hml hown hts gX5_holdsAnew_X5_eatsNow rfl ⟨rfl, by decide, by decide, by decide⟩ ⟨Nat.le_of_ble_eq_true rfl, Nat.le_of_ble_eq_true rfl⟩ ⟨rfl, rfl⟩ hK hP rfl rfl rfl hl.1 rfl rfl (Nat.le_of_ble_eq_true rfl) ⟨Nat.zero_le _, Nat.zero_le _⟩ dX5_holdsAnew_3 ?_
  refine lv_if_le (tgt := 13) hx hb dX5_holdsAnew_6 (by decide) (fun c_2 => ?_) (fun c_2 => ?_)
  · have c_2 : (v_X5_eatsNow M pe b) ≤ 0 := c_2
    have hq := hq.trans (if_pos c_2)
    refine lv_iconst (v := 0) hx hb dX5_holdsAnew_13 (by decide) ?_
    refine lv_istore (lv' := [(5, .int 0), (0, .ref (u 0)), (1, .int (nI pe)), (2, .int (nI b)), (3, .int isin), (4, .int isout)]) hx hb dX5_holdsAnew_14 hl (by decide) rfl (fun ls hl => ?_)
    refine lv_aload_n hx hb dX5_holdsAnew_16 rfl (lv_at hl 1 rfl) ?_
    refine lv_iload_n hx hb dX5_holdsAnew_17 rfl (lv_at hl 2 rfl) ?_
    refine lv_iload_n hx hb dX5_holdsAnew_18 rfl (lv_at hl 3 rfl) ?_
    refine lv_iload_n hx hb dX5_holdsAnew_19 rfl (lv_at hl 4 rfl) ?_
    refine lv_iload hx hb dX5_holdsAnew_20 (lv_at hl 5 rfl) ?_
    refine zcVw (ci := 5) (n := 4) (c_X5_holds l D g u M w pe b isin isout (by omega) (by omega)) hx hb hml hown hts gX5_holdsAnew_X5_holds rfl ⟨rfl, by decide, by decide, by decide⟩ ⟨Nat.le_of_ble_eq_true rfl, Nat.le_of_ble_eq_true rfl⟩ ⟨rfl, rfl⟩ hK hP hD rfl rfl rfl hS hl.1 rfl rfl (Nat.le_of_ble_eq_true rfl) ⟨Nat.zero_le _, Nat.zero_le _⟩ dX5_holdsAnew_22 (fun H1 locs hP1 hk1 hS => ?_)
    have hD := zD_addr (ws' := zB_X5 (g 0) u (v_X5_holds M pe b isin isout) w) hD (by simp only [zF, List.flatten_cons, List.flatten_nil, List.append_nil, List.map_append, List.map_cons, List.map_nil, zad_X0, zad_X1, zad_X2, zad_X3, zad_X4, zad_X5]); have hP := hP1
    clear hP1 hk1
    have hP : va_P D vwCl (zB_X5 (g 0) u (v_X5_holds M pe b isin isout) w) H1 := hP
    have hD : va_D (zA (zB_X5 (g 0) u M w)) (zB_X5 (g 0) u (v_X5_holds M pe b isin isout) w) := hD
    refine lv_aload_n hx hb dX5_holdsAnew_25 rfl (lv_at hl 1 rfl) ?_
    refine lv_iload_n hx hb dX5_holdsAnew_26 rfl (lv_at hl 2 rfl) ?_
    refine lv_iload_n hx hb dX5_holdsAnew_27 rfl (lv_at hl 3 rfl) ?_
    refine zcV (ci := 5) (n := 2) (c_X5_eatsNow l D g u (v_X5_holds M pe b isin isout) w pe b (by omega) (by omega) (zI_G (zI_holds z1 z2))) hx hb hml hown hts gX5_holdsAnew_X5_eatsNow rfl ⟨rfl, by decide, by decide, by decide⟩ ⟨Nat.le_of_ble_eq_true rfl, Nat.le_of_ble_eq_true rfl⟩ ⟨rfl, rfl⟩ hK hP rfl rfl rfl hl.1 rfl rfl (Nat.le_of_ble_eq_true rfl) ⟨Nat.zero_le _, Nat.zero_le _⟩ dX5_holdsAnew_28 ?_
    refine lv_if_le (tgt := 38) hx hb dX5_holdsAnew_31 (by decide) (fun c_5 => ?_) (fun c_5 => ?_)
    · have c_5 : (v_X5_eatsNow (v_X5_holds M pe b isin isout) pe b) ≤ 0 := c_5
      have hq := hq.trans (if_pos c_5)
      refine lv_iconst (v := 0) hx hb dX5_holdsAnew_38 (by decide) ?_
      refine lv_iload hx hb dX5_holdsAnew_39 (lv_at hl 0 rfl) ?_
      refine lv_icmp_ne (tgt := 48) hx hb dX5_holdsAnew_41 (by decide) (fun c_6 => ?_) (fun c_6 => ?_)
      · exact absurd c_6 (by decide)
      refine lv_iconst (v := 0) hx hb dX5_holdsAnew_44 (by decide) ?_
      refine lv_goto (tgt := 49) hx hb dX5_holdsAnew_45 (by decide) ?_
      exact zretw_i hx hb hr hlocks dX5_holdsAnew_49 hP hS (congrArg (fun z9 => z9.1) hq) (congrArg (fun z9 => zB_X5 (g 0) u z9.2 w) hq)
    · have c_5 : ¬ ((v_X5_eatsNow (v_X5_holds M pe b isin isout) pe b) ≤ 0) := c_5
      have hq := hq.trans (if_neg c_5)
      refine lv_iconst (v := 1) hx hb dX5_holdsAnew_34 (by decide) ?_
      refine lv_goto (tgt := 39) hx hb dX5_holdsAnew_35 (by decide) ?_
      refine lv_iload hx hb dX5_holdsAnew_39 (lv_at hl 0 rfl) ?_
      refine lv_icmp_ne (tgt := 48) hx hb dX5_holdsAnew_41 (by decide) (fun c_7 => ?_) (fun c_7 => ?_)
      rotate_left
      · exact absurd c_7 (by decide)
      refine lv_iconst (v := 1) hx hb dX5_holdsAnew_48 (by decide) ?_
      exact zretw_i hx hb hr hlocks dX5_holdsAnew_49 hP hS (congrArg (fun z9 => z9.1) hq) (congrArg (fun z9 => zB_X5 (g 0) u z9.2 w) hq)
  · have c_2 : ¬ ((v_X5_eatsNow M pe b) ≤ 0) := c_2
    have hq := hq.trans (if_neg c_2)
    refine lv_iconst (v := 1) hx hb dX5_holdsAnew_9 (by decide) ?_
    refine lv_goto (tgt := 14) hx hb dX5_holdsAnew_10 (by decide) ?_
    refine lv_istore (lv' := [(5, .int 1), (0, .ref (u 0)), (1, .int (nI pe)), (2, .int (nI b)), (3, .int isin), (4, .int isout)]) hx hb dX5_holdsAnew_14 hl (by decide) rfl (fun ls hl => ?_)
    refine lv_aload_n hx hb dX5_holdsAnew_16 rfl (lv_at hl 1 rfl) ?_
    refine lv_iload_n hx hb dX5_holdsAnew_17 rfl (lv_at hl 2 rfl) ?_
    refine lv_iload_n hx hb dX5_holdsAnew_18 rfl (lv_at hl 3 rfl) ?_
    refine lv_iload_n hx hb dX5_holdsAnew_19 rfl (lv_at hl 4 rfl) ?_
    refine lv_iload hx hb dX5_holdsAnew_20 (lv_at hl 5 rfl) ?_
    refine zcVw (ci := 5) (n := 4) (c_X5_holds l D g u M w pe b isin isout (by omega) (by omega)) hx hb hml hown hts gX5_holdsAnew_X5_holds rfl ⟨rfl, by decide, by decide, by decide⟩ ⟨Nat.le_of_ble_eq_true rfl, Nat.le_of_ble_eq_true rfl⟩ ⟨rfl, rfl⟩ hK hP hD rfl rfl rfl hS hl.1 rfl rfl (Nat.le_of_ble_eq_true rfl) ⟨Nat.zero_le _, Nat.zero_le _⟩ dX5_holdsAnew_22 (fun H1 locs hP1 hk1 hS => ?_)
    have hD := zD_addr (ws' := zB_X5 (g 0) u (v_X5_holds M pe b isin isout) w) hD (by simp only [zF, List.flatten_cons, List.flatten_nil, List.append_nil, List.map_append, List.map_cons, List.map_nil, zad_X0, zad_X1, zad_X2, zad_X3, zad_X4, zad_X5]); have hP := hP1
    clear hP1 hk1
    have hP : va_P D vwCl (zB_X5 (g 0) u (v_X5_holds M pe b isin isout) w) H1 := hP
    have hD : va_D (zA (zB_X5 (g 0) u M w)) (zB_X5 (g 0) u (v_X5_holds M pe b isin isout) w) := hD
    refine lv_aload_n hx hb dX5_holdsAnew_25 rfl (lv_at hl 1 rfl) ?_
    refine lv_iload_n hx hb dX5_holdsAnew_26 rfl (lv_at hl 2 rfl) ?_
    refine lv_iload_n hx hb dX5_holdsAnew_27 rfl (lv_at hl 3 rfl) ?_
    refine zcV (ci := 5) (n := 2) (c_X5_eatsNow l D g u (v_X5_holds M pe b isin isout) w pe b (by omega) (by omega) (zI_G (zI_holds z1 z2))) hx hb hml hown hts gX5_holdsAnew_X5_eatsNow rfl ⟨rfl, by decide, by decide, by decide⟩ ⟨Nat.le_of_ble_eq_true rfl, Nat.le_of_ble_eq_true rfl⟩ ⟨rfl, rfl⟩ hK hP rfl rfl rfl hl.1 rfl rfl (Nat.le_of_ble_eq_true rfl) ⟨Nat.zero_le _, Nat.zero_le _⟩ dX5_holdsAnew_28 ?_
    refine lv_if_le (tgt := 38) hx hb dX5_holdsAnew_31 (by decide) (fun c_10 => ?_) (fun c_10 => ?_)
    · have c_10 : (v_X5_eatsNow (v_X5_holds M pe b isin isout) pe b) ≤ 0 := c_10
      have hq := hq.trans (if_pos c_10)
      refine lv_iconst (v := 0) hx hb dX5_holdsAnew_38 (by decide) ?_
      refine lv_iload hx hb dX5_holdsAnew_39 (lv_at hl 0 rfl) ?_
      refine lv_icmp_ne (tgt := 48) hx hb dX5_holdsAnew_41 (by decide) (fun c_11 => ?_) (fun c_11 => ?_)
      rotate_left
      · exact absurd c_11 (by decide)
      refine lv_iconst (v := 1) hx hb dX5_holdsAnew_48 (by decide) ?_
      exact zretw_i hx hb hr hlocks dX5_holdsAnew_49 hP hS (congrArg (fun z9 => z9.1) hq) (congrArg (fun z9 => zB_X5 (g 0) u z9.2 w) hq)
    · have c_10 : ¬ ((v_X5_eatsNow (v_X5_holds M pe b isin isout) pe b) ≤ 0) := c_10
      have hq := hq.trans (if_neg c_10)
      refine lv_iconst (v := 1) hx hb dX5_holdsAnew_34 (by decide) ?_
      refine lv_goto (tgt := 39) hx hb dX5_holdsAnew_35 (by decide) ?_
      refine lv_iload hx hb dX5_holdsAnew_39 (lv_at hl 0 rfl) ?_
      refine lv_icmp_ne (tgt := 48) hx hb dX5_holdsAnew_41 (by decide) (fun c_12 => ?_) (fun c_12 => ?_)
      · exact absurd c_12 (by decide)
      refine lv_iconst (v := 0) hx hb dX5_holdsAnew_44 (by decide) ?_
      refine lv_goto (tgt := 49) hx hb dX5_holdsAnew_45 (by decide) ?_
      exact zretw_i hx hb hr hlocks dX5_holdsAnew_49 hP hS (congrArg (fun z9 => z9.1) hq) (congrArg (fun z9 => zB_X5 (g 0) u z9.2 w) hq)
def v_X5_hold (M : Nat → Nat → Int32) (pp : Int32) (xx : Int32) (isin : Bool) : Int32 × (Nat → Nat → Int32) := (if (v_X5_isPerson pp) = true then (if (v_X5_isBread M xx) = true then (if (v_X5_canHold M xx) = true then (if isin = true then (if isin = true then (((v_X5_holdsAnew (v_X5_save (zU M 5 (fun _ => 0))) (Int32.toNatClampNeg pp) (Int32.toNatClampNeg xx) 1 0).1), (v_X5_holdsAnew (v_X5_save (zU M 5 (fun _ => 0))) (Int32.toNatClampNeg pp) (Int32.toNatClampNeg xx) 1 0).2) else (((v_X5_holdsAnew (v_X5_save (zU M 5 (fun _ => 0))) (Int32.toNatClampNeg pp) (Int32.toNatClampNeg xx) 1 1).1), (v_X5_holdsAnew (v_X5_save (zU M 5 (fun _ => 0))) (Int32.toNatClampNeg pp) (Int32.toNatClampNeg xx) 1 1).2)) else (if isin = true then (((v_X5_holdsAnew (v_X5_save (zU M 5 (fun _ => 0))) (Int32.toNatClampNeg pp) (Int32.toNatClampNeg xx) 0 0).1), (v_X5_holdsAnew (v_X5_save (zU M 5 (fun _ => 0))) (Int32.toNatClampNeg pp) (Int32.toNatClampNeg xx) 0 0).2) else (((v_X5_holdsAnew (v_X5_save (zU M 5 (fun _ => 0))) (Int32.toNatClampNeg pp) (Int32.toNatClampNeg xx) 0 1).1), (v_X5_holdsAnew (v_X5_save (zU M 5 (fun _ => 0))) (Int32.toNatClampNeg pp) (Int32.toNatClampNeg xx) 0 1).2))) else (0, zU M 5 (fun _ => 2))) else (0, zU M 5 (fun _ => 1))) else (0, zU M 5 (fun _ => 1)))
set_option maxHeartbeats 400000 in
set_option maxRecDepth 100000 in
theorem c_X5_hold (l : Launch) (D : va_G) (g : Nat → ClassId) (u : Nat → Nat) (M : Nat → Nat → Int32) (w : Int64) (pp : Int32) (xx : Int32) (isin : Bool) (z0 : zI M) (z1 : vp_in (M 1 0) 7) : Wr l D (zT g) yX5_hold wsX5_hold (rmOf 5 113) [.ref (u 0), .int pp, .int xx, .int (bI isin)] (zB_X5 (g 0) u M w) (some (.int ((v_X5_hold M pp xx isin).1))) (zB_X5 (g 0) u ((v_X5_hold M pp xx isin).2) w) := by
  refine Wr.of (cc := cX5_hold) (maxL := 4) (ret := (some .int)) (by decide) rfl (Nat.le_of_ble_eq_true rfl) ?_
  intro p e s m below meth c ls hx hb hr hml hown hts hlocks hP hD hS hK hl
  have hown : s.vm.findClass RX5 = some m.cls := hown
  have hinX5 : ∀ w ∈ u_ws RX5 TX5 13, w ∈ wsX5_hold := fun _ h9 => (List.mem_cons_of_mem _ (List.mem_append_right _ h9))
  obtain ⟨q, hq⟩ : ∃ q : Int32 × (Nat → Nat → Int32), q = v_X5_hold M pp xx isin := ⟨_, rfl⟩
  rw [← hq]
  unfold v_X5_hold at hq
  have hl : lv_has ls 4 [(0, .ref (u 0)), (1, .int pp), (2, .int xx), (3, .int (bI isin))] := hl
  refine lv_aload_n hx hb dX5_hold_0 rfl (lv_at hl 0 rfl) ?_
  refine lv_iload_n hx hb dX5_hold_1 rfl (lv_at hl 1 rfl) ?_
  refine zcSO (n := 1) (c_X5_isPerson l D g pp) hx hb hml hown hts gX5_hold_X5_isPerson rfl ⟨by decide, by decide, by decide⟩ ⟨Nat.le_of_ble_eq_true rfl, Nat.le_of_ble_eq_true rfl⟩ ⟨rfl, rfl⟩ hK (hP.sub [] rfl) hl.1 rfl rfl (Nat.le_of_ble_eq_true rfl) ⟨Nat.zero_le _, Nat.zero_le _⟩ dX5_hold_2 ?_
  refine zif_eq (tgt := 16) hx hb dX5_hold_5 (by decide) (fun c_2 => ?_) (fun c_2 => ?_)
  · have hq := hq.trans (zif_f c_2)
    refine lv_iconst (v := 1) hx hb dX5_hold_16 (by decide) ?_
    refine lv_goto (tgt := 33) hx hb dX5_hold_17 (by decide) ?_
    refine va_put (D := D) (ci := 5) (v := .int 1) (ty := .int) (C := RX5) (T := TX5) (N := 13) hx hb hts hinX5 tyX5 tyX5_ok nmX5 hown hK.1 hP hD hS 0 rfl rfl 5 (by decide) (hts (.fieldLink RX5 28 "SaltSharesModel" "thrown" "I") (List.mem_of_getElem? (i := 1) rfl)) (fun _ h9 => h9) rfl (by decide +kernel) rfl rfl (Nat.le_of_ble_eq_true rfl) dX5_hold_33 (fun H locs hP hD hS => ?_)
    have hP : va_P D vwCl (zB_X5 (g 0) u (zU M 5 (fun _ => 1)) w) H := hP
    have hD : va_D (zA (zB_X5 (g 0) u M w)) (zB_X5 (g 0) u (zU M 5 (fun _ => 1)) w) := hD
    refine lv_aload_n hx hb dX5_hold_36 rfl (lv_at hl 0 rfl) ?_
    refine va_get (D := D) (ci := 5) (v := .int 1) (C := RX5) (T := TX5) (N := 13) hx hb hts hinX5 hown hK.1 hP 0 rfl rfl 5 (by decide) (hts (.fieldLink RX5 28 "SaltSharesModel" "thrown" "I") (List.mem_of_getElem? (i := 1) rfl)) (fun _ h9 => h9) rfl dX5_hold_37 ?_
    refine lv_if_le (tgt := 45) hx hb dX5_hold_40 (by decide) (fun c_3 => ?_) (fun c_3 => ?_)
    · exact absurd c_3 (by decide)
    refine lv_iconst (v := 0) hx hb dX5_hold_43 (by decide) ?_
    exact zretw_i hx hb hr hlocks dX5_hold_44 hP hS (congrArg (fun z9 => z9.1) hq) (congrArg (fun z9 => zB_X5 (g 0) u z9.2 w) hq)
  · have hq := hq.trans (zif_t c_2)
    refine lv_aload_n hx hb dX5_hold_8 rfl (lv_at hl 0 rfl) ?_
    refine lv_iload_n hx hb dX5_hold_9 rfl (lv_at hl 2 rfl) ?_
    refine zcV (ci := 5) (n := 1) (c_X5_isBread l D g u M w xx) hx hb hml hown hts gX5_hold_X5_isBread rfl ⟨rfl, by decide, by decide, by decide⟩ ⟨Nat.le_of_ble_eq_true rfl, Nat.le_of_ble_eq_true rfl⟩ ⟨rfl, rfl⟩ hK hP rfl rfl rfl hl.1 rfl rfl (Nat.le_of_ble_eq_true rfl) ⟨Nat.zero_le _, Nat.zero_le _⟩ dX5_hold_10 ?_
    refine zif_ne (tgt := 20) hx hb dX5_hold_13 (by decide) (fun c_5 => ?_) (fun c_5 => ?_)
    · have hq := hq.trans (zif_t c_5)
      refine lv_aload_n hx hb dX5_hold_20 rfl (lv_at hl 0 rfl) ?_
      refine lv_iload_n hx hb dX5_hold_21 rfl (lv_at hl 2 rfl) ?_
      refine zcV (ci := 5) (n := 1) (c_X5_canHold l D g u M w xx z0) hx hb hml hown hts gX5_hold_X5_canHold rfl ⟨rfl, by decide, by decide, by decide⟩ ⟨Nat.le_of_ble_eq_true rfl, Nat.le_of_ble_eq_true rfl⟩ ⟨rfl, rfl⟩ hK hP rfl rfl rfl hl.1 rfl rfl (Nat.le_of_ble_eq_true rfl) ⟨Nat.zero_le _, Nat.zero_le _⟩ dX5_hold_22 ?_
      refine zif_eq (tgt := 32) hx hb dX5_hold_25 (by decide) (fun c_7 => ?_) (fun c_7 => ?_)
      · have hq := hq.trans (zif_f c_7)
        refine lv_iconst (v := 2) hx hb dX5_hold_32 (by decide) ?_
        refine va_put (D := D) (ci := 5) (v := .int 2) (ty := .int) (C := RX5) (T := TX5) (N := 13) hx hb hts hinX5 tyX5 tyX5_ok nmX5 hown hK.1 hP hD hS 0 rfl rfl 5 (by decide) (hts (.fieldLink RX5 28 "SaltSharesModel" "thrown" "I") (List.mem_of_getElem? (i := 1) rfl)) (fun _ h9 => h9) rfl (by decide +kernel) rfl rfl (Nat.le_of_ble_eq_true rfl) dX5_hold_33 (fun H locs hP hD hS => ?_)
        have hP : va_P D vwCl (zB_X5 (g 0) u (zU M 5 (fun _ => 2)) w) H := hP
        have hD : va_D (zA (zB_X5 (g 0) u M w)) (zB_X5 (g 0) u (zU M 5 (fun _ => 2)) w) := hD
        refine lv_aload_n hx hb dX5_hold_36 rfl (lv_at hl 0 rfl) ?_
        refine va_get (D := D) (ci := 5) (v := .int 2) (C := RX5) (T := TX5) (N := 13) hx hb hts hinX5 hown hK.1 hP 0 rfl rfl 5 (by decide) (hts (.fieldLink RX5 28 "SaltSharesModel" "thrown" "I") (List.mem_of_getElem? (i := 1) rfl)) (fun _ h9 => h9) rfl dX5_hold_37 ?_
        refine lv_if_le (tgt := 45) hx hb dX5_hold_40 (by decide) (fun c_8 => ?_) (fun c_8 => ?_)
        · exact absurd c_8 (by decide)
        refine lv_iconst (v := 0) hx hb dX5_hold_43 (by decide) ?_
        exact zretw_i hx hb hr hlocks dX5_hold_44 hP hS (congrArg (fun z9 => z9.1) hq) (congrArg (fun z9 => zB_X5 (g 0) u z9.2 w) hq)
      · have hq := hq.trans (zif_t c_7)
        refine lv_iconst (v := 0) hx hb dX5_hold_28 (by decide) ?_
        refine lv_goto (tgt := 33) hx hb dX5_hold_29 (by decide) ?_
        refine va_put (D := D) (ci := 5) (v := .int 0) (ty := .int) (C := RX5) (T := TX5) (N := 13) hx hb hts hinX5 tyX5 tyX5_ok nmX5 hown hK.1 hP hD hS 0 rfl rfl 5 (by decide) (hts (.fieldLink RX5 28 "SaltSharesModel" "thrown" "I") (List.mem_of_getElem? (i := 1) rfl)) (fun _ h9 => h9) rfl (by decide +kernel) rfl rfl (Nat.le_of_ble_eq_true rfl) dX5_hold_33 (fun H locs hP hD hS => ?_)
        have hP : va_P D vwCl (zB_X5 (g 0) u (zU M 5 (fun _ => 0)) w) H := hP
        have hD : va_D (zA (zB_X5 (g 0) u M w)) (zB_X5 (g 0) u (zU M 5 (fun _ => 0)) w) := hD
        refine lv_aload_n hx hb dX5_hold_36 rfl (lv_at hl 0 rfl) ?_
        refine va_get (D := D) (ci := 5) (v := .int 0) (C := RX5) (T := TX5) (N := 13) hx hb hts hinX5 hown hK.1 hP 0 rfl rfl 5 (by decide) (hts (.fieldLink RX5 28 "SaltSharesModel" "thrown" "I") (List.mem_of_getElem? (i := 1) rfl)) (fun _ h9 => h9) rfl dX5_hold_37 ?_
        refine lv_if_le (tgt := 45) hx hb dX5_hold_40 (by decide) (fun c_9 => ?_) (fun c_9 => ?_)
        rotate_left
        · exact absurd c_9 (by decide)
        have w_10 := znat (zmp (by with_reducible assumption))
        have w_10b := w_10.2
        have hl : lv_has ls 4 [(0, .ref (u 0)), (1, .int (nI (Int32.toNatClampNeg pp))), (2, .int xx), (3, .int (bI isin))] := by rw [← w_10.1]; exact hl
        have w_11 := znat (zmb (by with_reducible assumption) (zI_B z0))
        have w_11b := w_11.2
        have hl : lv_has ls 4 [(0, .ref (u 0)), (1, .int (nI (Int32.toNatClampNeg pp))), (2, .int (nI (Int32.toNatClampNeg xx))), (3, .int (bI isin))] := by rw [← w_11.1]; exact hl
        refine lv_aload_n hx hb dX5_hold_45 rfl (lv_at hl 0 rfl) ?_
        refine zcVw (ci := 5) (n := 0) (c_X5_save l D g u (zU M 5 (fun _ => 0)) w (zS_U z1)) hx hb hml hown hts gX5_hold_X5_save rfl ⟨rfl, by decide, by decide, by decide⟩ ⟨Nat.le_of_ble_eq_true rfl, Nat.le_of_ble_eq_true rfl⟩ ⟨rfl, rfl⟩ hK hP hD rfl rfl rfl hS hl.1 rfl rfl (Nat.le_of_ble_eq_true rfl) ⟨Nat.zero_le _, Nat.zero_le _⟩ dX5_hold_46 (fun H1 locs hP1 hk1 hS => ?_)
        have hD := zD_addr (ws' := zB_X5 (g 0) u (v_X5_save (zU M 5 (fun _ => 0))) w) hD (by simp only [zF, List.flatten_cons, List.flatten_nil, List.append_nil, List.map_append, List.map_cons, List.map_nil, zad_X0, zad_X1, zad_X2, zad_X3, zad_X4, zad_X5]); have hP := hP1
        clear hP1 hk1
        have hP : va_P D vwCl (zB_X5 (g 0) u (v_X5_save (zU M 5 (fun _ => 0))) w) H1 := hP
        have hD : va_D (zA (zB_X5 (g 0) u M w)) (zB_X5 (g 0) u (v_X5_save (zU M 5 (fun _ => 0))) w) := hD
        refine lv_aload_n hx hb dX5_hold_49 rfl (lv_at hl 0 rfl) ?_
        refine lv_iload_n hx hb dX5_hold_50 rfl (lv_at hl 1 rfl) ?_
        refine lv_iload_n hx hb dX5_hold_51 rfl (lv_at hl 2 rfl) ?_
        refine lv_iload_n hx hb dX5_hold_52 rfl (lv_at hl 3 rfl) ?_
        refine zif_eq (tgt := 60) hx hb dX5_hold_53 (by decide) (fun c_13 => ?_) (fun c_13 => ?_)
        · have hq := hq.trans (zif_f c_13)
          refine lv_iconst (v := 0) hx hb dX5_hold_60 (by decide) ?_
          refine lv_iload_n hx hb dX5_hold_61 rfl (lv_at hl 3 rfl) ?_
          refine zif_eq (tgt := 69) hx hb dX5_hold_62 (by decide) (fun c_14 => ?_) (fun c_14 => ?_)
          · have hq := hq.trans (zif_f c_14)
            refine lv_iconst (v := 1) hx hb dX5_hold_69 (by decide) ?_
            refine zcVw (ci := 5) (n := 4) (c_X5_holdsAnew l D g u (v_X5_save (zU M 5 (fun _ => 0))) w (Int32.toNatClampNeg pp) (Int32.toNatClampNeg xx) 0 1 (by omega) (by omega) (zI_s5 z1 z0)) hx hb hml hown hts gX5_hold_X5_holdsAnew rfl ⟨rfl, by decide, by decide, by decide⟩ ⟨Nat.le_of_ble_eq_true rfl, Nat.le_of_ble_eq_true rfl⟩ ⟨rfl, rfl⟩ hK hP hD rfl rfl rfl hS hl.1 rfl rfl (Nat.le_of_ble_eq_true rfl) ⟨Nat.zero_le _, Nat.zero_le _⟩ dX5_hold_70 (fun H1 locs hP1 hk1 hS => ?_)
            have hD := zD_addr (ws' := zB_X5 (g 0) u ((v_X5_holdsAnew (v_X5_save (zU M 5 (fun _ => 0))) (Int32.toNatClampNeg pp) (Int32.toNatClampNeg xx) 0 1).2) w) hD (by simp only [zF, List.flatten_cons, List.flatten_nil, List.append_nil, List.map_append, List.map_cons, List.map_nil, zad_X0, zad_X1, zad_X2, zad_X3, zad_X4, zad_X5]); have hP := hP1
            clear hP1 hk1
            have hP : va_P D vwCl (zB_X5 (g 0) u ((v_X5_holdsAnew (v_X5_save (zU M 5 (fun _ => 0))) (Int32.toNatClampNeg pp) (Int32.toNatClampNeg xx) 0 1).2) w) H1 := hP
            have hD : va_D (zA (zB_X5 (g 0) u M w)) (zB_X5 (g 0) u ((v_X5_holdsAnew (v_X5_save (zU M 5 (fun _ => 0))) (Int32.toNatClampNeg pp) (Int32.toNatClampNeg xx) 0 1).2) w) := hD
            exact zretw_i hx hb hr hlocks dX5_hold_73 hP hS (congrArg (fun z9 => z9.1) hq) (congrArg (fun z9 => zB_X5 (g 0) u z9.2 w) hq)
          · have hq := hq.trans (zif_t c_14)
            refine lv_iconst (v := 0) hx hb dX5_hold_65 (by decide) ?_
            refine lv_goto (tgt := 70) hx hb dX5_hold_66 (by decide) ?_
            refine zcVw (ci := 5) (n := 4) (c_X5_holdsAnew l D g u (v_X5_save (zU M 5 (fun _ => 0))) w (Int32.toNatClampNeg pp) (Int32.toNatClampNeg xx) 0 0 (by omega) (by omega) (zI_s5 z1 z0)) hx hb hml hown hts gX5_hold_X5_holdsAnew rfl ⟨rfl, by decide, by decide, by decide⟩ ⟨Nat.le_of_ble_eq_true rfl, Nat.le_of_ble_eq_true rfl⟩ ⟨rfl, rfl⟩ hK hP hD rfl rfl rfl hS hl.1 rfl rfl (Nat.le_of_ble_eq_true rfl) ⟨Nat.zero_le _, Nat.zero_le _⟩ dX5_hold_70 (fun H1 locs hP1 hk1 hS => ?_)
            have hD := zD_addr (ws' := zB_X5 (g 0) u ((v_X5_holdsAnew (v_X5_save (zU M 5 (fun _ => 0))) (Int32.toNatClampNeg pp) (Int32.toNatClampNeg xx) 0 0).2) w) hD (by simp only [zF, List.flatten_cons, List.flatten_nil, List.append_nil, List.map_append, List.map_cons, List.map_nil, zad_X0, zad_X1, zad_X2, zad_X3, zad_X4, zad_X5]); have hP := hP1
            clear hP1 hk1
            have hP : va_P D vwCl (zB_X5 (g 0) u ((v_X5_holdsAnew (v_X5_save (zU M 5 (fun _ => 0))) (Int32.toNatClampNeg pp) (Int32.toNatClampNeg xx) 0 0).2) w) H1 := hP
            have hD : va_D (zA (zB_X5 (g 0) u M w)) (zB_X5 (g 0) u ((v_X5_holdsAnew (v_X5_save (zU M 5 (fun _ => 0))) (Int32.toNatClampNeg pp) (Int32.toNatClampNeg xx) 0 0).2) w) := hD
            exact zretw_i hx hb hr hlocks dX5_hold_73 hP hS (congrArg (fun z9 => z9.1) hq) (congrArg (fun z9 => zB_X5 (g 0) u z9.2 w) hq)
        · have hq := hq.trans (zif_t c_13)
          refine lv_iconst (v := 1) hx hb dX5_hold_56 (by decide) ?_
          refine lv_goto (tgt := 61) hx hb dX5_hold_57 (by decide) ?_
          refine lv_iload_n hx hb dX5_hold_61 rfl (lv_at hl 3 rfl) ?_
          refine zif_eq (tgt := 69) hx hb dX5_hold_62 (by decide) (fun c_17 => ?_) (fun c_17 => ?_)
          · have hq := hq.trans (zif_f c_17)
            refine lv_iconst (v := 1) hx hb dX5_hold_69 (by decide) ?_
            refine zcVw (ci := 5) (n := 4) (c_X5_holdsAnew l D g u (v_X5_save (zU M 5 (fun _ => 0))) w (Int32.toNatClampNeg pp) (Int32.toNatClampNeg xx) 1 1 (by omega) (by omega) (zI_s5 z1 z0)) hx hb hml hown hts gX5_hold_X5_holdsAnew rfl ⟨rfl, by decide, by decide, by decide⟩ ⟨Nat.le_of_ble_eq_true rfl, Nat.le_of_ble_eq_true rfl⟩ ⟨rfl, rfl⟩ hK hP hD rfl rfl rfl hS hl.1 rfl rfl (Nat.le_of_ble_eq_true rfl) ⟨Nat.zero_le _, Nat.zero_le _⟩ dX5_hold_70 (fun H1 locs hP1 hk1 hS => ?_)
            have hD := zD_addr (ws' := zB_X5 (g 0) u ((v_X5_holdsAnew (v_X5_save (zU M 5 (fun _ => 0))) (Int32.toNatClampNeg pp) (Int32.toNatClampNeg xx) 1 1).2) w) hD (by simp only [zF, List.flatten_cons, List.flatten_nil, List.append_nil, List.map_append, List.map_cons, List.map_nil, zad_X0, zad_X1, zad_X2, zad_X3, zad_X4, zad_X5]); have hP := hP1
            clear hP1 hk1
            have hP : va_P D vwCl (zB_X5 (g 0) u ((v_X5_holdsAnew (v_X5_save (zU M 5 (fun _ => 0))) (Int32.toNatClampNeg pp) (Int32.toNatClampNeg xx) 1 1).2) w) H1 := hP
            have hD : va_D (zA (zB_X5 (g 0) u M w)) (zB_X5 (g 0) u ((v_X5_holdsAnew (v_X5_save (zU M 5 (fun _ => 0))) (Int32.toNatClampNeg pp) (Int32.toNatClampNeg xx) 1 1).2) w) := hD
            exact zretw_i hx hb hr hlocks dX5_hold_73 hP hS (congrArg (fun z9 => z9.1) hq) (congrArg (fun z9 => zB_X5 (g 0) u z9.2 w) hq)
          · have hq := hq.trans (zif_t c_17)
            refine lv_iconst (v := 0) hx hb dX5_hold_65 (by decide) ?_
            refine lv_goto (tgt := 70) hx hb dX5_hold_66 (by decide) ?_
            refine zcVw (ci := 5) (n := 4) (c_X5_holdsAnew l D g u (v_X5_save (zU M 5 (fun _ => 0))) w (Int32.toNatClampNeg pp) (Int32.toNatClampNeg xx) 1 0 (by omega) (by omega) (zI_s5 z1 z0)) hx hb hml hown hts gX5_hold_X5_holdsAnew rfl ⟨rfl, by decide, by decide, by decide⟩ ⟨Nat.le_of_ble_eq_true rfl, Nat.le_of_ble_eq_true rfl⟩ ⟨rfl, rfl⟩ hK hP hD rfl rfl rfl hS hl.1 rfl rfl (Nat.le_of_ble_eq_true rfl) ⟨Nat.zero_le _, Nat.zero_le _⟩ dX5_hold_70 (fun H1 locs hP1 hk1 hS => ?_)
            have hD := zD_addr (ws' := zB_X5 (g 0) u ((v_X5_holdsAnew (v_X5_save (zU M 5 (fun _ => 0))) (Int32.toNatClampNeg pp) (Int32.toNatClampNeg xx) 1 0).2) w) hD (by simp only [zF, List.flatten_cons, List.flatten_nil, List.append_nil, List.map_append, List.map_cons, List.map_nil, zad_X0, zad_X1, zad_X2, zad_X3, zad_X4, zad_X5]); have hP := hP1
            clear hP1 hk1
            have hP : va_P D vwCl (zB_X5 (g 0) u ((v_X5_holdsAnew (v_X5_save (zU M 5 (fun _ => 0))) (Int32.toNatClampNeg pp) (Int32.toNatClampNeg xx) 1 0).2) w) H1 := hP
            have hD : va_D (zA (zB_X5 (g 0) u M w)) (zB_X5 (g 0) u ((v_X5_holdsAnew (v_X5_save (zU M 5 (fun _ => 0))) (Int32.toNatClampNeg pp) (Int32.toNatClampNeg xx) 1 0).2) w) := hD
            exact zretw_i hx hb hr hlocks dX5_hold_73 hP hS (congrArg (fun z9 => z9.1) hq) (congrArg (fun z9 => zB_X5 (g 0) u z9.2 w) hq)
    · have hq := hq.trans (zif_f c_5)
      refine lv_iconst (v := 1) hx hb dX5_hold_16 (by decide) ?_
      refine lv_goto (tgt := 33) hx hb dX5_hold_17 (by decide) ?_
      refine va_put (D := D) (ci := 5) (v := .int 1) (ty := .int) (C := RX5) (T := TX5) (N := 13) hx hb hts hinX5 tyX5 tyX5_ok nmX5 hown hK.1 hP hD hS 0 rfl rfl 5 (by decide) (hts (.fieldLink RX5 28 "SaltSharesModel" "thrown" "I") (List.mem_of_getElem? (i := 1) rfl)) (fun _ h9 => h9) rfl (by decide +kernel) rfl rfl (Nat.le_of_ble_eq_true rfl) dX5_hold_33 (fun H locs hP hD hS => ?_)
      have hP : va_P D vwCl (zB_X5 (g 0) u (zU M 5 (fun _ => 1)) w) H := hP
      have hD : va_D (zA (zB_X5 (g 0) u M w)) (zB_X5 (g 0) u (zU M 5 (fun _ => 1)) w) := hD
      refine lv_aload_n hx hb dX5_hold_36 rfl (lv_at hl 0 rfl) ?_
      refine va_get (D := D) (ci := 5) (v := .int 1) (C := RX5) (T := TX5) (N := 13) hx hb hts hinX5 hown hK.1 hP 0 rfl rfl 5 (by decide) (hts (.fieldLink RX5 28 "SaltSharesModel" "thrown" "I") (List.mem_of_getElem? (i := 1) rfl)) (fun _ h9 => h9) rfl dX5_hold_37 ?_
      refine lv_if_le (tgt := 45) hx hb dX5_hold_40 (by decide) (fun c_20 => ?_) (fun c_20 => ?_)
      · exact absurd c_20 (by decide)
      refine lv_iconst (v := 0) hx hb dX5_hold_43 (by decide) ?_
      exact zretw_i hx hb hr hlocks dX5_hold_44 hP hS (congrArg (fun z9 => z9.1) hq) (congrArg (fun z9 => zB_X5 (g 0) u z9.2 w) hq)
def v_X5_letGo (M : Nat → Nat → Int32) (pp : Int32) (xx : Int32) : Int32 × (Nat → Nat → Int32) := (if (v_X5_isPerson pp) = true then (if (v_X5_isBread M xx) = true then (if (v_X5_isHeld M 353 (Int32.toNatClampNeg pp) (Int32.toNatClampNeg xx)) = true then (((v_X5_holdsAnew (v_X5_save (zU M 5 (fun _ => 0))) (Int32.toNatClampNeg pp) (Int32.toNatClampNeg xx) 0 0).1), (v_X5_holdsAnew (v_X5_save (zU M 5 (fun _ => 0))) (Int32.toNatClampNeg pp) (Int32.toNatClampNeg xx) 0 0).2) else (if (v_X5_isHeld M 503 (Int32.toNatClampNeg pp) (Int32.toNatClampNeg xx)) = true then (((v_X5_holdsAnew (v_X5_save (zU M 5 (fun _ => 0))) (Int32.toNatClampNeg pp) (Int32.toNatClampNeg xx) 0 0).1), (v_X5_holdsAnew (v_X5_save (zU M 5 (fun _ => 0))) (Int32.toNatClampNeg pp) (Int32.toNatClampNeg xx) 0 0).2) else (0, zU M 5 (fun _ => 2)))) else (0, zU M 5 (fun _ => 1))) else (0, zU M 5 (fun _ => 1)))
set_option maxHeartbeats 400000 in
set_option maxRecDepth 100000 in
theorem c_X5_letGo (l : Launch) (D : va_G) (g : Nat → ClassId) (u : Nat → Nat) (M : Nat → Nat → Int32) (w : Int64) (pp : Int32) (xx : Int32) (z0 : zI M) (z1 : vp_in (M 1 0) 7) : Wr l D (zT g) yX5_letGo wsX5_letGo (rmOf 5 113) [.ref (u 0), .int pp, .int xx] (zB_X5 (g 0) u M w) (some (.int ((v_X5_letGo M pp xx).1))) (zB_X5 (g 0) u ((v_X5_letGo M pp xx).2) w) := by
  refine Wr.of (cc := cX5_letGo) (maxL := 3) (ret := (some .int)) (by decide) rfl (Nat.le_of_ble_eq_true rfl) ?_
  intro p e s m below meth c ls hx hb hr hml hown hts hlocks hP hD hS hK hl
  have hown : s.vm.findClass RX5 = some m.cls := hown
  have hinX5 : ∀ w ∈ u_ws RX5 TX5 13, w ∈ wsX5_letGo := fun _ h9 => (List.mem_cons_of_mem _ (List.mem_append_right _ h9))
  obtain ⟨q, hq⟩ : ∃ q : Int32 × (Nat → Nat → Int32), q = v_X5_letGo M pp xx := ⟨_, rfl⟩
  rw [← hq]
  unfold v_X5_letGo at hq
  have hl : lv_has ls 3 [(0, .ref (u 0)), (1, .int pp), (2, .int xx)] := hl
  refine lv_aload_n hx hb dX5_letGo_0 rfl (lv_at hl 0 rfl) ?_
  refine lv_iload_n hx hb dX5_letGo_1 rfl (lv_at hl 1 rfl) ?_
  refine zcSO (n := 1) (c_X5_isPerson l D g pp) hx hb hml hown hts gX5_letGo_X5_isPerson rfl ⟨by decide, by decide, by decide⟩ ⟨Nat.le_of_ble_eq_true rfl, Nat.le_of_ble_eq_true rfl⟩ ⟨rfl, rfl⟩ hK (hP.sub [] rfl) hl.1 rfl rfl (Nat.le_of_ble_eq_true rfl) ⟨Nat.zero_le _, Nat.zero_le _⟩ dX5_letGo_2 ?_
  refine zif_eq (tgt := 16) hx hb dX5_letGo_5 (by decide) (fun c_2 => ?_) (fun c_2 => ?_)
  · have hq := hq.trans (zif_f c_2)
    refine lv_iconst (v := 1) hx hb dX5_letGo_16 (by decide) ?_
    refine lv_goto (tgt := 49) hx hb dX5_letGo_17 (by decide) ?_
    refine va_put (D := D) (ci := 5) (v := .int 1) (ty := .int) (C := RX5) (T := TX5) (N := 13) hx hb hts hinX5 tyX5 tyX5_ok nmX5 hown hK.1 hP hD hS 0 rfl rfl 5 (by decide) (hts (.fieldLink RX5 28 "SaltSharesModel" "thrown" "I") (List.mem_of_getElem? (i := 1) rfl)) (fun _ h9 => h9) rfl (by decide +kernel) rfl rfl (Nat.le_of_ble_eq_true rfl) dX5_letGo_49 (fun H locs hP hD hS => ?_)
    have hP : va_P D vwCl (zB_X5 (g 0) u (zU M 5 (fun _ => 1)) w) H := hP
    have hD : va_D (zA (zB_X5 (g 0) u M w)) (zB_X5 (g 0) u (zU M 5 (fun _ => 1)) w) := hD
    refine lv_aload_n hx hb dX5_letGo_52 rfl (lv_at hl 0 rfl) ?_
    refine va_get (D := D) (ci := 5) (v := .int 1) (C := RX5) (T := TX5) (N := 13) hx hb hts hinX5 hown hK.1 hP 0 rfl rfl 5 (by decide) (hts (.fieldLink RX5 28 "SaltSharesModel" "thrown" "I") (List.mem_of_getElem? (i := 1) rfl)) (fun _ h9 => h9) rfl dX5_letGo_53 ?_
    refine lv_if_le (tgt := 61) hx hb dX5_letGo_56 (by decide) (fun c_3 => ?_) (fun c_3 => ?_)
    · exact absurd c_3 (by decide)
    refine lv_iconst (v := 0) hx hb dX5_letGo_59 (by decide) ?_
    exact zretw_i hx hb hr hlocks dX5_letGo_60 hP hS (congrArg (fun z9 => z9.1) hq) (congrArg (fun z9 => zB_X5 (g 0) u z9.2 w) hq)
  · have hq := hq.trans (zif_t c_2)
    refine lv_aload_n hx hb dX5_letGo_8 rfl (lv_at hl 0 rfl) ?_
    refine lv_iload_n hx hb dX5_letGo_9 rfl (lv_at hl 2 rfl) ?_
    refine zcV (ci := 5) (n := 1) (c_X5_isBread l D g u M w xx) hx hb hml hown hts gX5_letGo_X5_isBread rfl ⟨rfl, by decide, by decide, by decide⟩ ⟨Nat.le_of_ble_eq_true rfl, Nat.le_of_ble_eq_true rfl⟩ ⟨rfl, rfl⟩ hK hP rfl rfl rfl hl.1 rfl rfl (Nat.le_of_ble_eq_true rfl) ⟨Nat.zero_le _, Nat.zero_le _⟩ dX5_letGo_10 ?_
    refine zif_ne (tgt := 20) hx hb dX5_letGo_13 (by decide) (fun c_5 => ?_) (fun c_5 => ?_)
    · have hq := hq.trans (zif_t c_5)
      have w_6 := znat (zmp (by with_reducible assumption))
      have w_6b := w_6.2
      have hl : lv_has ls 3 [(0, .ref (u 0)), (1, .int (nI (Int32.toNatClampNeg pp))), (2, .int xx)] := by rw [← w_6.1]; exact hl
      have w_7 := znat (zmb (by with_reducible assumption) (zI_B z0))
      have w_7b := w_7.2
      have hl : lv_has ls 3 [(0, .ref (u 0)), (1, .int (nI (Int32.toNatClampNeg pp))), (2, .int (nI (Int32.toNatClampNeg xx)))] := by rw [← w_7.1]; exact hl
      refine lv_aload_n hx hb dX5_letGo_20 rfl (lv_at hl 0 rfl) ?_
      refine lv_sipush (v := 353) hx hb dX5_letGo_21 (by decide) ?_
      refine lv_iload_n hx hb dX5_letGo_24 rfl (lv_at hl 1 rfl) ?_
      refine lv_iload_n hx hb dX5_letGo_25 rfl (lv_at hl 2 rfl) ?_
      refine zcV (ci := 5) (n := 3) (c_X5_isHeld l D g u M w 353 (Int32.toNatClampNeg pp) (Int32.toNatClampNeg xx) (by omega)) hx hb hml hown hts gX5_letGo_X5_isHeld rfl ⟨rfl, by decide, by decide, by decide⟩ ⟨Nat.le_of_ble_eq_true rfl, Nat.le_of_ble_eq_true rfl⟩ ⟨rfl, rfl⟩ hK hP rfl rfl rfl hl.1 rfl rfl (Nat.le_of_ble_eq_true rfl) ⟨Nat.zero_le _, Nat.zero_le _⟩ dX5_letGo_26 ?_
      refine zif_ne (tgt := 44) hx hb dX5_letGo_29 (by decide) (fun c_9 => ?_) (fun c_9 => ?_)
      · have hq := hq.trans (zif_t c_9)
        refine lv_iconst (v := 0) hx hb dX5_letGo_44 (by decide) ?_
        refine lv_goto (tgt := 49) hx hb dX5_letGo_45 (by decide) ?_
        refine va_put (D := D) (ci := 5) (v := .int 0) (ty := .int) (C := RX5) (T := TX5) (N := 13) hx hb hts hinX5 tyX5 tyX5_ok nmX5 hown hK.1 hP hD hS 0 rfl rfl 5 (by decide) (hts (.fieldLink RX5 28 "SaltSharesModel" "thrown" "I") (List.mem_of_getElem? (i := 1) rfl)) (fun _ h9 => h9) rfl (by decide +kernel) rfl rfl (Nat.le_of_ble_eq_true rfl) dX5_letGo_49 (fun H locs hP hD hS => ?_)
        have hP : va_P D vwCl (zB_X5 (g 0) u (zU M 5 (fun _ => 0)) w) H := hP
        have hD : va_D (zA (zB_X5 (g 0) u M w)) (zB_X5 (g 0) u (zU M 5 (fun _ => 0)) w) := hD
        refine lv_aload_n hx hb dX5_letGo_52 rfl (lv_at hl 0 rfl) ?_
        refine va_get (D := D) (ci := 5) (v := .int 0) (C := RX5) (T := TX5) (N := 13) hx hb hts hinX5 hown hK.1 hP 0 rfl rfl 5 (by decide) (hts (.fieldLink RX5 28 "SaltSharesModel" "thrown" "I") (List.mem_of_getElem? (i := 1) rfl)) (fun _ h9 => h9) rfl dX5_letGo_53 ?_
        refine lv_if_le (tgt := 61) hx hb dX5_letGo_56 (by decide) (fun c_10 => ?_) (fun c_10 => ?_)
        rotate_left
        · exact absurd c_10 (by decide)
        refine lv_aload_n hx hb dX5_letGo_61 rfl (lv_at hl 0 rfl) ?_
        refine zcVw (ci := 5) (n := 0) (c_X5_save l D g u (zU M 5 (fun _ => 0)) w (zS_U z1)) hx hb hml hown hts gX5_letGo_X5_save rfl ⟨rfl, by decide, by decide, by decide⟩ ⟨Nat.le_of_ble_eq_true rfl, Nat.le_of_ble_eq_true rfl⟩ ⟨rfl, rfl⟩ hK hP hD rfl rfl rfl hS hl.1 rfl rfl (Nat.le_of_ble_eq_true rfl) ⟨Nat.zero_le _, Nat.zero_le _⟩ dX5_letGo_62 (fun H1 locs hP1 hk1 hS => ?_)
        have hD := zD_addr (ws' := zB_X5 (g 0) u (v_X5_save (zU M 5 (fun _ => 0))) w) hD (by simp only [zF, List.flatten_cons, List.flatten_nil, List.append_nil, List.map_append, List.map_cons, List.map_nil, zad_X0, zad_X1, zad_X2, zad_X3, zad_X4, zad_X5]); have hP := hP1
        clear hP1 hk1
        have hP : va_P D vwCl (zB_X5 (g 0) u (v_X5_save (zU M 5 (fun _ => 0))) w) H1 := hP
        have hD : va_D (zA (zB_X5 (g 0) u M w)) (zB_X5 (g 0) u (v_X5_save (zU M 5 (fun _ => 0))) w) := hD
        refine lv_aload_n hx hb dX5_letGo_65 rfl (lv_at hl 0 rfl) ?_
        refine lv_iload_n hx hb dX5_letGo_66 rfl (lv_at hl 1 rfl) ?_
        refine lv_iload_n hx hb dX5_letGo_67 rfl (lv_at hl 2 rfl) ?_
        refine lv_iconst (v := 0) hx hb dX5_letGo_68 (by decide) ?_
        refine lv_iconst (v := 0) hx hb dX5_letGo_69 (by decide) ?_
        refine zcVw (ci := 5) (n := 4) (c_X5_holdsAnew l D g u (v_X5_save (zU M 5 (fun _ => 0))) w (Int32.toNatClampNeg pp) (Int32.toNatClampNeg xx) 0 0 (by omega) (by omega) (zI_s5 z1 z0)) hx hb hml hown hts gX5_letGo_X5_holdsAnew rfl ⟨rfl, by decide, by decide, by decide⟩ ⟨Nat.le_of_ble_eq_true rfl, Nat.le_of_ble_eq_true rfl⟩ ⟨rfl, rfl⟩ hK hP hD rfl rfl rfl hS hl.1 rfl rfl (Nat.le_of_ble_eq_true rfl) ⟨Nat.zero_le _, Nat.zero_le _⟩ dX5_letGo_70 (fun H1 locs hP1 hk1 hS => ?_)
        have hD := zD_addr (ws' := zB_X5 (g 0) u ((v_X5_holdsAnew (v_X5_save (zU M 5 (fun _ => 0))) (Int32.toNatClampNeg pp) (Int32.toNatClampNeg xx) 0 0).2) w) hD (by simp only [zF, List.flatten_cons, List.flatten_nil, List.append_nil, List.map_append, List.map_cons, List.map_nil, zad_X0, zad_X1, zad_X2, zad_X3, zad_X4, zad_X5]); have hP := hP1
        clear hP1 hk1
        have hP : va_P D vwCl (zB_X5 (g 0) u ((v_X5_holdsAnew (v_X5_save (zU M 5 (fun _ => 0))) (Int32.toNatClampNeg pp) (Int32.toNatClampNeg xx) 0 0).2) w) H1 := hP
        have hD : va_D (zA (zB_X5 (g 0) u M w)) (zB_X5 (g 0) u ((v_X5_holdsAnew (v_X5_save (zU M 5 (fun _ => 0))) (Int32.toNatClampNeg pp) (Int32.toNatClampNeg xx) 0 0).2) w) := hD
        exact zretw_i hx hb hr hlocks dX5_letGo_73 hP hS (congrArg (fun z9 => z9.1) hq) (congrArg (fun z9 => zB_X5 (g 0) u z9.2 w) hq)
      · have hq := hq.trans (zif_f c_9)
        refine lv_aload_n hx hb dX5_letGo_32 rfl (lv_at hl 0 rfl) ?_
        refine lv_sipush (v := 503) hx hb dX5_letGo_33 (by decide) ?_
        refine lv_iload_n hx hb dX5_letGo_36 rfl (lv_at hl 1 rfl) ?_
        refine lv_iload_n hx hb dX5_letGo_37 rfl (lv_at hl 2 rfl) ?_
        refine zcV (ci := 5) (n := 3) (c_X5_isHeld l D g u M w 503 (Int32.toNatClampNeg pp) (Int32.toNatClampNeg xx) (by omega)) hx hb hml hown hts gX5_letGo_X5_isHeld rfl ⟨rfl, by decide, by decide, by decide⟩ ⟨Nat.le_of_ble_eq_true rfl, Nat.le_of_ble_eq_true rfl⟩ ⟨rfl, rfl⟩ hK hP rfl rfl rfl hl.1 rfl rfl (Nat.le_of_ble_eq_true rfl) ⟨Nat.zero_le _, Nat.zero_le _⟩ dX5_letGo_38 ?_
        refine zif_eq (tgt := 48) hx hb dX5_letGo_41 (by decide) (fun c_14 => ?_) (fun c_14 => ?_)
        · have hq := hq.trans (zif_f c_14)
          refine lv_iconst (v := 2) hx hb dX5_letGo_48 (by decide) ?_
          refine va_put (D := D) (ci := 5) (v := .int 2) (ty := .int) (C := RX5) (T := TX5) (N := 13) hx hb hts hinX5 tyX5 tyX5_ok nmX5 hown hK.1 hP hD hS 0 rfl rfl 5 (by decide) (hts (.fieldLink RX5 28 "SaltSharesModel" "thrown" "I") (List.mem_of_getElem? (i := 1) rfl)) (fun _ h9 => h9) rfl (by decide +kernel) rfl rfl (Nat.le_of_ble_eq_true rfl) dX5_letGo_49 (fun H locs hP hD hS => ?_)
          have hP : va_P D vwCl (zB_X5 (g 0) u (zU M 5 (fun _ => 2)) w) H := hP
          have hD : va_D (zA (zB_X5 (g 0) u M w)) (zB_X5 (g 0) u (zU M 5 (fun _ => 2)) w) := hD
          refine lv_aload_n hx hb dX5_letGo_52 rfl (lv_at hl 0 rfl) ?_
          refine va_get (D := D) (ci := 5) (v := .int 2) (C := RX5) (T := TX5) (N := 13) hx hb hts hinX5 hown hK.1 hP 0 rfl rfl 5 (by decide) (hts (.fieldLink RX5 28 "SaltSharesModel" "thrown" "I") (List.mem_of_getElem? (i := 1) rfl)) (fun _ h9 => h9) rfl dX5_letGo_53 ?_
          refine lv_if_le (tgt := 61) hx hb dX5_letGo_56 (by decide) (fun c_15 => ?_) (fun c_15 => ?_)
          · exact absurd c_15 (by decide)
          refine lv_iconst (v := 0) hx hb dX5_letGo_59 (by decide) ?_
          exact zretw_i hx hb hr hlocks dX5_letGo_60 hP hS (congrArg (fun z9 => z9.1) hq) (congrArg (fun z9 => zB_X5 (g 0) u z9.2 w) hq)
        · have hq := hq.trans (zif_t c_14)
          refine lv_iconst (v := 0) hx hb dX5_letGo_44 (by decide) ?_
          refine lv_goto (tgt := 49) hx hb dX5_letGo_45 (by decide) ?_
          refine va_put (D := D) (ci := 5) (v := .int 0) (ty := .int) (C := RX5) (T := TX5) (N := 13) hx hb hts hinX5 tyX5 tyX5_ok nmX5 hown hK.1 hP hD hS 0 rfl rfl 5 (by decide) (hts (.fieldLink RX5 28 "SaltSharesModel" "thrown" "I") (List.mem_of_getElem? (i := 1) rfl)) (fun _ h9 => h9) rfl (by decide +kernel) rfl rfl (Nat.le_of_ble_eq_true rfl) dX5_letGo_49 (fun H locs hP hD hS => ?_)
          have hP : va_P D vwCl (zB_X5 (g 0) u (zU M 5 (fun _ => 0)) w) H := hP
          have hD : va_D (zA (zB_X5 (g 0) u M w)) (zB_X5 (g 0) u (zU M 5 (fun _ => 0)) w) := hD
          refine lv_aload_n hx hb dX5_letGo_52 rfl (lv_at hl 0 rfl) ?_
          refine va_get (D := D) (ci := 5) (v := .int 0) (C := RX5) (T := TX5) (N := 13) hx hb hts hinX5 hown hK.1 hP 0 rfl rfl 5 (by decide) (hts (.fieldLink RX5 28 "SaltSharesModel" "thrown" "I") (List.mem_of_getElem? (i := 1) rfl)) (fun _ h9 => h9) rfl dX5_letGo_53 ?_
          refine lv_if_le (tgt := 61) hx hb dX5_letGo_56 (by decide) (fun c_16 => ?_) (fun c_16 => ?_)
          rotate_left
          · exact absurd c_16 (by decide)
          refine lv_aload_n hx hb dX5_letGo_61 rfl (lv_at hl 0 rfl) ?_
          refine zcVw (ci := 5) (n := 0) (c_X5_save l D g u (zU M 5 (fun _ => 0)) w (zS_U z1)) hx hb hml hown hts gX5_letGo_X5_save rfl ⟨rfl, by decide, by decide, by decide⟩ ⟨Nat.le_of_ble_eq_true rfl, Nat.le_of_ble_eq_true rfl⟩ ⟨rfl, rfl⟩ hK hP hD rfl rfl rfl hS hl.1 rfl rfl (Nat.le_of_ble_eq_true rfl) ⟨Nat.zero_le _, Nat.zero_le _⟩ dX5_letGo_62 (fun H1 locs hP1 hk1 hS => ?_)
          have hD := zD_addr (ws' := zB_X5 (g 0) u (v_X5_save (zU M 5 (fun _ => 0))) w) hD (by simp only [zF, List.flatten_cons, List.flatten_nil, List.append_nil, List.map_append, List.map_cons, List.map_nil, zad_X0, zad_X1, zad_X2, zad_X3, zad_X4, zad_X5]); have hP := hP1
          clear hP1 hk1
          have hP : va_P D vwCl (zB_X5 (g 0) u (v_X5_save (zU M 5 (fun _ => 0))) w) H1 := hP
          have hD : va_D (zA (zB_X5 (g 0) u M w)) (zB_X5 (g 0) u (v_X5_save (zU M 5 (fun _ => 0))) w) := hD
          refine lv_aload_n hx hb dX5_letGo_65 rfl (lv_at hl 0 rfl) ?_
          refine lv_iload_n hx hb dX5_letGo_66 rfl (lv_at hl 1 rfl) ?_
          refine lv_iload_n hx hb dX5_letGo_67 rfl (lv_at hl 2 rfl) ?_
          refine lv_iconst (v := 0) hx hb dX5_letGo_68 (by decide) ?_
          refine lv_iconst (v := 0) hx hb dX5_letGo_69 (by decide) ?_
          refine zcVw (ci := 5) (n := 4) (c_X5_holdsAnew l D g u (v_X5_save (zU M 5 (fun _ => 0))) w (Int32.toNatClampNeg pp) (Int32.toNatClampNeg xx) 0 0 (by omega) (by omega) (zI_s5 z1 z0)) hx hb hml hown hts gX5_letGo_X5_holdsAnew rfl ⟨rfl, by decide, by decide, by decide⟩ ⟨Nat.le_of_ble_eq_true rfl, Nat.le_of_ble_eq_true rfl⟩ ⟨rfl, rfl⟩ hK hP hD rfl rfl rfl hS hl.1 rfl rfl (Nat.le_of_ble_eq_true rfl) ⟨Nat.zero_le _, Nat.zero_le _⟩ dX5_letGo_70 (fun H1 locs hP1 hk1 hS => ?_)
          have hD := zD_addr (ws' := zB_X5 (g 0) u ((v_X5_holdsAnew (v_X5_save (zU M 5 (fun _ => 0))) (Int32.toNatClampNeg pp) (Int32.toNatClampNeg xx) 0 0).2) w) hD (by simp only [zF, List.flatten_cons, List.flatten_nil, List.append_nil, List.map_append, List.map_cons, List.map_nil, zad_X0, zad_X1, zad_X2, zad_X3, zad_X4, zad_X5]); have hP := hP1
          clear hP1 hk1
          have hP : va_P D vwCl (zB_X5 (g 0) u ((v_X5_holdsAnew (v_X5_save (zU M 5 (fun _ => 0))) (Int32.toNatClampNeg pp) (Int32.toNatClampNeg xx) 0 0).2) w) H1 := hP
          have hD : va_D (zA (zB_X5 (g 0) u M w)) (zB_X5 (g 0) u ((v_X5_holdsAnew (v_X5_save (zU M 5 (fun _ => 0))) (Int32.toNatClampNeg pp) (Int32.toNatClampNeg xx) 0 0).2) w) := hD
          exact zretw_i hx hb hr hlocks dX5_letGo_73 hP hS (congrArg (fun z9 => z9.1) hq) (congrArg (fun z9 => zB_X5 (g 0) u z9.2 w) hq)
    · have hq := hq.trans (zif_f c_5)
      refine lv_iconst (v := 1) hx hb dX5_letGo_16 (by decide) ?_
      refine lv_goto (tgt := 49) hx hb dX5_letGo_17 (by decide) ?_
      refine va_put (D := D) (ci := 5) (v := .int 1) (ty := .int) (C := RX5) (T := TX5) (N := 13) hx hb hts hinX5 tyX5 tyX5_ok nmX5 hown hK.1 hP hD hS 0 rfl rfl 5 (by decide) (hts (.fieldLink RX5 28 "SaltSharesModel" "thrown" "I") (List.mem_of_getElem? (i := 1) rfl)) (fun _ h9 => h9) rfl (by decide +kernel) rfl rfl (Nat.le_of_ble_eq_true rfl) dX5_letGo_49 (fun H locs hP hD hS => ?_)
      have hP : va_P D vwCl (zB_X5 (g 0) u (zU M 5 (fun _ => 1)) w) H := hP
      have hD : va_D (zA (zB_X5 (g 0) u M w)) (zB_X5 (g 0) u (zU M 5 (fun _ => 1)) w) := hD
      refine lv_aload_n hx hb dX5_letGo_52 rfl (lv_at hl 0 rfl) ?_
      refine va_get (D := D) (ci := 5) (v := .int 1) (C := RX5) (T := TX5) (N := 13) hx hb hts hinX5 hown hK.1 hP 0 rfl rfl 5 (by decide) (hts (.fieldLink RX5 28 "SaltSharesModel" "thrown" "I") (List.mem_of_getElem? (i := 1) rfl)) (fun _ h9 => h9) rfl dX5_letGo_53 ?_
      refine lv_if_le (tgt := 61) hx hb dX5_letGo_56 (by decide) (fun c_19 => ?_) (fun c_19 => ?_)
      · exact absurd c_19 (by decide)
      refine lv_iconst (v := 0) hx hb dX5_letGo_59 (by decide) ?_
      exact zretw_i hx hb hr hlocks dX5_letGo_60 hP hS (congrArg (fun z9 => z9.1) hq) (congrArg (fun z9 => zB_X5 (g 0) u z9.2 w) hq)
