theorem zmeat_at (M : Nat → Nat → Int32) (b : Nat) : ∀ (n m i : Nat), 150 - i < n → m ≤ i → i ≤ 150 → ∃ r : Nat, r ≤ 150 ∧ v_X5_eaters_4 M b n (nI m) i = nI r
  | 0, _, _, h, _, _ => absurd h (Nat.not_lt_zero _)
  | n + 1, m, i, h, hm, hi => by
    rw [v_X5_eaters_4]
    by_cases c : 150 ≤ i
    · rw [if_pos c]; exact ⟨m, by omega, rfl⟩
    · rw [if_neg c]
      by_cases d : v_X5_eatsNow M i b ≤ 0
      · rw [if_pos d, Int32.add_zero]; exact zmeat_at M b n m (i + 1) (by omega) (by omega) (by omega)
      · rw [if_neg d, nI_1]; exact zmeat_at M b n (m + 1) (i + 1) (by omega) (by omega) (by omega)
theorem zmeat (M : Nat → Nat → Int32) (b : Nat) : ∃ r : Nat, r ≤ 150 ∧ v_X5_eaters M b = nI r := by
  unfold v_X5_eaters; exact zmeat_at M b 151 0 0 (by omega) (by omega) (by omega)
theorem zmpart (M : Nat → Nat → Int32) (b : Nat) : vf_n64 (FP.ddiv (FP.i2d (v_X5_eaters M b)) 4639481672377565184) := by
  obtain ⟨r, h, e⟩ := zmeat M b
  rw [e]; exact zpart_ok h
def v_X5_partOf (M : Nat → Nat → Int32) (b : Nat) : UInt64 := FP.ddiv (FP.i2d (v_X5_eaters M b)) 4639481672377565184
set_option maxHeartbeats 400000 in
set_option maxRecDepth 100000 in
theorem c_X5_partOf (l : Launch) (D : va_G) (g : Nat → ClassId) (u : Nat → Nat) (M : Nat → Nat → Int32) (w : Int64) (b : Nat) (z0 : b < 8) (z1 : zI M) : Rd l D (zT g) yX5_partOf wsX5_partOf (rmOf 5 111) [.ref (u 0), .int (nI b)] (zB_X5 (g 0) u M w) (.double (v_X5_partOf M b)) := by
  refine Rd.of (cc := cX5_partOf) (maxL := 2) (ret := (some .double)) (by decide) rfl (Nat.le_of_ble_eq_true rfl) ?_
  intro p e s m below meth c ls hx hb hr hml hown hts hlocks hP hK hl
  have hown : s.vm.findClass RX5 = some m.cls := hown
  obtain ⟨q, hq⟩ : ∃ q : UInt64, q = v_X5_partOf M b := ⟨_, rfl⟩
  rw [← hq]
  unfold v_X5_partOf at hq
  have hl : lv_has ls 2 [(0, .ref (u 0)), (1, .int (nI b))] := hl
  refine lv_aload_n hx hb dX5_partOf_0 rfl (lv_at hl 0 rfl) ?_
  refine lv_iload_n hx hb dX5_partOf_1 rfl (lv_at hl 1 rfl) ?_
  refine zcV (ci := 5) (n := 1) (c_X5_eaters l D g u M w b z0 (zI_G z1)) hx hb hml hown hts gX5_partOf_X5_eaters rfl ⟨rfl, by decide, by decide, by decide⟩ ⟨Nat.le_of_ble_eq_true rfl, Nat.le_of_ble_eq_true rfl⟩ ⟨rfl, rfl⟩ hK hP rfl rfl rfl hl.1 rfl rfl (Nat.le_of_ble_eq_true rfl) ⟨Nat.zero_le _, Nat.zero_le _⟩ dX5_partOf_2 ?_
  refine lv_i2d hx hb dX5_partOf_5 ?_
  refine lv_ldc2d (v := 4639481672377565184) hx hb hown (hts (.constantDouble RX5 241 (4639481672377565184)) (List.mem_of_getElem? (i := 1) rfl)) dX5_partOf_6 ?_
  refine lv_ddiv hx hb dX5_partOf_9 (zmpart M b) ?_
  exact zret_d hx hb hr hlocks dX5_partOf_10 hq
def v_X5_part (M : Nat → Nat → Int32) (xx : Int32) : UInt64 × (Nat → Nat → Int32) := (if (v_X5_isBread M xx) = true then (v_X5_partOf (zU M 5 (fun _ => 0)) (Int32.toNatClampNeg xx), zU M 5 (fun _ => 0)) else (0, zU M 5 (fun _ => 1)))
set_option maxHeartbeats 400000 in
set_option maxRecDepth 100000 in
theorem c_X5_part (l : Launch) (D : va_G) (g : Nat → ClassId) (u : Nat → Nat) (M : Nat → Nat → Int32) (w : Int64) (xx : Int32) (z0 : zI M) : Wr l D (zT g) yX5_part wsX5_part (rmOf 6 132) [.ref (u 0), .int xx] (zB_X5 (g 0) u M w) (some (.double ((v_X5_part M xx).1))) (zB_X5 (g 0) u ((v_X5_part M xx).2) w) := by
  refine Wr.of (cc := cX5_part) (maxL := 2) (ret := (some .double)) (by decide) rfl (Nat.le_of_ble_eq_true rfl) ?_
  intro p e s m below meth c ls hx hb hr hml hown hts hlocks hP hD hS hK hl
  have hown : s.vm.findClass RX5 = some m.cls := hown
  have hinX5 : ∀ w ∈ u_ws RX5 TX5 13, w ∈ wsX5_part := fun _ h9 => (List.mem_cons_of_mem _ (List.mem_append_right _ h9))
  obtain ⟨q, hq⟩ : ∃ q : UInt64 × (Nat → Nat → Int32), q = v_X5_part M xx := ⟨_, rfl⟩
  rw [← hq]
  unfold v_X5_part at hq
  have hl : lv_has ls 2 [(0, .ref (u 0)), (1, .int xx)] := hl
  refine lv_aload_n hx hb dX5_part_0 rfl (lv_at hl 0 rfl) ?_
  refine lv_aload_n hx hb dX5_part_1 rfl (lv_at hl 0 rfl) ?_
  refine lv_iload_n hx hb dX5_part_2 rfl (lv_at hl 1 rfl) ?_
  refine zcV (ci := 5) (n := 1) (c_X5_isBread l D g u M w xx) hx hb hml hown hts gX5_part_X5_isBread rfl ⟨rfl, by decide, by decide, by decide⟩ ⟨Nat.le_of_ble_eq_true rfl, Nat.le_of_ble_eq_true rfl⟩ ⟨rfl, rfl⟩ hK hP rfl rfl rfl hl.1 rfl rfl (Nat.le_of_ble_eq_true rfl) ⟨Nat.zero_le _, Nat.zero_le _⟩ dX5_part_3 ?_
  refine zif_eq (tgt := 13) hx hb dX5_part_6 (by decide) (fun c_2 => ?_) (fun c_2 => ?_)
  · have hq := hq.trans (zif_f c_2)
    refine lv_iconst (v := 1) hx hb dX5_part_13 (by decide) ?_
    refine va_put (D := D) (ci := 5) (v := .int 1) (ty := .int) (C := RX5) (T := TX5) (N := 13) hx hb hts hinX5 tyX5 tyX5_ok nmX5 hown hK.1 hP hD hS 0 rfl rfl 5 (by decide) (hts (.fieldLink RX5 28 "SaltSharesModel" "thrown" "I") (List.mem_of_getElem? (i := 1) rfl)) (fun _ h9 => h9) rfl (by decide +kernel) rfl rfl (Nat.le_of_ble_eq_true rfl) dX5_part_14 (fun H locs hP hD hS => ?_)
    have hP : va_P D vwCl (zB_X5 (g 0) u (zU M 5 (fun _ => 1)) w) H := hP
    have hD : va_D (zA (zB_X5 (g 0) u M w)) (zB_X5 (g 0) u (zU M 5 (fun _ => 1)) w) := hD
    refine lv_aload_n hx hb dX5_part_17 rfl (lv_at hl 0 rfl) ?_
    refine va_get (D := D) (ci := 5) (v := .int 1) (C := RX5) (T := TX5) (N := 13) hx hb hts hinX5 hown hK.1 hP 0 rfl rfl 5 (by decide) (hts (.fieldLink RX5 28 "SaltSharesModel" "thrown" "I") (List.mem_of_getElem? (i := 1) rfl)) (fun _ h9 => h9) rfl dX5_part_18 ?_
    refine lv_if_le (tgt := 28) hx hb dX5_part_21 (by decide) (fun c_3 => ?_) (fun c_3 => ?_)
    · exact absurd c_3 (by decide)
    refine lv_dconst0 hx hb dX5_part_24 ?_
    refine lv_goto (tgt := 33) hx hb dX5_part_25 (by decide) ?_
    exact zretw_d hx hb hr hlocks dX5_part_33 hP hS (by first | with_reducible exact congrArg (fun z9 => z9.1) hq | exact congrArg (fun z9 => z9.1) hq) (by with_reducible exact congrArg (fun z9 => zB_X5 (g 0) u z9.2 w) hq)
  · have hq := hq.trans (zif_t c_2)
    refine lv_iconst (v := 0) hx hb dX5_part_9 (by decide) ?_
    refine lv_goto (tgt := 14) hx hb dX5_part_10 (by decide) ?_
    refine va_put (D := D) (ci := 5) (v := .int 0) (ty := .int) (C := RX5) (T := TX5) (N := 13) hx hb hts hinX5 tyX5 tyX5_ok nmX5 hown hK.1 hP hD hS 0 rfl rfl 5 (by decide) (hts (.fieldLink RX5 28 "SaltSharesModel" "thrown" "I") (List.mem_of_getElem? (i := 1) rfl)) (fun _ h9 => h9) rfl (by decide +kernel) rfl rfl (Nat.le_of_ble_eq_true rfl) dX5_part_14 (fun H locs hP hD hS => ?_)
    have hP : va_P D vwCl (zB_X5 (g 0) u (zU M 5 (fun _ => 0)) w) H := hP
    have hD : va_D (zA (zB_X5 (g 0) u M w)) (zB_X5 (g 0) u (zU M 5 (fun _ => 0)) w) := hD
    refine lv_aload_n hx hb dX5_part_17 rfl (lv_at hl 0 rfl) ?_
    refine va_get (D := D) (ci := 5) (v := .int 0) (C := RX5) (T := TX5) (N := 13) hx hb hts hinX5 hown hK.1 hP 0 rfl rfl 5 (by decide) (hts (.fieldLink RX5 28 "SaltSharesModel" "thrown" "I") (List.mem_of_getElem? (i := 1) rfl)) (fun _ h9 => h9) rfl dX5_part_18 ?_
    refine lv_if_le (tgt := 28) hx hb dX5_part_21 (by decide) (fun c_4 => ?_) (fun c_4 => ?_)
    rotate_left
    · exact absurd c_4 (by decide)
    have w_5 := znat (zmb (by with_reducible assumption) (zI_B z0))
    have w_5b := w_5.2
    have hl : lv_has ls 2 [(0, .ref (u 0)), (1, .int (nI (Int32.toNatClampNeg xx)))] := by rw [← w_5.1]; exact hl
    refine lv_aload_n hx hb dX5_part_28 rfl (lv_at hl 0 rfl) ?_
    refine lv_iload_n hx hb dX5_part_29 rfl (lv_at hl 1 rfl) ?_
    refine zcV (ci := 5) (n := 1) (c_X5_partOf l D g u (zU M 5 (fun _ => 0)) w (Int32.toNatClampNeg xx) (by omega) (zI_U z0)) hx hb hml hown hts gX5_part_X5_partOf rfl ⟨rfl, by decide, by decide, by decide⟩ ⟨Nat.le_of_ble_eq_true rfl, Nat.le_of_ble_eq_true rfl⟩ ⟨rfl, rfl⟩ hK hP rfl rfl rfl hl.1 rfl rfl (Nat.le_of_ble_eq_true rfl) ⟨Nat.zero_le _, Nat.zero_le _⟩ dX5_part_30 ?_
    exact zretw_d hx hb hr hlocks dX5_part_33 hP hS (by first | with_reducible exact congrArg (fun z9 => z9.1) hq | exact congrArg (fun z9 => z9.1) hq) (by with_reducible exact congrArg (fun z9 => zB_X5 (g 0) u z9.2 w) hq)
