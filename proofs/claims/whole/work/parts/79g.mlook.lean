def v_X5_nextEater (M : Nat → Nat → Int32) (xx : Int32) : Int32 × (Nat → Nat → Int32) := (if (v_X5_isBread M xx) = true then (((v_X5_nextNow (zU M 5 (fun _ => 0)) (Int32.toNatClampNeg xx)).1), (v_X5_nextNow (zU M 5 (fun _ => 0)) (Int32.toNatClampNeg xx)).2) else (0, zU M 5 (fun _ => 1)))
set_option maxHeartbeats 400000 in
set_option maxRecDepth 100000 in
theorem c_X5_nextEater (l : Launch) (D : va_G) (g : Nat → ClassId) (u : Nat → Nat) (M : Nat → Nat → Int32) (w : Int64) (xx : Int32) (z0 : zI M) : Wr l D (zT g) yX5_nextEater wsX5_nextEater (rmOf 6 134) [.ref (u 0), .int xx] (zB_X5 (g 0) u M w) (some (.int ((v_X5_nextEater M xx).1))) (zB_X5 (g 0) u ((v_X5_nextEater M xx).2) w) := by
  refine Wr.of (cc := cX5_nextEater) (maxL := 2) (ret := (some .int)) (by decide) rfl (Nat.le_of_ble_eq_true rfl) ?_
  intro p e s m below meth c ls hx hb hr hml hown hts hlocks hP hD hS hK hl
  have hown : s.vm.findClass RX5 = some m.cls := hown
  have hinX5 : ∀ w ∈ u_ws RX5 TX5 13, w ∈ wsX5_nextEater := fun _ h9 => (List.mem_cons_of_mem _ (List.mem_append_right _ h9))
  obtain ⟨q, hq⟩ : ∃ q : Int32 × (Nat → Nat → Int32), q = v_X5_nextEater M xx := ⟨_, rfl⟩
  rw [← hq]
  unfold v_X5_nextEater at hq
  have hl : lv_has ls 2 [(0, .ref (u 0)), (1, .int xx)] := hl
  refine lv_aload_n hx hb dX5_nextEater_0 rfl (lv_at hl 0 rfl) ?_
  refine lv_aload_n hx hb dX5_nextEater_1 rfl (lv_at hl 0 rfl) ?_
  refine lv_iload_n hx hb dX5_nextEater_2 rfl (lv_at hl 1 rfl) ?_
  refine zcV (ci := 5) (n := 1) (c_X5_isBread l D g u M w xx) hx hb hml hown hts gX5_nextEater_X5_isBread rfl ⟨rfl, by decide, by decide, by decide⟩ ⟨Nat.le_of_ble_eq_true rfl, Nat.le_of_ble_eq_true rfl⟩ ⟨rfl, rfl⟩ hK hP rfl rfl rfl hl.1 rfl rfl (Nat.le_of_ble_eq_true rfl) ⟨Nat.zero_le _, Nat.zero_le _⟩ dX5_nextEater_3 ?_
  refine zif_eq (tgt := 13) hx hb dX5_nextEater_6 (by decide) (fun c_2 => ?_) (fun c_2 => ?_)
  · have hq := hq.trans (zif_f c_2)
    refine lv_iconst (v := 1) hx hb dX5_nextEater_13 (by decide) ?_
    refine va_put (D := D) (ci := 5) (v := .int 1) (ty := .int) (C := RX5) (T := TX5) (N := 13) hx hb hts hinX5 tyX5 tyX5_ok nmX5 hown hK.1 hP hD hS 0 rfl rfl 5 (by decide) (hts (.fieldLink RX5 28 "SaltSharesModel" "thrown" "I") (List.mem_of_getElem? (i := 1) rfl)) (fun _ h9 => h9) rfl (by decide +kernel) rfl rfl (Nat.le_of_ble_eq_true rfl) dX5_nextEater_14 (fun H locs hP hD hS => ?_)
    have hP : va_P D vwCl (zB_X5 (g 0) u (zU M 5 (fun _ => 1)) w) H := hP
    have hD : va_D (zA (zB_X5 (g 0) u M w)) (zB_X5 (g 0) u (zU M 5 (fun _ => 1)) w) := hD
    refine lv_aload_n hx hb dX5_nextEater_17 rfl (lv_at hl 0 rfl) ?_
    refine va_get (D := D) (ci := 5) (v := .int 1) (C := RX5) (T := TX5) (N := 13) hx hb hts hinX5 hown hK.1 hP 0 rfl rfl 5 (by decide) (hts (.fieldLink RX5 28 "SaltSharesModel" "thrown" "I") (List.mem_of_getElem? (i := 1) rfl)) (fun _ h9 => h9) rfl dX5_nextEater_18 ?_
    refine lv_if_le (tgt := 28) hx hb dX5_nextEater_21 (by decide) (fun c_3 => ?_) (fun c_3 => ?_)
    · exact absurd c_3 (by decide)
    refine lv_iconst (v := 0) hx hb dX5_nextEater_24 (by decide) ?_
    refine lv_goto (tgt := 33) hx hb dX5_nextEater_25 (by decide) ?_
    exact zretw_i hx hb hr hlocks dX5_nextEater_33 hP hS (by with_reducible exact congrArg (fun z9 => z9.1) hq) (by with_reducible exact congrArg (fun z9 => zB_X5 (g 0) u z9.2 w) hq)
  · have hq := hq.trans (zif_t c_2)
    refine lv_iconst (v := 0) hx hb dX5_nextEater_9 (by decide) ?_
    refine lv_goto (tgt := 14) hx hb dX5_nextEater_10 (by decide) ?_
    refine va_put (D := D) (ci := 5) (v := .int 0) (ty := .int) (C := RX5) (T := TX5) (N := 13) hx hb hts hinX5 tyX5 tyX5_ok nmX5 hown hK.1 hP hD hS 0 rfl rfl 5 (by decide) (hts (.fieldLink RX5 28 "SaltSharesModel" "thrown" "I") (List.mem_of_getElem? (i := 1) rfl)) (fun _ h9 => h9) rfl (by decide +kernel) rfl rfl (Nat.le_of_ble_eq_true rfl) dX5_nextEater_14 (fun H locs hP hD hS => ?_)
    have hP : va_P D vwCl (zB_X5 (g 0) u (zU M 5 (fun _ => 0)) w) H := hP
    have hD : va_D (zA (zB_X5 (g 0) u M w)) (zB_X5 (g 0) u (zU M 5 (fun _ => 0)) w) := hD
    refine lv_aload_n hx hb dX5_nextEater_17 rfl (lv_at hl 0 rfl) ?_
    refine va_get (D := D) (ci := 5) (v := .int 0) (C := RX5) (T := TX5) (N := 13) hx hb hts hinX5 hown hK.1 hP 0 rfl rfl 5 (by decide) (hts (.fieldLink RX5 28 "SaltSharesModel" "thrown" "I") (List.mem_of_getElem? (i := 1) rfl)) (fun _ h9 => h9) rfl dX5_nextEater_18 ?_
    refine lv_if_le (tgt := 28) hx hb dX5_nextEater_21 (by decide) (fun c_4 => ?_) (fun c_4 => ?_)
    rotate_left
    · exact absurd c_4 (by decide)
    have w_5 := znat (zmb (by with_reducible assumption) (zI_B z0))
    have w_5b := w_5.2
    have hl : lv_has ls 2 [(0, .ref (u 0)), (1, .int (nI (Int32.toNatClampNeg xx)))] := by rw [← w_5.1]; exact hl
    refine lv_aload_n hx hb dX5_nextEater_28 rfl (lv_at hl 0 rfl) ?_
    refine lv_iload_n hx hb dX5_nextEater_29 rfl (lv_at hl 1 rfl) ?_
    refine zcVw (ci := 5) (n := 1) (c_X5_nextNow l D g u (zU M 5 (fun _ => 0)) w (Int32.toNatClampNeg xx) (by omega) (zI_U z0) (by rw [zU_n _ _ (by decide)]; exact zmb2 (by with_reducible assumption) (zI_B z0))) hx hb hml hown hts gX5_nextEater_X5_nextNow rfl ⟨rfl, by decide, by decide, by decide⟩ ⟨Nat.le_of_ble_eq_true rfl, Nat.le_of_ble_eq_true rfl⟩ ⟨rfl, rfl⟩ hK hP hD rfl rfl rfl hS hl.1 rfl rfl (Nat.le_of_ble_eq_true rfl) ⟨Nat.zero_le _, Nat.zero_le _⟩ dX5_nextEater_30 (fun H1 locs hP1 hk1 hS => ?_)
    have hD := zD_addr (ws' := zB_X5 (g 0) u ((v_X5_nextNow (zU M 5 (fun _ => 0)) (Int32.toNatClampNeg xx)).2) w) hD (by simp only [zF, List.flatten_cons, List.flatten_nil, List.append_nil, List.map_append, List.map_cons, List.map_nil, zad_X0, zad_X1, zad_X2, zad_X3, zad_X4, zad_X5]); have hP := hP1
    clear hP1 hk1
    have hP : va_P D vwCl (zB_X5 (g 0) u ((v_X5_nextNow (zU M 5 (fun _ => 0)) (Int32.toNatClampNeg xx)).2) w) H1 := hP
    have hD : va_D (zA (zB_X5 (g 0) u M w)) (zB_X5 (g 0) u ((v_X5_nextNow (zU M 5 (fun _ => 0)) (Int32.toNatClampNeg xx)).2) w) := hD
    exact zretw_i hx hb hr hlocks dX5_nextEater_33 hP hS (by with_reducible exact congrArg (fun z9 => z9.1) hq) (by with_reducible exact congrArg (fun z9 => zB_X5 (g 0) u z9.2 w) hq)
