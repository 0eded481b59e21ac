def v_X5_eats (M : Nat → Nat → Int32) (pp : Int32) (xx : Int32) : Int32 × (Nat → Nat → Int32) := (if (v_X5_isPerson pp) = true then (if (v_X5_isBread M xx) = true then ((v_X5_eatsNow (zU M 5 (fun _ => 0)) (Int32.toNatClampNeg pp) (Int32.toNatClampNeg xx)), zU M 5 (fun _ => 0)) else (0, zU M 5 (fun _ => 1))) else (0, zU M 5 (fun _ => 1)))
set_option maxHeartbeats 400000 in
set_option maxRecDepth 100000 in
theorem c_X5_eats (l : Launch) (D : va_G) (g : Nat → ClassId) (u : Nat → Nat) (M : Nat → Nat → Int32) (w : Int64) (pp : Int32) (xx : Int32) (z0 : zI M) : Wr l D (zT g) yX5_eats wsX5_eats (rmOf 4 88) [.ref (u 0), .int pp, .int xx] (zB_X5 (g 0) u M w) (some (.int ((v_X5_eats M pp xx).1))) (zB_X5 (g 0) u ((v_X5_eats M pp xx).2) w) := by
  refine Wr.of (cc := cX5_eats) (maxL := 3) (ret := (some .int)) (by decide) rfl (Nat.le_of_ble_eq_true rfl) ?_
  intro p e s m below meth c ls hx hb hr hml hown hts hlocks hP hD hS hK hl
  have hown : s.vm.findClass RX5 = some m.cls := hown
  have hinX5 : ∀ w ∈ u_ws RX5 TX5 13, w ∈ wsX5_eats := fun _ h9 => (List.mem_cons_of_mem _ (List.mem_append_right _ h9))
  obtain ⟨q, hq⟩ : ∃ q : Int32 × (Nat → Nat → Int32), q = v_X5_eats M pp xx := ⟨_, rfl⟩
  rw [← hq]
  unfold v_X5_eats at hq
  have hl : lv_has ls 3 [(0, .ref (u 0)), (1, .int pp), (2, .int xx)] := hl
  refine lv_aload_n hx hb dX5_eats_0 rfl (lv_at hl 0 rfl) ?_
  refine lv_iload_n hx hb dX5_eats_1 rfl (lv_at hl 1 rfl) ?_
  refine zcSO (n := 1) (c_X5_isPerson l D g pp) hx hb hml hown hts gX5_eats_X5_isPerson rfl ⟨by decide, by decide, by decide⟩ ⟨Nat.le_of_ble_eq_true rfl, Nat.le_of_ble_eq_true rfl⟩ ⟨rfl, rfl⟩ hK (hP.sub [] rfl) hl.1 rfl rfl (Nat.le_of_ble_eq_true rfl) ⟨Nat.zero_le _, Nat.zero_le _⟩ dX5_eats_2 ?_
  refine zif_eq (tgt := 20) hx hb dX5_eats_5 (by decide) (fun c_2 => ?_) (fun c_2 => ?_)
  · have hq := hq.trans (zif_f c_2)
    refine lv_iconst (v := 1) hx hb dX5_eats_20 (by decide) ?_
    refine va_put (D := D) (ci := 5) (v := .int 1) (ty := .int) (C := RX5) (T := TX5) (N := 13) hx hb hts hinX5 tyX5 tyX5_ok nmX5 hown hK.1 hP hD hS 0 rfl rfl 5 (by decide) (hts (.fieldLink RX5 28 "SaltSharesModel" "thrown" "I") (List.mem_of_getElem? (i := 1) rfl)) (fun _ h9 => h9) rfl (by decide +kernel) rfl rfl (Nat.le_of_ble_eq_true rfl) dX5_eats_21 (fun H locs hP hD hS => ?_)
    have hP : va_P D vwCl (zB_X5 (g 0) u (zU M 5 (fun _ => 1)) w) H := hP
    have hD : va_D (zA (zB_X5 (g 0) u M w)) (zB_X5 (g 0) u (zU M 5 (fun _ => 1)) w) := hD
    refine lv_aload_n hx hb dX5_eats_24 rfl (lv_at hl 0 rfl) ?_
    refine va_get (D := D) (ci := 5) (v := .int 1) (C := RX5) (T := TX5) (N := 13) hx hb hts hinX5 hown hK.1 hP 0 rfl rfl 5 (by decide) (hts (.fieldLink RX5 28 "SaltSharesModel" "thrown" "I") (List.mem_of_getElem? (i := 1) rfl)) (fun _ h9 => h9) rfl dX5_eats_25 ?_
    refine lv_if_le (tgt := 35) hx hb dX5_eats_28 (by decide) (fun c_3 => ?_) (fun c_3 => ?_)
    · exact absurd c_3 (by decide)
    refine lv_iconst (v := 0) hx hb dX5_eats_31 (by decide) ?_
    refine lv_goto (tgt := 41) hx hb dX5_eats_32 (by decide) ?_
    exact zretw_i hx hb hr hlocks dX5_eats_41 hP hS (congrArg (fun z9 => z9.1) hq) (congrArg (fun z9 => zB_X5 (g 0) u z9.2 w) hq)
  · have hq := hq.trans (zif_t c_2)
    refine lv_aload_n hx hb dX5_eats_8 rfl (lv_at hl 0 rfl) ?_
    refine lv_iload_n hx hb dX5_eats_9 rfl (lv_at hl 2 rfl) ?_
    refine zcV (ci := 5) (n := 1) (c_X5_isBread l D g u M w xx) hx hb hml hown hts gX5_eats_X5_isBread rfl ⟨rfl, by decide, by decide, by decide⟩ ⟨Nat.le_of_ble_eq_true rfl, Nat.le_of_ble_eq_true rfl⟩ ⟨rfl, rfl⟩ hK hP rfl rfl rfl hl.1 rfl rfl (Nat.le_of_ble_eq_true rfl) ⟨Nat.zero_le _, Nat.zero_le _⟩ dX5_eats_10 ?_
    refine zif_eq (tgt := 20) hx hb dX5_eats_13 (by decide) (fun c_5 => ?_) (fun c_5 => ?_)
    · have hq := hq.trans (zif_f c_5)
      refine lv_iconst (v := 1) hx hb dX5_eats_20 (by decide) ?_
      refine va_put (D := D) (ci := 5) (v := .int 1) (ty := .int) (C := RX5) (T := TX5) (N := 13) hx hb hts hinX5 tyX5 tyX5_ok nmX5 hown hK.1 hP hD hS 0 rfl rfl 5 (by decide) (hts (.fieldLink RX5 28 "SaltSharesModel" "thrown" "I") (List.mem_of_getElem? (i := 1) rfl)) (fun _ h9 => h9) rfl (by decide +kernel) rfl rfl (Nat.le_of_ble_eq_true rfl) dX5_eats_21 (fun H locs hP hD hS => ?_)
      have hP : va_P D vwCl (zB_X5 (g 0) u (zU M 5 (fun _ => 1)) w) H := hP
      have hD : va_D (zA (zB_X5 (g 0) u M w)) (zB_X5 (g 0) u (zU M 5 (fun _ => 1)) w) := hD
      refine lv_aload_n hx hb dX5_eats_24 rfl (lv_at hl 0 rfl) ?_
      refine va_get (D := D) (ci := 5) (v := .int 1) (C := RX5) (T := TX5) (N := 13) hx hb hts hinX5 hown hK.1 hP 0 rfl rfl 5 (by decide) (hts (.fieldLink RX5 28 "SaltSharesModel" "thrown" "I") (List.mem_of_getElem? (i := 1) rfl)) (fun _ h9 => h9) rfl dX5_eats_25 ?_
      refine lv_if_le (tgt := 35) hx hb dX5_eats_28 (by decide) (fun c_6 => ?_) (fun c_6 => ?_)
      · exact absurd c_6 (by decide)
      refine lv_iconst (v := 0) hx hb dX5_eats_31 (by decide) ?_
      refine lv_goto (tgt := 41) hx hb dX5_eats_32 (by decide) ?_
      exact zretw_i hx hb hr hlocks dX5_eats_41 hP hS (congrArg (fun z9 => z9.1) hq) (congrArg (fun z9 => zB_X5 (g 0) u z9.2 w) hq)
    · have hq := hq.trans (zif_t c_5)
      refine lv_iconst (v := 0) hx hb dX5_eats_16 (by decide) ?_
      refine lv_goto (tgt := 21) hx hb dX5_eats_17 (by decide) ?_
      refine va_put (D := D) (ci := 5) (v := .int 0) (ty := .int) (C := RX5) (T := TX5) (N := 13) hx hb hts hinX5 tyX5 tyX5_ok nmX5 hown hK.1 hP hD hS 0 rfl rfl 5 (by decide) (hts (.fieldLink RX5 28 "SaltSharesModel" "thrown" "I") (List.mem_of_getElem? (i := 1) rfl)) (fun _ h9 => h9) rfl (by decide +kernel) rfl rfl (Nat.le_of_ble_eq_true rfl) dX5_eats_21 (fun H locs hP hD hS => ?_)
      have hP : va_P D vwCl (zB_X5 (g 0) u (zU M 5 (fun _ => 0)) w) H := hP
      have hD : va_D (zA (zB_X5 (g 0) u M w)) (zB_X5 (g 0) u (zU M 5 (fun _ => 0)) w) := hD
      refine lv_aload_n hx hb dX5_eats_24 rfl (lv_at hl 0 rfl) ?_
      refine va_get (D := D) (ci := 5) (v := .int 0) (C := RX5) (T := TX5) (N := 13) hx hb hts hinX5 hown hK.1 hP 0 rfl rfl 5 (by decide) (hts (.fieldLink RX5 28 "SaltSharesModel" "thrown" "I") (List.mem_of_getElem? (i := 1) rfl)) (fun _ h9 => h9) rfl dX5_eats_25 ?_
      refine lv_if_le (tgt := 35) hx hb dX5_eats_28 (by decide) (fun c_7 => ?_) (fun c_7 => ?_)
      rotate_left
      · exact absurd c_7 (by decide)
      have w_8 := znat (zmp (by with_reducible assumption))
      have w_8b := w_8.2
      have hl : lv_has ls 3 [(0, .ref (u 0)), (1, .int (nI (Int32.toNatClampNeg pp))), (2, .int xx)] := by rw [← w_8.1]; exact hl
      have w_9 := znat (zmb (by with_reducible assumption) (zI_B z0))
      have w_9b := w_9.2
      have hl : lv_has ls 3 [(0, .ref (u 0)), (1, .int (nI (Int32.toNatClampNeg pp))), (2, .int (nI (Int32.toNatClampNeg xx)))] := by rw [← w_9.1]; exact hl
      refine lv_aload_n hx hb dX5_eats_35 rfl (lv_at hl 0 rfl) ?_
      refine lv_iload_n hx hb dX5_eats_36 rfl (lv_at hl 1 rfl) ?_
      refine lv_iload_n hx hb dX5_eats_37 rfl (lv_at hl 2 rfl) ?_
      refine zcV (ci := 5) (n := 2) (c_X5_eatsNow l D g u (zU M 5 (fun _ => 0)) w (Int32.toNatClampNeg pp) (Int32.toNatClampNeg xx) (by omega) (by omega) (zI_G (zI_U z0))) hx hb hml hown hts gX5_eats_X5_eatsNow rfl ⟨rfl, by decide, by decide, by decide⟩ ⟨Nat.le_of_ble_eq_true rfl, Nat.le_of_ble_eq_true rfl⟩ ⟨rfl, rfl⟩ hK hP rfl rfl rfl hl.1 rfl rfl (Nat.le_of_ble_eq_true rfl) ⟨Nat.zero_le _, Nat.zero_le _⟩ dX5_eats_38 ?_
      exact zretw_i hx hb hr hlocks dX5_eats_41 hP hS (congrArg (fun z9 => z9.1) hq) (congrArg (fun z9 => zB_X5 (g 0) u z9.2 w) hq)
def v_X5_bucket (M : Nat → Nat → Int32) (pp : Int32) (xx : Int32) : Int32 × (Nat → Nat → Int32) := (if (v_X5_isPerson pp) = true then (if (v_X5_isBread M xx) = true then ((nI (v_X5_bucketBy pp (v_X5_saltOf (zU M 5 (fun _ => 0)) (Int32.toNatClampNeg xx)))), zU M 5 (fun _ => 0)) else (0, zU M 5 (fun _ => 1))) else (0, zU M 5 (fun _ => 1)))
set_option maxHeartbeats 400000 in
set_option maxRecDepth 100000 in
theorem c_X5_bucket (l : Launch) (D : va_G) (g : Nat → ClassId) (u : Nat → Nat) (M : Nat → Nat → Int32) (w : Int64) (pp : Int32) (xx : Int32) (z0 : zI M) : Wr l D (zT g) yX5_bucket wsX5_bucket (rmOf 3 64) [.ref (u 0), .int pp, .int xx] (zB_X5 (g 0) u M w) (some (.int ((v_X5_bucket M pp xx).1))) (zB_X5 (g 0) u ((v_X5_bucket M pp xx).2) w) := by
  refine Wr.of (cc := cX5_bucket) (maxL := 3) (ret := (some .int)) (by decide) rfl (Nat.le_of_ble_eq_true rfl) ?_
  intro p e s m below meth c ls hx hb hr hml hown hts hlocks hP hD hS hK hl
  have hown : s.vm.findClass RX5 = some m.cls := hown
  have hinX5 : ∀ w ∈ u_ws RX5 TX5 13, w ∈ wsX5_bucket := fun _ h9 => (List.mem_cons_of_mem _ (List.mem_append_right _ h9))
  obtain ⟨q, hq⟩ : ∃ q : Int32 × (Nat → Nat → Int32), q = v_X5_bucket M pp xx := ⟨_, rfl⟩
  rw [← hq]
  unfold v_X5_bucket at hq
  have hl : lv_has ls 3 [(0, .ref (u 0)), (1, .int pp), (2, .int xx)] := hl
  refine lv_aload_n hx hb dX5_bucket_0 rfl (lv_at hl 0 rfl) ?_
  refine lv_iload_n hx hb dX5_bucket_1 rfl (lv_at hl 1 rfl) ?_
  refine zcSO (n := 1) (c_X5_isPerson l D g pp) hx hb hml hown hts gX5_bucket_X5_isPerson rfl ⟨by decide, by decide, by decide⟩ ⟨Nat.le_of_ble_eq_true rfl, Nat.le_of_ble_eq_true rfl⟩ ⟨rfl, rfl⟩ hK (hP.sub [] rfl) hl.1 rfl rfl (Nat.le_of_ble_eq_true rfl) ⟨Nat.zero_le _, Nat.zero_le _⟩ dX5_bucket_2 ?_
  refine zif_eq (tgt := 20) hx hb dX5_bucket_5 (by decide) (fun c_2 => ?_) (fun c_2 => ?_)
  · have hq := hq.trans (zif_f c_2)
    refine lv_iconst (v := 1) hx hb dX5_bucket_20 (by decide) ?_
    refine va_put (D := D) (ci := 5) (v := .int 1) (ty := .int) (C := RX5) (T := TX5) (N := 13) hx hb hts hinX5 tyX5 tyX5_ok nmX5 hown hK.1 hP hD hS 0 rfl rfl 5 (by decide) (hts (.fieldLink RX5 28 "SaltSharesModel" "thrown" "I") (List.mem_of_getElem? (i := 1) rfl)) (fun _ h9 => h9) rfl (by decide +kernel) rfl rfl (Nat.le_of_ble_eq_true rfl) dX5_bucket_21 (fun H locs hP hD hS => ?_)
    have hP : va_P D vwCl (zB_X5 (g 0) u (zU M 5 (fun _ => 1)) w) H := hP
    have hD : va_D (zA (zB_X5 (g 0) u M w)) (zB_X5 (g 0) u (zU M 5 (fun _ => 1)) w) := hD
    refine lv_aload_n hx hb dX5_bucket_24 rfl (lv_at hl 0 rfl) ?_
    refine va_get (D := D) (ci := 5) (v := .int 1) (C := RX5) (T := TX5) (N := 13) hx hb hts hinX5 hown hK.1 hP 0 rfl rfl 5 (by decide) (hts (.fieldLink RX5 28 "SaltSharesModel" "thrown" "I") (List.mem_of_getElem? (i := 1) rfl)) (fun _ h9 => h9) rfl dX5_bucket_25 ?_
    refine lv_if_le (tgt := 35) hx hb dX5_bucket_28 (by decide) (fun c_3 => ?_) (fun c_3 => ?_)
    · exact absurd c_3 (by decide)
    refine lv_iconst (v := 0) hx hb dX5_bucket_31 (by decide) ?_
    refine lv_goto (tgt := 44) hx hb dX5_bucket_32 (by decide) ?_
    exact zretw_i hx hb hr hlocks dX5_bucket_44 hP hS (congrArg (fun z9 => z9.1) hq) (congrArg (fun z9 => zB_X5 (g 0) u z9.2 w) hq)
  · have hq := hq.trans (zif_t c_2)
    refine lv_aload_n hx hb dX5_bucket_8 rfl (lv_at hl 0 rfl) ?_
    refine lv_iload_n hx hb dX5_bucket_9 rfl (lv_at hl 2 rfl) ?_
    refine zcV (ci := 5) (n := 1) (c_X5_isBread l D g u M w xx) hx hb hml hown hts gX5_bucket_X5_isBread rfl ⟨rfl, by decide, by decide, by decide⟩ ⟨Nat.le_of_ble_eq_true rfl, Nat.le_of_ble_eq_true rfl⟩ ⟨rfl, rfl⟩ hK hP rfl rfl rfl hl.1 rfl rfl (Nat.le_of_ble_eq_true rfl) ⟨Nat.zero_le _, Nat.zero_le _⟩ dX5_bucket_10 ?_
    refine zif_eq (tgt := 20) hx hb dX5_bucket_13 (by decide) (fun c_5 => ?_) (fun c_5 => ?_)
    · have hq := hq.trans (zif_f c_5)
      refine lv_iconst (v := 1) hx hb dX5_bucket_20 (by decide) ?_
      refine va_put (D := D) (ci := 5) (v := .int 1) (ty := .int) (C := RX5) (T := TX5) (N := 13) hx hb hts hinX5 tyX5 tyX5_ok nmX5 hown hK.1 hP hD hS 0 rfl rfl 5 (by decide) (hts (.fieldLink RX5 28 "SaltSharesModel" "thrown" "I") (List.mem_of_getElem? (i := 1) rfl)) (fun _ h9 => h9) rfl (by decide +kernel) rfl rfl (Nat.le_of_ble_eq_true rfl) dX5_bucket_21 (fun H locs hP hD hS => ?_)
      have hP : va_P D vwCl (zB_X5 (g 0) u (zU M 5 (fun _ => 1)) w) H := hP
      have hD : va_D (zA (zB_X5 (g 0) u M w)) (zB_X5 (g 0) u (zU M 5 (fun _ => 1)) w) := hD
      refine lv_aload_n hx hb dX5_bucket_24 rfl (lv_at hl 0 rfl) ?_
      refine va_get (D := D) (ci := 5) (v := .int 1) (C := RX5) (T := TX5) (N := 13) hx hb hts hinX5 hown hK.1 hP 0 rfl rfl 5 (by decide) (hts (.fieldLink RX5 28 "SaltSharesModel" "thrown" "I") (List.mem_of_getElem? (i := 1) rfl)) (fun _ h9 => h9) rfl dX5_bucket_25 ?_
      refine lv_if_le (tgt := 35) hx hb dX5_bucket_28 (by decide) (fun c_6 => ?_) (fun c_6 => ?_)
      · exact absurd c_6 (by decide)
      refine lv_iconst (v := 0) hx hb dX5_bucket_31 (by decide) ?_
      refine lv_goto (tgt := 44) hx hb dX5_bucket_32 (by decide) ?_
      exact zretw_i hx hb hr hlocks dX5_bucket_44 hP hS (congrArg (fun z9 => z9.1) hq) (congrArg (fun z9 => zB_X5 (g 0) u z9.2 w) hq)
    · have hq := hq.trans (zif_t c_5)
      refine lv_iconst (v := 0) hx hb dX5_bucket_16 (by decide) ?_
      refine lv_goto (tgt := 21) hx hb dX5_bucket_17 (by decide) ?_
      refine va_put (D := D) (ci := 5) (v := .int 0) (ty := .int) (C := RX5) (T := TX5) (N := 13) hx hb hts hinX5 tyX5 tyX5_ok nmX5 hown hK.1 hP hD hS 0 rfl rfl 5 (by decide) (hts (.fieldLink RX5 28 "SaltSharesModel" "thrown" "I") (List.mem_of_getElem? (i := 1) rfl)) (fun _ h9 => h9) rfl (by decide +kernel) rfl rfl (Nat.le_of_ble_eq_true rfl) dX5_bucket_21 (fun H locs hP hD hS => ?_)
      have hP : va_P D vwCl (zB_X5 (g 0) u (zU M 5 (fun _ => 0)) w) H := hP
      have hD : va_D (zA (zB_X5 (g 0) u M w)) (zB_X5 (g 0) u (zU M 5 (fun _ => 0)) w) := hD
      refine lv_aload_n hx hb dX5_bucket_24 rfl (lv_at hl 0 rfl) ?_
      refine va_get (D := D) (ci := 5) (v := .int 0) (C := RX5) (T := TX5) (N := 13) hx hb hts hinX5 hown hK.1 hP 0 rfl rfl 5 (by decide) (hts (.fieldLink RX5 28 "SaltSharesModel" "thrown" "I") (List.mem_of_getElem? (i := 1) rfl)) (fun _ h9 => h9) rfl dX5_bucket_25 ?_
      refine lv_if_le (tgt := 35) hx hb dX5_bucket_28 (by decide) (fun c_7 => ?_) (fun c_7 => ?_)
      rotate_left
      · exact absurd c_7 (by decide)
      have w_8 := znat (zmb (by with_reducible assumption) (zI_B z0))
      have w_8b := w_8.2
      have hl : lv_has ls 3 [(0, .ref (u 0)), (1, .int pp), (2, .int (nI (Int32.toNatClampNeg xx)))] := by rw [← w_8.1]; exact hl
      refine lv_iload_n hx hb dX5_bucket_35 rfl (lv_at hl 1 rfl) ?_
      refine lv_aload_n hx hb dX5_bucket_36 rfl (lv_at hl 0 rfl) ?_
      refine lv_iload_n hx hb dX5_bucket_37 rfl (lv_at hl 2 rfl) ?_
      refine zcV (ci := 5) (n := 1) (c_X5_saltOf l D g u (zU M 5 (fun _ => 0)) w (Int32.toNatClampNeg xx) (by omega) (zI_G (zI_U z0))) hx hb hml hown hts gX5_bucket_X5_saltOf rfl ⟨rfl, by decide, by decide, by decide⟩ ⟨Nat.le_of_ble_eq_true rfl, Nat.le_of_ble_eq_true rfl⟩ ⟨rfl, rfl⟩ hK hP rfl rfl rfl hl.1 rfl rfl (Nat.le_of_ble_eq_true rfl) ⟨Nat.zero_le _, Nat.zero_le _⟩ dX5_bucket_38 ?_
      refine zcSO (n := 2) (c_X5_bucketBy l D g pp (v_X5_saltOf (zU M 5 (fun _ => 0)) (Int32.toNatClampNeg xx))) hx hb hml hown hts gX5_bucket_X5_bucketBy rfl ⟨by decide, by decide, by decide⟩ ⟨Nat.le_of_ble_eq_true rfl, Nat.le_of_ble_eq_true rfl⟩ ⟨rfl, rfl⟩ hK (hP.sub [] rfl) hl.1 rfl rfl (Nat.le_of_ble_eq_true rfl) ⟨Nat.zero_le _, Nat.zero_le _⟩ dX5_bucket_41 ?_
      have p_11 := v_X5_bucketBy_lt pp (v_X5_saltOf (zU M 5 (fun _ => 0)) (Int32.toNatClampNeg xx))
      exact zretw_i hx hb hr hlocks dX5_bucket_44 hP hS (congrArg (fun z9 => z9.1) hq) (congrArg (fun z9 => zB_X5 (g 0) u z9.2 w) hq)
def v_X5_bread (M : Nat → Nat → Int32) (xx : Int32) (kk : Int32) : Int32 × (Nat → Nat → Int32) := (if (v_X5_isBread M xx) = true then (if (v_X5_within kk 0 11) = true then ((v_X5_breadNow (zU M 5 (fun _ => 0)) (Int32.toNatClampNeg xx) (Int32.toNatClampNeg kk)), zU M 5 (fun _ => 0)) else (0, zU M 5 (fun _ => 2))) else (0, zU M 5 (fun _ => 1)))
set_option maxHeartbeats 400000 in
set_option maxRecDepth 100000 in
theorem c_X5_bread (l : Launch) (D : va_G) (g : Nat → ClassId) (u : Nat → Nat) (M : Nat → Nat → Int32) (w : Int64) (xx : Int32) (kk : Int32) (z0 : zI M) : Wr l D (zT g) yX5_bread wsX5_bread (rmOf 6 133) [.ref (u 0), .int xx, .int kk] (zB_X5 (g 0) u M w) (some (.int ((v_X5_bread M xx kk).1))) (zB_X5 (g 0) u ((v_X5_bread M xx kk).2) w) := by
  refine Wr.of (cc := cX5_bread) (maxL := 3) (ret := (some .int)) (by decide) rfl (Nat.le_of_ble_eq_true rfl) ?_
  intro p e s m below meth c ls hx hb hr hml hown hts hlocks hP hD hS hK hl
  have hown : s.vm.findClass RX5 = some m.cls := hown
  have hinX5 : ∀ w ∈ u_ws RX5 TX5 13, w ∈ wsX5_bread := fun _ h9 => (List.mem_cons_of_mem _ (List.mem_append_right _ h9))
  obtain ⟨q, hq⟩ : ∃ q : Int32 × (Nat → Nat → Int32), q = v_X5_bread M xx kk := ⟨_, rfl⟩
  rw [← hq]
  unfold v_X5_bread at hq
  have hl : lv_has ls 3 [(0, .ref (u 0)), (1, .int xx), (2, .int kk)] := hl
  refine lv_aload_n hx hb dX5_bread_0 rfl (lv_at hl 0 rfl) ?_
  refine lv_aload_n hx hb dX5_bread_1 rfl (lv_at hl 0 rfl) ?_
  refine lv_iload_n hx hb dX5_bread_2 rfl (lv_at hl 1 rfl) ?_
  refine zcV (ci := 5) (n := 1) (c_X5_isBread l D g u M w xx) hx hb hml hown hts gX5_bread_X5_isBread rfl ⟨rfl, by decide, by decide, by decide⟩ ⟨Nat.le_of_ble_eq_true rfl, Nat.le_of_ble_eq_true rfl⟩ ⟨rfl, rfl⟩ hK hP rfl rfl rfl hl.1 rfl rfl (Nat.le_of_ble_eq_true rfl) ⟨Nat.zero_le _, Nat.zero_le _⟩ dX5_bread_3 ?_
  refine zif_ne (tgt := 13) hx hb dX5_bread_6 (by decide) (fun c_2 => ?_) (fun c_2 => ?_)
  · have hq := hq.trans (zif_t c_2)
    refine lv_iload_n hx hb dX5_bread_13 rfl (lv_at hl 2 rfl) ?_
    refine lv_iconst (v := 0) hx hb dX5_bread_14 (by decide) ?_
    refine lv_bipush (v := 11) hx hb dX5_bread_15 (by decide) ?_
    refine zcSO (n := 3) (c_X5_within l D g kk 0 11) hx hb hml hown hts gX5_bread_X5_within rfl ⟨by decide, by decide, by decide⟩ ⟨Nat.le_of_ble_eq_true rfl, Nat.le_of_ble_eq_true rfl⟩ ⟨rfl, rfl⟩ hK (hP.sub [] rfl) hl.1 rfl rfl (Nat.le_of_ble_eq_true rfl) ⟨Nat.zero_le _, Nat.zero_le _⟩ dX5_bread_17 ?_
    refine zif_eq (tgt := 27) hx hb dX5_bread_20 (by decide) (fun c_4 => ?_) (fun c_4 => ?_)
    · have hq := hq.trans (zif_f c_4)
      refine lv_iconst (v := 2) hx hb dX5_bread_27 (by decide) ?_
      refine va_put (D := D) (ci := 5) (v := .int 2) (ty := .int) (C := RX5) (T := TX5) (N := 13) hx hb hts hinX5 tyX5 tyX5_ok nmX5 hown hK.1 hP hD hS 0 rfl rfl 5 (by decide) (hts (.fieldLink RX5 28 "SaltSharesModel" "thrown" "I") (List.mem_of_getElem? (i := 1) rfl)) (fun _ h9 => h9) rfl (by decide +kernel) rfl rfl (Nat.le_of_ble_eq_true rfl) dX5_bread_28 (fun H locs hP hD hS => ?_)
      have hP : va_P D vwCl (zB_X5 (g 0) u (zU M 5 (fun _ => 2)) w) H := hP
      have hD : va_D (zA (zB_X5 (g 0) u M w)) (zB_X5 (g 0) u (zU M 5 (fun _ => 2)) w) := hD
      refine lv_aload_n hx hb dX5_bread_31 rfl (lv_at hl 0 rfl) ?_
      refine va_get (D := D) (ci := 5) (v := .int 2) (C := RX5) (T := TX5) (N := 13) hx hb hts hinX5 hown hK.1 hP 0 rfl rfl 5 (by decide) (hts (.fieldLink RX5 28 "SaltSharesModel" "thrown" "I") (List.mem_of_getElem? (i := 1) rfl)) (fun _ h9 => h9) rfl dX5_bread_32 ?_
      refine lv_if_le (tgt := 42) hx hb dX5_bread_35 (by decide) (fun c_5 => ?_) (fun c_5 => ?_)
      · exact absurd c_5 (by decide)
      refine lv_iconst (v := 0) hx hb dX5_bread_38 (by decide) ?_
      refine lv_goto (tgt := 48) hx hb dX5_bread_39 (by decide) ?_
      exact zretw_i hx hb hr hlocks dX5_bread_48 hP hS (congrArg (fun z9 => z9.1) hq) (congrArg (fun z9 => zB_X5 (g 0) u z9.2 w) hq)
    · have hq := hq.trans (zif_t c_4)
      refine lv_iconst (v := 0) hx hb dX5_bread_23 (by decide) ?_
      refine lv_goto (tgt := 28) hx hb dX5_bread_24 (by decide) ?_
      refine va_put (D := D) (ci := 5) (v := .int 0) (ty := .int) (C := RX5) (T := TX5) (N := 13) hx hb hts hinX5 tyX5 tyX5_ok nmX5 hown hK.1 hP hD hS 0 rfl rfl 5 (by decide) (hts (.fieldLink RX5 28 "SaltSharesModel" "thrown" "I") (List.mem_of_getElem? (i := 1) rfl)) (fun _ h9 => h9) rfl (by decide +kernel) rfl rfl (Nat.le_of_ble_eq_true rfl) dX5_bread_28 (fun H locs hP hD hS => ?_)
      have hP : va_P D vwCl (zB_X5 (g 0) u (zU M 5 (fun _ => 0)) w) H := hP
      have hD : va_D (zA (zB_X5 (g 0) u M w)) (zB_X5 (g 0) u (zU M 5 (fun _ => 0)) w) := hD
      refine lv_aload_n hx hb dX5_bread_31 rfl (lv_at hl 0 rfl) ?_
      refine va_get (D := D) (ci := 5) (v := .int 0) (C := RX5) (T := TX5) (N := 13) hx hb hts hinX5 hown hK.1 hP 0 rfl rfl 5 (by decide) (hts (.fieldLink RX5 28 "SaltSharesModel" "thrown" "I") (List.mem_of_getElem? (i := 1) rfl)) (fun _ h9 => h9) rfl dX5_bread_32 ?_
      refine lv_if_le (tgt := 42) hx hb dX5_bread_35 (by decide) (fun c_6 => ?_) (fun c_6 => ?_)
      rotate_left
      · exact absurd c_6 (by decide)
      have w_7 := znat (zmb (by with_reducible assumption) (zI_B z0))
      have w_7b := w_7.2
      have hl : lv_has ls 3 [(0, .ref (u 0)), (1, .int (nI (Int32.toNatClampNeg xx))), (2, .int kk)] := by rw [← w_7.1]; exact hl
      have w_8 := znat (zwithin_in (n := 12) (by with_reducible assumption) (by decide))
      have w_8b := w_8.2
      have hl : lv_has ls 3 [(0, .ref (u 0)), (1, .int (nI (Int32.toNatClampNeg xx))), (2, .int (nI (Int32.toNatClampNeg kk)))] := by rw [← w_8.1]; exact hl
      refine lv_aload_n hx hb dX5_bread_42 rfl (lv_at hl 0 rfl) ?_
      refine lv_iload_n hx hb dX5_bread_43 rfl (lv_at hl 1 rfl) ?_
      refine lv_iload_n hx hb dX5_bread_44 rfl (lv_at hl 2 rfl) ?_
      refine zcV (ci := 5) (n := 2) (c_X5_breadNow l D g u (zU M 5 (fun _ => 0)) w (Int32.toNatClampNeg xx) (Int32.toNatClampNeg kk) (by omega) (zI_G (zI_U z0)) (by omega)) hx hb hml hown hts gX5_bread_X5_breadNow rfl ⟨rfl, by decide, by decide, by decide⟩ ⟨Nat.le_of_ble_eq_true rfl, Nat.le_of_ble_eq_true rfl⟩ ⟨rfl, rfl⟩ hK hP rfl rfl rfl hl.1 rfl rfl (Nat.le_of_ble_eq_true rfl) ⟨Nat.zero_le _, Nat.zero_le _⟩ dX5_bread_45 ?_
      exact zretw_i hx hb hr hlocks dX5_bread_48 hP hS (congrArg (fun z9 => z9.1) hq) (congrArg (fun z9 => zB_X5 (g 0) u z9.2 w) hq)
  · have hq := hq.trans (zif_f c_2)
    refine lv_iconst (v := 1) hx hb dX5_bread_9 (by decide) ?_
    refine lv_goto (tgt := 28) hx hb dX5_bread_10 (by decide) ?_
    refine va_put (D := D) (ci := 5) (v := .int 1) (ty := .int) (C := RX5) (T := TX5) (N := 13) hx hb hts hinX5 tyX5 tyX5_ok nmX5 hown hK.1 hP hD hS 0 rfl rfl 5 (by decide) (hts (.fieldLink RX5 28 "SaltSharesModel" "thrown" "I") (List.mem_of_getElem? (i := 1) rfl)) (fun _ h9 => h9) rfl (by decide +kernel) rfl rfl (Nat.le_of_ble_eq_true rfl) dX5_bread_28 (fun H locs hP hD hS => ?_)
    have hP : va_P D vwCl (zB_X5 (g 0) u (zU M 5 (fun _ => 1)) w) H := hP
    have hD : va_D (zA (zB_X5 (g 0) u M w)) (zB_X5 (g 0) u (zU M 5 (fun _ => 1)) w) := hD
    refine lv_aload_n hx hb dX5_bread_31 rfl (lv_at hl 0 rfl) ?_
    refine va_get (D := D) (ci := 5) (v := .int 1) (C := RX5) (T := TX5) (N := 13) hx hb hts hinX5 hown hK.1 hP 0 rfl rfl 5 (by decide) (hts (.fieldLink RX5 28 "SaltSharesModel" "thrown" "I") (List.mem_of_getElem? (i := 1) rfl)) (fun _ h9 => h9) rfl dX5_bread_32 ?_
    refine lv_if_le (tgt := 42) hx hb dX5_bread_35 (by decide) (fun c_10 => ?_) (fun c_10 => ?_)
    · exact absurd c_10 (by decide)
    refine lv_iconst (v := 0) hx hb dX5_bread_38 (by decide) ?_
    refine lv_goto (tgt := 48) hx hb dX5_bread_39 (by decide) ?_
    exact zretw_i hx hb hr hlocks dX5_bread_48 hP hS (congrArg (fun z9 => z9.1) hq) (congrArg (fun z9 => zB_X5 (g 0) u z9.2 w) hq)
def v_X5_person (M : Nat → Nat → Int32) (pp : Int32) (kk : Int32) : Int32 × (Nat → Nat → Int32) := (if (v_X5_isPerson pp) = true then (if (v_X5_within kk 0 4) = true then ((v_X5_personNow (zU M 5 (fun _ => 0)) (Int32.toNatClampNeg pp) (Int32.toNatClampNeg kk)), zU M 5 (fun _ => 0)) else (0, zU M 5 (fun _ => 2))) else (0, zU M 5 (fun _ => 1)))
set_option maxHeartbeats 400000 in
set_option maxRecDepth 100000 in
theorem c_X5_person (l : Launch) (D : va_G) (g : Nat → ClassId) (u : Nat → Nat) (M : Nat → Nat → Int32) (w : Int64) (pp : Int32) (kk : Int32) (z0 : zI M) : Wr l D (zT g) yX5_person wsX5_person (rmOf 6 133) [.ref (u 0), .int pp, .int kk] (zB_X5 (g 0) u M w) (some (.int ((v_X5_person M pp kk).1))) (zB_X5 (g 0) u ((v_X5_person M pp kk).2) w) := by
  refine Wr.of (cc := cX5_person) (maxL := 3) (ret := (some .int)) (by decide) rfl (Nat.le_of_ble_eq_true rfl) ?_
  intro p e s m below meth c ls hx hb hr hml hown hts hlocks hP hD hS hK hl
  have hown : s.vm.findClass RX5 = some m.cls := hown
  have hinX5 : ∀ w ∈ u_ws RX5 TX5 13, w ∈ wsX5_person := fun _ h9 => (List.mem_cons_of_mem _ (List.mem_append_right _ h9))
  obtain ⟨q, hq⟩ : ∃ q : Int32 × (Nat → Nat → Int32), q = v_X5_person M pp kk := ⟨_, rfl⟩
  rw [← hq]
  unfold v_X5_person at hq
  have hl : lv_has ls 3 [(0, .ref (u 0)), (1, .int pp), (2, .int kk)] := hl
  refine lv_aload_n hx hb dX5_person_0 rfl (lv_at hl 0 rfl) ?_
  refine lv_iload_n hx hb dX5_person_1 rfl (lv_at hl 1 rfl) ?_
  refine zcSO (n := 1) (c_X5_isPerson l D g pp) hx hb hml hown hts gX5_person_X5_isPerson rfl ⟨by decide, by decide, by decide⟩ ⟨Nat.le_of_ble_eq_true rfl, Nat.le_of_ble_eq_true rfl⟩ ⟨rfl, rfl⟩ hK (hP.sub [] rfl) hl.1 rfl rfl (Nat.le_of_ble_eq_true rfl) ⟨Nat.zero_le _, Nat.zero_le _⟩ dX5_person_2 ?_
  refine zif_ne (tgt := 12) hx hb dX5_person_5 (by decide) (fun c_2 => ?_) (fun c_2 => ?_)
  · have hq := hq.trans (zif_t c_2)
    refine lv_iload_n hx hb dX5_person_12 rfl (lv_at hl 2 rfl) ?_
    refine lv_iconst (v := 0) hx hb dX5_person_13 (by decide) ?_
    refine lv_iconst (v := 4) hx hb dX5_person_14 (by decide) ?_
    refine zcSO (n := 3) (c_X5_within l D g kk 0 4) hx hb hml hown hts gX5_person_X5_within rfl ⟨by decide, by decide, by decide⟩ ⟨Nat.le_of_ble_eq_true rfl, Nat.le_of_ble_eq_true rfl⟩ ⟨rfl, rfl⟩ hK (hP.sub [] rfl) hl.1 rfl rfl (Nat.le_of_ble_eq_true rfl) ⟨Nat.zero_le _, Nat.zero_le _⟩ dX5_person_15 ?_
    refine zif_eq (tgt := 25) hx hb dX5_person_18 (by decide) (fun c_4 => ?_) (fun c_4 => ?_)
    · have hq := hq.trans (zif_f c_4)
      refine lv_iconst (v := 2) hx hb dX5_person_25 (by decide) ?_
      refine va_put (D := D) (ci := 5) (v := .int 2) (ty := .int) (C := RX5) (T := TX5) (N := 13) hx hb hts hinX5 tyX5 tyX5_ok nmX5 hown hK.1 hP hD hS 0 rfl rfl 5 (by decide) (hts (.fieldLink RX5 28 "SaltSharesModel" "thrown" "I") (List.mem_of_getElem? (i := 1) rfl)) (fun _ h9 => h9) rfl (by decide +kernel) rfl rfl (Nat.le_of_ble_eq_true rfl) dX5_person_26 (fun H locs hP hD hS => ?_)
      have hP : va_P D vwCl (zB_X5 (g 0) u (zU M 5 (fun _ => 2)) w) H := hP
      have hD : va_D (zA (zB_X5 (g 0) u M w)) (zB_X5 (g 0) u (zU M 5 (fun _ => 2)) w) := hD
      refine lv_aload_n hx hb dX5_person_29 rfl (lv_at hl 0 rfl) ?_
      refine va_get (D := D) (ci := 5) (v := .int 2) (C := RX5) (T := TX5) (N := 13) hx hb hts hinX5 hown hK.1 hP 0 rfl rfl 5 (by decide) (hts (.fieldLink RX5 28 "SaltSharesModel" "thrown" "I") (List.mem_of_getElem? (i := 1) rfl)) (fun _ h9 => h9) rfl dX5_person_30 ?_
      refine lv_if_le (tgt := 40) hx hb dX5_person_33 (by decide) (fun c_5 => ?_) (fun c_5 => ?_)
      · exact absurd c_5 (by decide)
      refine lv_iconst (v := 0) hx hb dX5_person_36 (by decide) ?_
      refine lv_goto (tgt := 46) hx hb dX5_person_37 (by decide) ?_
      exact zretw_i hx hb hr hlocks dX5_person_46 hP hS (congrArg (fun z9 => z9.1) hq) (congrArg (fun z9 => zB_X5 (g 0) u z9.2 w) hq)
    · have hq := hq.trans (zif_t c_4)
      refine lv_iconst (v := 0) hx hb dX5_person_21 (by decide) ?_
      refine lv_goto (tgt := 26) hx hb dX5_person_22 (by decide) ?_
      refine va_put (D := D) (ci := 5) (v := .int 0) (ty := .int) (C := RX5) (T := TX5) (N := 13) hx hb hts hinX5 tyX5 tyX5_ok nmX5 hown hK.1 hP hD hS 0 rfl rfl 5 (by decide) (hts (.fieldLink RX5 28 "SaltSharesModel" "thrown" "I") (List.mem_of_getElem? (i := 1) rfl)) (fun _ h9 => h9) rfl (by decide +kernel) rfl rfl (Nat.le_of_ble_eq_true rfl) dX5_person_26 (fun H locs hP hD hS => ?_)
      have hP : va_P D vwCl (zB_X5 (g 0) u (zU M 5 (fun _ => 0)) w) H := hP
      have hD : va_D (zA (zB_X5 (g 0) u M w)) (zB_X5 (g 0) u (zU M 5 (fun _ => 0)) w) := hD
      refine lv_aload_n hx hb dX5_person_29 rfl (lv_at hl 0 rfl) ?_
      refine va_get (D := D) (ci := 5) (v := .int 0) (C := RX5) (T := TX5) (N := 13) hx hb hts hinX5 hown hK.1 hP 0 rfl rfl 5 (by decide) (hts (.fieldLink RX5 28 "SaltSharesModel" "thrown" "I") (List.mem_of_getElem? (i := 1) rfl)) (fun _ h9 => h9) rfl dX5_person_30 ?_
      refine lv_if_le (tgt := 40) hx hb dX5_person_33 (by decide) (fun c_6 => ?_) (fun c_6 => ?_)
      rotate_left
      · exact absurd c_6 (by decide)
      have w_7 := znat (zmp (by with_reducible assumption))
      have w_7b := w_7.2
      have hl : lv_has ls 3 [(0, .ref (u 0)), (1, .int (nI (Int32.toNatClampNeg pp))), (2, .int kk)] := by rw [← w_7.1]; exact hl
      have w_8 := znat (zwithin_in (n := 5) (by with_reducible assumption) (by decide))
      have w_8b := w_8.2
      have hl : lv_has ls 3 [(0, .ref (u 0)), (1, .int (nI (Int32.toNatClampNeg pp))), (2, .int (nI (Int32.toNatClampNeg kk)))] := by rw [← w_8.1]; exact hl
      refine lv_aload_n hx hb dX5_person_40 rfl (lv_at hl 0 rfl) ?_
      refine lv_iload_n hx hb dX5_person_41 rfl (lv_at hl 1 rfl) ?_
      refine lv_iload_n hx hb dX5_person_42 rfl (lv_at hl 2 rfl) ?_
      refine zcV (ci := 5) (n := 2) (c_X5_personNow l D g u (zU M 5 (fun _ => 0)) w (Int32.toNatClampNeg pp) (Int32.toNatClampNeg kk) (by omega) (zI_G (zI_U z0)) (zI_B (zI_U z0)) (by omega)) hx hb hml hown hts gX5_person_X5_personNow rfl ⟨rfl, by decide, by decide, by decide⟩ ⟨Nat.le_of_ble_eq_true rfl, Nat.le_of_ble_eq_true rfl⟩ ⟨rfl, rfl⟩ hK hP rfl rfl rfl hl.1 rfl rfl (Nat.le_of_ble_eq_true rfl) ⟨Nat.zero_le _, Nat.zero_le _⟩ dX5_person_43 ?_
      exact zretw_i hx hb hr hlocks dX5_person_46 hP hS (congrArg (fun z9 => z9.1) hq) (congrArg (fun z9 => zB_X5 (g 0) u z9.2 w) hq)
  · have hq := hq.trans (zif_f c_2)
    refine lv_iconst (v := 1) hx hb dX5_person_8 (by decide) ?_
    refine lv_goto (tgt := 26) hx hb dX5_person_9 (by decide) ?_
    refine va_put (D := D) (ci := 5) (v := .int 1) (ty := .int) (C := RX5) (T := TX5) (N := 13) hx hb hts hinX5 tyX5 tyX5_ok nmX5 hown hK.1 hP hD hS 0 rfl rfl 5 (by decide) (hts (.fieldLink RX5 28 "SaltSharesModel" "thrown" "I") (List.mem_of_getElem? (i := 1) rfl)) (fun _ h9 => h9) rfl (by decide +kernel) rfl rfl (Nat.le_of_ble_eq_true rfl) dX5_person_26 (fun H locs hP hD hS => ?_)
    have hP : va_P D vwCl (zB_X5 (g 0) u (zU M 5 (fun _ => 1)) w) H := hP
    have hD : va_D (zA (zB_X5 (g 0) u M w)) (zB_X5 (g 0) u (zU M 5 (fun _ => 1)) w) := hD
    refine lv_aload_n hx hb dX5_person_29 rfl (lv_at hl 0 rfl) ?_
    refine va_get (D := D) (ci := 5) (v := .int 1) (C := RX5) (T := TX5) (N := 13) hx hb hts hinX5 hown hK.1 hP 0 rfl rfl 5 (by decide) (hts (.fieldLink RX5 28 "SaltSharesModel" "thrown" "I") (List.mem_of_getElem? (i := 1) rfl)) (fun _ h9 => h9) rfl dX5_person_30 ?_
    refine lv_if_le (tgt := 40) hx hb dX5_person_33 (by decide) (fun c_10 => ?_) (fun c_10 => ?_)
    · exact absurd c_10 (by decide)
    refine lv_iconst (v := 0) hx hb dX5_person_36 (by decide) ?_
    refine lv_goto (tgt := 46) hx hb dX5_person_37 (by decide) ?_
    exact zretw_i hx hb hr hlocks dX5_person_46 hP hS (congrArg (fun z9 => z9.1) hq) (congrArg (fun z9 => zB_X5 (g 0) u z9.2 w) hq)
def v_X5_owner (M : Nat → Nat → Int32) (xg : Int32) (kk : Int32) : Int32 × (Nat → Nat → Int32) := (if (v_X5_isGroup xg) = true then (if (v_X5_within kk 0 99) = true then ((M 0 (53 + (100 * (Int32.toNatClampNeg xg)) + (Int32.toNatClampNeg kk))), zU M 5 (fun _ => 0)) else (0, zU M 5 (fun _ => 1))) else (0, zU M 5 (fun _ => 1)))
set_option maxHeartbeats 400000 in
set_option maxRecDepth 100000 in
theorem c_X5_owner (l : Launch) (D : va_G) (g : Nat → ClassId) (u : Nat → Nat) (M : Nat → Nat → Int32) (w : Int64) (xg : Int32) (kk : Int32) : Wr l D (zT g) yX5_owner wsX5_owner (rmOf 2 42) [.ref (u 0), .int xg, .int kk] (zB_X5 (g 0) u M w) (some (.int ((v_X5_owner M xg kk).1))) (zB_X5 (g 0) u ((v_X5_owner M xg kk).2) w) := by
  refine Wr.of (cc := cX5_owner) (maxL := 3) (ret := (some .int)) (by decide) rfl (Nat.le_of_ble_eq_true rfl) ?_
  intro p e s m below meth c ls hx hb hr hml hown hts hlocks hP hD hS hK hl
  have hown : s.vm.findClass RX5 = some m.cls := hown
  have hinX5 : ∀ w ∈ u_ws RX5 TX5 13, w ∈ wsX5_owner := fun _ h9 => (List.mem_cons_of_mem _ (List.mem_append_right _ h9))
  obtain ⟨q, hq⟩ : ∃ q : Int32 × (Nat → Nat → Int32), q = v_X5_owner M xg kk := ⟨_, rfl⟩
  rw [← hq]
  unfold v_X5_owner at hq
  have hl : lv_has ls 3 [(0, .ref (u 0)), (1, .int xg), (2, .int kk)] := hl
  refine lv_aload_n hx hb dX5_owner_0 rfl (lv_at hl 0 rfl) ?_
  refine lv_iload_n hx hb dX5_owner_1 rfl (lv_at hl 1 rfl) ?_
  refine zcSO (n := 1) (c_X5_isGroup l D g xg) hx hb hml hown hts gX5_owner_X5_isGroup rfl ⟨by decide, by decide, by decide⟩ ⟨Nat.le_of_ble_eq_true rfl, Nat.le_of_ble_eq_true rfl⟩ ⟨rfl, rfl⟩ hK (hP.sub [] rfl) hl.1 rfl rfl (Nat.le_of_ble_eq_true rfl) ⟨Nat.zero_le _, Nat.zero_le _⟩ dX5_owner_2 ?_
  refine zif_eq (tgt := 22) hx hb dX5_owner_5 (by decide) (fun c_2 => ?_) (fun c_2 => ?_)
  · have hq := hq.trans (zif_f c_2)
    refine lv_iconst (v := 1) hx hb dX5_owner_22 (by decide) ?_
    refine va_put (D := D) (ci := 5) (v := .int 1) (ty := .int) (C := RX5) (T := TX5) (N := 13) hx hb hts hinX5 tyX5 tyX5_ok nmX5 hown hK.1 hP hD hS 0 rfl rfl 5 (by decide) (hts (.fieldLink RX5 28 "SaltSharesModel" "thrown" "I") (List.mem_of_getElem? (i := 1) rfl)) (fun _ h9 => h9) rfl (by decide +kernel) rfl rfl (Nat.le_of_ble_eq_true rfl) dX5_owner_23 (fun H locs hP hD hS => ?_)
    have hP : va_P D vwCl (zB_X5 (g 0) u (zU M 5 (fun _ => 1)) w) H := hP
    have hD : va_D (zA (zB_X5 (g 0) u M w)) (zB_X5 (g 0) u (zU M 5 (fun _ => 1)) w) := hD
    refine lv_aload_n hx hb dX5_owner_26 rfl (lv_at hl 0 rfl) ?_
    refine va_get (D := D) (ci := 5) (v := .int 1) (C := RX5) (T := TX5) (N := 13) hx hb hts hinX5 hown hK.1 hP 0 rfl rfl 5 (by decide) (hts (.fieldLink RX5 28 "SaltSharesModel" "thrown" "I") (List.mem_of_getElem? (i := 1) rfl)) (fun _ h9 => h9) rfl dX5_owner_27 ?_
    refine lv_if_le (tgt := 37) hx hb dX5_owner_30 (by decide) (fun c_3 => ?_) (fun c_3 => ?_)
    · exact absurd c_3 (by decide)
    refine lv_iconst (v := 0) hx hb dX5_owner_33 (by decide) ?_
    refine lv_goto (tgt := 51) hx hb dX5_owner_34 (by decide) ?_
    exact zretw_i hx hb hr hlocks dX5_owner_51 hP hS (congrArg (fun z9 => z9.1) hq) (congrArg (fun z9 => zB_X5 (g 0) u z9.2 w) hq)
  · have hq := hq.trans (zif_t c_2)
    refine lv_iload_n hx hb dX5_owner_8 rfl (lv_at hl 2 rfl) ?_
    refine lv_iconst (v := 0) hx hb dX5_owner_9 (by decide) ?_
    refine lv_bipush (v := 99) hx hb dX5_owner_10 (by decide) ?_
    refine zcSO (n := 3) (c_X5_within l D g kk 0 99) hx hb hml hown hts gX5_owner_X5_within rfl ⟨by decide, by decide, by decide⟩ ⟨Nat.le_of_ble_eq_true rfl, Nat.le_of_ble_eq_true rfl⟩ ⟨rfl, rfl⟩ hK (hP.sub [] rfl) hl.1 rfl rfl (Nat.le_of_ble_eq_true rfl) ⟨Nat.zero_le _, Nat.zero_le _⟩ dX5_owner_12 ?_
    refine zif_eq (tgt := 22) hx hb dX5_owner_15 (by decide) (fun c_5 => ?_) (fun c_5 => ?_)
    · have hq := hq.trans (zif_f c_5)
      refine lv_iconst (v := 1) hx hb dX5_owner_22 (by decide) ?_
      refine va_put (D := D) (ci := 5) (v := .int 1) (ty := .int) (C := RX5) (T := TX5) (N := 13) hx hb hts hinX5 tyX5 tyX5_ok nmX5 hown hK.1 hP hD hS 0 rfl rfl 5 (by decide) (hts (.fieldLink RX5 28 "SaltSharesModel" "thrown" "I") (List.mem_of_getElem? (i := 1) rfl)) (fun _ h9 => h9) rfl (by decide +kernel) rfl rfl (Nat.le_of_ble_eq_true rfl) dX5_owner_23 (fun H locs hP hD hS => ?_)
      have hP : va_P D vwCl (zB_X5 (g 0) u (zU M 5 (fun _ => 1)) w) H := hP
      have hD : va_D (zA (zB_X5 (g 0) u M w)) (zB_X5 (g 0) u (zU M 5 (fun _ => 1)) w) := hD
      refine lv_aload_n hx hb dX5_owner_26 rfl (lv_at hl 0 rfl) ?_
      refine va_get (D := D) (ci := 5) (v := .int 1) (C := RX5) (T := TX5) (N := 13) hx hb hts hinX5 hown hK.1 hP 0 rfl rfl 5 (by decide) (hts (.fieldLink RX5 28 "SaltSharesModel" "thrown" "I") (List.mem_of_getElem? (i := 1) rfl)) (fun _ h9 => h9) rfl dX5_owner_27 ?_
      refine lv_if_le (tgt := 37) hx hb dX5_owner_30 (by decide) (fun c_6 => ?_) (fun c_6 => ?_)
      · exact absurd c_6 (by decide)
      refine lv_iconst (v := 0) hx hb dX5_owner_33 (by decide) ?_
      refine lv_goto (tgt := 51) hx hb dX5_owner_34 (by decide) ?_
      exact zretw_i hx hb hr hlocks dX5_owner_51 hP hS (congrArg (fun z9 => z9.1) hq) (congrArg (fun z9 => zB_X5 (g 0) u z9.2 w) hq)
    · have hq := hq.trans (zif_t c_5)
      refine lv_iconst (v := 0) hx hb dX5_owner_18 (by decide) ?_
      refine lv_goto (tgt := 23) hx hb dX5_owner_19 (by decide) ?_
      refine va_put (D := D) (ci := 5) (v := .int 0) (ty := .int) (C := RX5) (T := TX5) (N := 13) hx hb hts hinX5 tyX5 tyX5_ok nmX5 hown hK.1 hP hD hS 0 rfl rfl 5 (by decide) (hts (.fieldLink RX5 28 "SaltSharesModel" "thrown" "I") (List.mem_of_getElem? (i := 1) rfl)) (fun _ h9 => h9) rfl (by decide +kernel) rfl rfl (Nat.le_of_ble_eq_true rfl) dX5_owner_23 (fun H locs hP hD hS => ?_)
      have hP : va_P D vwCl (zB_X5 (g 0) u (zU M 5 (fun _ => 0)) w) H := hP
      have hD : va_D (zA (zB_X5 (g 0) u M w)) (zB_X5 (g 0) u (zU M 5 (fun _ => 0)) w) := hD
      refine lv_aload_n hx hb dX5_owner_26 rfl (lv_at hl 0 rfl) ?_
      refine va_get (D := D) (ci := 5) (v := .int 0) (C := RX5) (T := TX5) (N := 13) hx hb hts hinX5 hown hK.1 hP 0 rfl rfl 5 (by decide) (hts (.fieldLink RX5 28 "SaltSharesModel" "thrown" "I") (List.mem_of_getElem? (i := 1) rfl)) (fun _ h9 => h9) rfl dX5_owner_27 ?_
      refine lv_if_le (tgt := 37) hx hb dX5_owner_30 (by decide) (fun c_7 => ?_) (fun c_7 => ?_)
      rotate_left
      · exact absurd c_7 (by decide)
      have w_8 := znat (zmgr (by with_reducible assumption))
      have w_8b := w_8.2
      have hl : lv_has ls 3 [(0, .ref (u 0)), (1, .int (nI (Int32.toNatClampNeg xg))), (2, .int kk)] := by rw [← w_8.1]; exact hl
      have w_9 := znat (zwithin_in (n := 100) (by with_reducible assumption) (by decide))
      have w_9b := w_9.2
      have hl : lv_has ls 3 [(0, .ref (u 0)), (1, .int (nI (Int32.toNatClampNeg xg))), (2, .int (nI (Int32.toNatClampNeg kk)))] := by rw [← w_9.1]; exact hl
      refine lv_aload_n hx hb dX5_owner_37 rfl (lv_at hl 0 rfl) ?_
      refine va_get (D := D) (ci := 5) (v := .ref (u 1)) (C := RX5) (T := TX5) (N := 13) hx hb hts hinX5 hown hK.1 hP 0 rfl rfl 0 (by decide) (hts (.fieldLink RX5 7 "SaltSharesModel" "z" "[I") (List.mem_of_getElem? (i := 2) rfl)) (fun _ h9 => h9) rfl dX5_owner_38 ?_
      refine lv_bipush (v := 53) hx hb dX5_owner_41 (by decide) ?_
      refine lv_bipush (v := 100) hx hb dX5_owner_43 (by decide) ?_
      refine lv_iload_n hx hb dX5_owner_45 rfl (lv_at hl 1 rfl) ?_
      refine lv_imul hx hb dX5_owner_46 ?_
      refine lv_is (show (100 : Int32) * (nI (Int32.toNatClampNeg xg)) = (nI (100 * (Int32.toNatClampNeg xg))) from pk_mul 100 (Int32.toNatClampNeg xg)) ?_
      refine lv_iadd hx hb dX5_owner_47 ?_
      refine lv_is (show (53 : Int32) + (nI (100 * (Int32.toNatClampNeg xg))) = (nI (53 + (100 * (Int32.toNatClampNeg xg)))) from nI_add 53 (100 * (Int32.toNatClampNeg xg))) ?_
      refine lv_iload_n hx hb dX5_owner_48 rfl (lv_at hl 2 rfl) ?_
      refine lv_iadd hx hb dX5_owner_49 ?_
      refine lv_is (show (nI (53 + (100 * (Int32.toNatClampNeg xg)))) + (nI (Int32.toNatClampNeg kk)) = (nI (53 + (100 * (Int32.toNatClampNeg xg)) + (Int32.toNatClampNeg kk))) from nI_add (53 + (100 * (Int32.toNatClampNeg xg))) (Int32.toNatClampNeg kk)) ?_
      refine z_iald (i := 53 + (100 * (Int32.toNatClampNeg xg)) + (Int32.toNatClampNeg kk)) hx hb hK hP 1 0 rfl rfl (by omega) (by decide) dX5_owner_50 ?_
      exact zretw_i hx hb hr hlocks dX5_owner_51 hP hS (congrArg (fun z9 => z9.1) hq) (congrArg (fun z9 => zB_X5 (g 0) u z9.2 w) hq)
def v_X5_count (M : Nat → Nat → Int32) (kk : Int32) : Int32 × (Nat → Nat → Int32) := (if (v_X5_within kk 0 8) = true then ((v_X5_counted (zU M 5 (fun _ => 0)) (Int32.toNatClampNeg kk)), zU M 5 (fun _ => 0)) else (if (v_X5_within kk 10 12) = true then ((v_X5_counted (zU M 5 (fun _ => 0)) (Int32.toNatClampNeg kk)), zU M 5 (fun _ => 0)) else (if (v_X5_within kk 20 22) = true then ((v_X5_counted (zU M 5 (fun _ => 0)) (Int32.toNatClampNeg kk)), zU M 5 (fun _ => 0)) else (0, zU M 5 (fun _ => 1)))))
set_option maxHeartbeats 400000 in
set_option maxRecDepth 100000 in
theorem c_X5_count (l : Launch) (D : va_G) (g : Nat → ClassId) (u : Nat → Nat) (M : Nat → Nat → Int32) (w : Int64) (kk : Int32) (z0 : zI M) : Wr l D (zT g) yX5_count wsX5_count (rmOf 8 183) [.ref (u 0), .int kk] (zB_X5 (g 0) u M w) (some (.int ((v_X5_count M kk).1))) (zB_X5 (g 0) u ((v_X5_count M kk).2) w) := by
  refine Wr.of (cc := cX5_count) (maxL := 2) (ret := (some .int)) (by decide) rfl (Nat.le_of_ble_eq_true rfl) ?_
  intro p e s m below meth c ls hx hb hr hml hown hts hlocks hP hD hS hK hl
  have hown : s.vm.findClass RX5 = some m.cls := hown
  have hinX5 : ∀ w ∈ u_ws RX5 TX5 13, w ∈ wsX5_count := fun _ h9 => (List.mem_cons_of_mem _ (List.mem_append_right _ h9))
  obtain ⟨q, hq⟩ : ∃ q : Int32 × (Nat → Nat → Int32), q = v_X5_count M kk := ⟨_, rfl⟩
  rw [← hq]
  unfold v_X5_count at hq
  have hl : lv_has ls 2 [(0, .ref (u 0)), (1, .int kk)] := hl
  refine lv_aload_n hx hb dX5_count_0 rfl (lv_at hl 0 rfl) ?_
  refine lv_iload_n hx hb dX5_count_1 rfl (lv_at hl 1 rfl) ?_
  refine lv_iconst (v := 0) hx hb dX5_count_2 (by decide) ?_
  refine lv_bipush (v := 8) hx hb dX5_count_3 (by decide) ?_
  refine zcSO (n := 3) (c_X5_within l D g kk 0 8) hx hb hml hown hts gX5_count_X5_within rfl ⟨by decide, by decide, by decide⟩ ⟨Nat.le_of_ble_eq_true rfl, Nat.le_of_ble_eq_true rfl⟩ ⟨rfl, rfl⟩ hK (hP.sub [] rfl) hl.1 rfl rfl (Nat.le_of_ble_eq_true rfl) ⟨Nat.zero_le _, Nat.zero_le _⟩ dX5_count_5 ?_
  refine zif_ne (tgt := 33) hx hb dX5_count_8 (by decide) (fun c_2 => ?_) (fun c_2 => ?_)
  · have hq := hq.trans (zif_t c_2)
    refine lv_iconst (v := 0) hx hb dX5_count_33 (by decide) ?_
    refine lv_goto (tgt := 38) hx hb dX5_count_34 (by decide) ?_
    refine va_put (D := D) (ci := 5) (v := .int 0) (ty := .int) (C := RX5) (T := TX5) (N := 13) hx hb hts hinX5 tyX5 tyX5_ok nmX5 hown hK.1 hP hD hS 0 rfl rfl 5 (by decide) (hts (.fieldLink RX5 28 "SaltSharesModel" "thrown" "I") (List.mem_of_getElem? (i := 1) rfl)) (fun _ h9 => h9) rfl (by decide +kernel) rfl rfl (Nat.le_of_ble_eq_true rfl) dX5_count_38 (fun H locs hP hD hS => ?_)
    have hP : va_P D vwCl (zB_X5 (g 0) u (zU M 5 (fun _ => 0)) w) H := hP
    have hD : va_D (zA (zB_X5 (g 0) u M w)) (zB_X5 (g 0) u (zU M 5 (fun _ => 0)) w) := hD
    refine lv_aload_n hx hb dX5_count_41 rfl (lv_at hl 0 rfl) ?_
    refine va_get (D := D) (ci := 5) (v := .int 0) (C := RX5) (T := TX5) (N := 13) hx hb hts hinX5 hown hK.1 hP 0 rfl rfl 5 (by decide) (hts (.fieldLink RX5 28 "SaltSharesModel" "thrown" "I") (List.mem_of_getElem? (i := 1) rfl)) (fun _ h9 => h9) rfl dX5_count_42 ?_
    refine lv_if_le (tgt := 52) hx hb dX5_count_45 (by decide) (fun c_3 => ?_) (fun c_3 => ?_)
    rotate_left
    · exact absurd c_3 (by decide)
    have w_4 := znat (zin_cnt (by first | exact Or.inl (by with_reducible assumption) | exact Or.inr (Or.inl (by with_reducible assumption)) | exact Or.inr (Or.inr (by with_reducible assumption)))).1
    have w_4b := w_4.2
    have hl : lv_has ls 2 [(0, .ref (u 0)), (1, .int (nI (Int32.toNatClampNeg kk)))] := by rw [← w_4.1]; exact hl
    refine lv_aload_n hx hb dX5_count_52 rfl (lv_at hl 0 rfl) ?_
    refine lv_iload_n hx hb dX5_count_53 rfl (lv_at hl 1 rfl) ?_
    refine zcV (ci := 5) (n := 1) (c_X5_counted l D g u (zU M 5 (fun _ => 0)) w (Int32.toNatClampNeg kk) (zI_G (zI_U z0)) (zI_B (zI_U z0)) ((zin_cnt (by first | exact Or.inl (by with_reducible assumption) | exact Or.inr (Or.inl (by with_reducible assumption)) | exact Or.inr (Or.inr (by with_reducible assumption)))).2)) hx hb hml hown hts gX5_count_X5_counted rfl ⟨rfl, by decide, by decide, by decide⟩ ⟨Nat.le_of_ble_eq_true rfl, Nat.le_of_ble_eq_true rfl⟩ ⟨rfl, rfl⟩ hK hP rfl rfl rfl hl.1 rfl rfl (Nat.le_of_ble_eq_true rfl) ⟨Nat.zero_le _, Nat.zero_le _⟩ dX5_count_54 ?_
    exact zretw_i hx hb hr hlocks dX5_count_57 hP hS (congrArg (fun z9 => z9.1) hq) (congrArg (fun z9 => zB_X5 (g 0) u z9.2 w) hq)
  · have hq := hq.trans (zif_f c_2)
    refine lv_iload_n hx hb dX5_count_11 rfl (lv_at hl 1 rfl) ?_
    refine lv_bipush (v := 10) hx hb dX5_count_12 (by decide) ?_
    refine lv_bipush (v := 12) hx hb dX5_count_14 (by decide) ?_
    refine zcSO (n := 3) (c_X5_within l D g kk 10 12) hx hb hml hown hts gX5_count_X5_within rfl ⟨by decide, by decide, by decide⟩ ⟨Nat.le_of_ble_eq_true rfl, Nat.le_of_ble_eq_true rfl⟩ ⟨rfl, rfl⟩ hK (hP.sub [] rfl) hl.1 rfl rfl (Nat.le_of_ble_eq_true rfl) ⟨Nat.zero_le _, Nat.zero_le _⟩ dX5_count_16 ?_
    refine zif_ne (tgt := 33) hx hb dX5_count_19 (by decide) (fun c_7 => ?_) (fun c_7 => ?_)
    · have hq := hq.trans (zif_t c_7)
      refine lv_iconst (v := 0) hx hb dX5_count_33 (by decide) ?_
      refine lv_goto (tgt := 38) hx hb dX5_count_34 (by decide) ?_
      refine va_put (D := D) (ci := 5) (v := .int 0) (ty := .int) (C := RX5) (T := TX5) (N := 13) hx hb hts hinX5 tyX5 tyX5_ok nmX5 hown hK.1 hP hD hS 0 rfl rfl 5 (by decide) (hts (.fieldLink RX5 28 "SaltSharesModel" "thrown" "I") (List.mem_of_getElem? (i := 1) rfl)) (fun _ h9 => h9) rfl (by decide +kernel) rfl rfl (Nat.le_of_ble_eq_true rfl) dX5_count_38 (fun H locs hP hD hS => ?_)
      have hP : va_P D vwCl (zB_X5 (g 0) u (zU M 5 (fun _ => 0)) w) H := hP
      have hD : va_D (zA (zB_X5 (g 0) u M w)) (zB_X5 (g 0) u (zU M 5 (fun _ => 0)) w) := hD
      refine lv_aload_n hx hb dX5_count_41 rfl (lv_at hl 0 rfl) ?_
      refine va_get (D := D) (ci := 5) (v := .int 0) (C := RX5) (T := TX5) (N := 13) hx hb hts hinX5 hown hK.1 hP 0 rfl rfl 5 (by decide) (hts (.fieldLink RX5 28 "SaltSharesModel" "thrown" "I") (List.mem_of_getElem? (i := 1) rfl)) (fun _ h9 => h9) rfl dX5_count_42 ?_
      refine lv_if_le (tgt := 52) hx hb dX5_count_45 (by decide) (fun c_8 => ?_) (fun c_8 => ?_)
      rotate_left
      · exact absurd c_8 (by decide)
      have w_9 := znat (zin_cnt (by first | exact Or.inl (by with_reducible assumption) | exact Or.inr (Or.inl (by with_reducible assumption)) | exact Or.inr (Or.inr (by with_reducible assumption)))).1
      have w_9b := w_9.2
      have hl : lv_has ls 2 [(0, .ref (u 0)), (1, .int (nI (Int32.toNatClampNeg kk)))] := by rw [← w_9.1]; exact hl
      refine lv_aload_n hx hb dX5_count_52 rfl (lv_at hl 0 rfl) ?_
      refine lv_iload_n hx hb dX5_count_53 rfl (lv_at hl 1 rfl) ?_
      refine zcV (ci := 5) (n := 1) (c_X5_counted l D g u (zU M 5 (fun _ => 0)) w (Int32.toNatClampNeg kk) (zI_G (zI_U z0)) (zI_B (zI_U z0)) ((zin_cnt (by first | exact Or.inl (by with_reducible assumption) | exact Or.inr (Or.inl (by with_reducible assumption)) | exact Or.inr (Or.inr (by with_reducible assumption)))).2)) hx hb hml hown hts gX5_count_X5_counted rfl ⟨rfl, by decide, by decide, by decide⟩ ⟨Nat.le_of_ble_eq_true rfl, Nat.le_of_ble_eq_true rfl⟩ ⟨rfl, rfl⟩ hK hP rfl rfl rfl hl.1 rfl rfl (Nat.le_of_ble_eq_true rfl) ⟨Nat.zero_le _, Nat.zero_le _⟩ dX5_count_54 ?_
      exact zretw_i hx hb hr hlocks dX5_count_57 hP hS (congrArg (fun z9 => z9.1) hq) (congrArg (fun z9 => zB_X5 (g 0) u z9.2 w) hq)
    · have hq := hq.trans (zif_f c_7)
      refine lv_iload_n hx hb dX5_count_22 rfl (lv_at hl 1 rfl) ?_
      refine lv_bipush (v := 20) hx hb dX5_count_23 (by decide) ?_
      refine lv_bipush (v := 22) hx hb dX5_count_25 (by decide) ?_
      refine zcSO (n := 3) (c_X5_within l D g kk 20 22) hx hb hml hown hts gX5_count_X5_within rfl ⟨by decide, by decide, by decide⟩ ⟨Nat.le_of_ble_eq_true rfl, Nat.le_of_ble_eq_true rfl⟩ ⟨rfl, rfl⟩ hK (hP.sub [] rfl) hl.1 rfl rfl (Nat.le_of_ble_eq_true rfl) ⟨Nat.zero_le _, Nat.zero_le _⟩ dX5_count_27 ?_
      refine zif_eq (tgt := 37) hx hb dX5_count_30 (by decide) (fun c_12 => ?_) (fun c_12 => ?_)
      · have hq := hq.trans (zif_f c_12)
        refine lv_iconst (v := 1) hx hb dX5_count_37 (by decide) ?_
        refine va_put (D := D) (ci := 5) (v := .int 1) (ty := .int) (C := RX5) (T := TX5) (N := 13) hx hb hts hinX5 tyX5 tyX5_ok nmX5 hown hK.1 hP hD hS 0 rfl rfl 5 (by decide) (hts (.fieldLink RX5 28 "SaltSharesModel" "thrown" "I") (List.mem_of_getElem? (i := 1) rfl)) (fun _ h9 => h9) rfl (by decide +kernel) rfl rfl (Nat.le_of_ble_eq_true rfl) dX5_count_38 (fun H locs hP hD hS => ?_)
        have hP : va_P D vwCl (zB_X5 (g 0) u (zU M 5 (fun _ => 1)) w) H := hP
        have hD : va_D (zA (zB_X5 (g 0) u M w)) (zB_X5 (g 0) u (zU M 5 (fun _ => 1)) w) := hD
        refine lv_aload_n hx hb dX5_count_41 rfl (lv_at hl 0 rfl) ?_
        refine va_get (D := D) (ci := 5) (v := .int 1) (C := RX5) (T := TX5) (N := 13) hx hb hts hinX5 hown hK.1 hP 0 rfl rfl 5 (by decide) (hts (.fieldLink RX5 28 "SaltSharesModel" "thrown" "I") (List.mem_of_getElem? (i := 1) rfl)) (fun _ h9 => h9) rfl dX5_count_42 ?_
        refine lv_if_le (tgt := 52) hx hb dX5_count_45 (by decide) (fun c_13 => ?_) (fun c_13 => ?_)
        · exact absurd c_13 (by decide)
        refine lv_iconst (v := 0) hx hb dX5_count_48 (by decide) ?_
        refine lv_goto (tgt := 57) hx hb dX5_count_49 (by decide) ?_
        exact zretw_i hx hb hr hlocks dX5_count_57 hP hS (congrArg (fun z9 => z9.1) hq) (congrArg (fun z9 => zB_X5 (g 0) u z9.2 w) hq)
      · have hq := hq.trans (zif_t c_12)
        refine lv_iconst (v := 0) hx hb dX5_count_33 (by decide) ?_
        refine lv_goto (tgt := 38) hx hb dX5_count_34 (by decide) ?_
        refine va_put (D := D) (ci := 5) (v := .int 0) (ty := .int) (C := RX5) (T := TX5) (N := 13) hx hb hts hinX5 tyX5 tyX5_ok nmX5 hown hK.1 hP hD hS 0 rfl rfl 5 (by decide) (hts (.fieldLink RX5 28 "SaltSharesModel" "thrown" "I") (List.mem_of_getElem? (i := 1) rfl)) (fun _ h9 => h9) rfl (by decide +kernel) rfl rfl (Nat.le_of_ble_eq_true rfl) dX5_count_38 (fun H locs hP hD hS => ?_)
        have hP : va_P D vwCl (zB_X5 (g 0) u (zU M 5 (fun _ => 0)) w) H := hP
        have hD : va_D (zA (zB_X5 (g 0) u M w)) (zB_X5 (g 0) u (zU M 5 (fun _ => 0)) w) := hD
        refine lv_aload_n hx hb dX5_count_41 rfl (lv_at hl 0 rfl) ?_
        refine va_get (D := D) (ci := 5) (v := .int 0) (C := RX5) (T := TX5) (N := 13) hx hb hts hinX5 hown hK.1 hP 0 rfl rfl 5 (by decide) (hts (.fieldLink RX5 28 "SaltSharesModel" "thrown" "I") (List.mem_of_getElem? (i := 1) rfl)) (fun _ h9 => h9) rfl dX5_count_42 ?_
        refine lv_if_le (tgt := 52) hx hb dX5_count_45 (by decide) (fun c_14 => ?_) (fun c_14 => ?_)
        rotate_left
        · exact absurd c_14 (by decide)
        have w_15 := znat (zin_cnt (by first | exact Or.inl (by with_reducible assumption) | exact Or.inr (Or.inl (by with_reducible assumption)) | exact Or.inr (Or.inr (by with_reducible assumption)))).1
        have w_15b := w_15.2
        have hl : lv_has ls 2 [(0, .ref (u 0)), (1, .int (nI (Int32.toNatClampNeg kk)))] := by rw [← w_15.1]; exact hl
        refine lv_aload_n hx hb dX5_count_52 rfl (lv_at hl 0 rfl) ?_
        refine lv_iload_n hx hb dX5_count_53 rfl (lv_at hl 1 rfl) ?_
        refine zcV (ci := 5) (n := 1) (c_X5_counted l D g u (zU M 5 (fun _ => 0)) w (Int32.toNatClampNeg kk) (zI_G (zI_U z0)) (zI_B (zI_U z0)) ((zin_cnt (by first | exact Or.inl (by with_reducible assumption) | exact Or.inr (Or.inl (by with_reducible assumption)) | exact Or.inr (Or.inr (by with_reducible assumption)))).2)) hx hb hml hown hts gX5_count_X5_counted rfl ⟨rfl, by decide, by decide, by decide⟩ ⟨Nat.le_of_ble_eq_true rfl, Nat.le_of_ble_eq_true rfl⟩ ⟨rfl, rfl⟩ hK hP rfl rfl rfl hl.1 rfl rfl (Nat.le_of_ble_eq_true rfl) ⟨Nat.zero_le _, Nat.zero_le _⟩ dX5_count_54 ?_
        exact zretw_i hx hb hr hlocks dX5_count_57 hP hS (congrArg (fun z9 => z9.1) hq) (congrArg (fun z9 => zB_X5 (g 0) u z9.2 w) hq)
def v_X5_overlap (M : Nat → Nat → Int32) (xx : Int32) (yy : Int32) : Int32 × (Nat → Nat → Int32) := (if (v_X5_isBread M xx) = true then (if (v_X5_isBread M yy) = true then ((v_X5_bothEat (zU M 5 (fun _ => 0)) (Int32.toNatClampNeg xx) (Int32.toNatClampNeg yy)), zU M 5 (fun _ => 0)) else (0, zU M 5 (fun _ => 1))) else (0, zU M 5 (fun _ => 1)))
set_option maxHeartbeats 400000 in
set_option maxRecDepth 100000 in
theorem c_X5_overlap (l : Launch) (D : va_G) (g : Nat → ClassId) (u : Nat → Nat) (M : Nat → Nat → Int32) (w : Int64) (xx : Int32) (yy : Int32) (z0 : zI M) : Wr l D (zT g) yX5_overlap wsX5_overlap (rmOf 5 112) [.ref (u 0), .int xx, .int yy] (zB_X5 (g 0) u M w) (some (.int ((v_X5_overlap M xx yy).1))) (zB_X5 (g 0) u ((v_X5_overlap M xx yy).2) w) := by
  refine Wr.of (cc := cX5_overlap) (maxL := 3) (ret := (some .int)) (by decide) rfl (Nat.le_of_ble_eq_true rfl) ?_
  intro p e s m below meth c ls hx hb hr hml hown hts hlocks hP hD hS hK hl
  have hown : s.vm.findClass RX5 = some m.cls := hown
  have hinX5 : ∀ w ∈ u_ws RX5 TX5 13, w ∈ wsX5_overlap := fun _ h9 => (List.mem_cons_of_mem _ (List.mem_append_right _ h9))
  obtain ⟨q, hq⟩ : ∃ q : Int32 × (Nat → Nat → Int32), q = v_X5_overlap M xx yy := ⟨_, rfl⟩
  rw [← hq]
  unfold v_X5_overlap at hq
  have hl : lv_has ls 3 [(0, .ref (u 0)), (1, .int xx), (2, .int yy)] := hl
  refine lv_aload_n hx hb dX5_overlap_0 rfl (lv_at hl 0 rfl) ?_
  refine lv_aload_n hx hb dX5_overlap_1 rfl (lv_at hl 0 rfl) ?_
  refine lv_iload_n hx hb dX5_overlap_2 rfl (lv_at hl 1 rfl) ?_
  refine zcV (ci := 5) (n := 1) (c_X5_isBread l D g u M w xx) hx hb hml hown hts gX5_overlap_X5_isBread rfl ⟨rfl, by decide, by decide, by decide⟩ ⟨Nat.le_of_ble_eq_true rfl, Nat.le_of_ble_eq_true rfl⟩ ⟨rfl, rfl⟩ hK hP rfl rfl rfl hl.1 rfl rfl (Nat.le_of_ble_eq_true rfl) ⟨Nat.zero_le _, Nat.zero_le _⟩ dX5_overlap_3 ?_
  refine zif_eq (tgt := 21) hx hb dX5_overlap_6 (by decide) (fun c_2 => ?_) (fun c_2 => ?_)
  · have hq := hq.trans (zif_f c_2)
    refine lv_iconst (v := 1) hx hb dX5_overlap_21 (by decide) ?_
    refine va_put (D := D) (ci := 5) (v := .int 1) (ty := .int) (C := RX5) (T := TX5) (N := 13) hx hb hts hinX5 tyX5 tyX5_ok nmX5 hown hK.1 hP hD hS 0 rfl rfl 5 (by decide) (hts (.fieldLink RX5 28 "SaltSharesModel" "thrown" "I") (List.mem_of_getElem? (i := 1) rfl)) (fun _ h9 => h9) rfl (by decide +kernel) rfl rfl (Nat.le_of_ble_eq_true rfl) dX5_overlap_22 (fun H locs hP hD hS => ?_)
    have hP : va_P D vwCl (zB_X5 (g 0) u (zU M 5 (fun _ => 1)) w) H := hP
    have hD : va_D (zA (zB_X5 (g 0) u M w)) (zB_X5 (g 0) u (zU M 5 (fun _ => 1)) w) := hD
    refine lv_aload_n hx hb dX5_overlap_25 rfl (lv_at hl 0 rfl) ?_
    refine va_get (D := D) (ci := 5) (v := .int 1) (C := RX5) (T := TX5) (N := 13) hx hb hts hinX5 hown hK.1 hP 0 rfl rfl 5 (by decide) (hts (.fieldLink RX5 28 "SaltSharesModel" "thrown" "I") (List.mem_of_getElem? (i := 1) rfl)) (fun _ h9 => h9) rfl dX5_overlap_26 ?_
    refine lv_if_le (tgt := 36) hx hb dX5_overlap_29 (by decide) (fun c_3 => ?_) (fun c_3 => ?_)
    · exact absurd c_3 (by decide)
    refine lv_iconst (v := 0) hx hb dX5_overlap_32 (by decide) ?_
    refine lv_goto (tgt := 42) hx hb dX5_overlap_33 (by decide) ?_
    exact zretw_i hx hb hr hlocks dX5_overlap_42 hP hS (congrArg (fun z9 => z9.1) hq) (congrArg (fun z9 => zB_X5 (g 0) u z9.2 w) hq)
  · have hq := hq.trans (zif_t c_2)
    refine lv_aload_n hx hb dX5_overlap_9 rfl (lv_at hl 0 rfl) ?_
    refine lv_iload_n hx hb dX5_overlap_10 rfl (lv_at hl 2 rfl) ?_
    refine zcV (ci := 5) (n := 1) (c_X5_isBread l D g u M w yy) hx hb hml hown hts gX5_overlap_X5_isBread rfl ⟨rfl, by decide, by decide, by decide⟩ ⟨Nat.le_of_ble_eq_true rfl, Nat.le_of_ble_eq_true rfl⟩ ⟨rfl, rfl⟩ hK hP rfl rfl rfl hl.1 rfl rfl (Nat.le_of_ble_eq_true rfl) ⟨Nat.zero_le _, Nat.zero_le _⟩ dX5_overlap_11 ?_
    refine zif_eq (tgt := 21) hx hb dX5_overlap_14 (by decide) (fun c_5 => ?_) (fun c_5 => ?_)
    · have hq := hq.trans (zif_f c_5)
      refine lv_iconst (v := 1) hx hb dX5_overlap_21 (by decide) ?_
      refine va_put (D := D) (ci := 5) (v := .int 1) (ty := .int) (C := RX5) (T := TX5) (N := 13) hx hb hts hinX5 tyX5 tyX5_ok nmX5 hown hK.1 hP hD hS 0 rfl rfl 5 (by decide) (hts (.fieldLink RX5 28 "SaltSharesModel" "thrown" "I") (List.mem_of_getElem? (i := 1) rfl)) (fun _ h9 => h9) rfl (by decide +kernel) rfl rfl (Nat.le_of_ble_eq_true rfl) dX5_overlap_22 (fun H locs hP hD hS => ?_)
      have hP : va_P D vwCl (zB_X5 (g 0) u (zU M 5 (fun _ => 1)) w) H := hP
      have hD : va_D (zA (zB_X5 (g 0) u M w)) (zB_X5 (g 0) u (zU M 5 (fun _ => 1)) w) := hD
      refine lv_aload_n hx hb dX5_overlap_25 rfl (lv_at hl 0 rfl) ?_
      refine va_get (D := D) (ci := 5) (v := .int 1) (C := RX5) (T := TX5) (N := 13) hx hb hts hinX5 hown hK.1 hP 0 rfl rfl 5 (by decide) (hts (.fieldLink RX5 28 "SaltSharesModel" "thrown" "I") (List.mem_of_getElem? (i := 1) rfl)) (fun _ h9 => h9) rfl dX5_overlap_26 ?_
      refine lv_if_le (tgt := 36) hx hb dX5_overlap_29 (by decide) (fun c_6 => ?_) (fun c_6 => ?_)
      · exact absurd c_6 (by decide)
      refine lv_iconst (v := 0) hx hb dX5_overlap_32 (by decide) ?_
      refine lv_goto (tgt := 42) hx hb dX5_overlap_33 (by decide) ?_
      exact zretw_i hx hb hr hlocks dX5_overlap_42 hP hS (congrArg (fun z9 => z9.1) hq) (congrArg (fun z9 => zB_X5 (g 0) u z9.2 w) hq)
    · have hq := hq.trans (zif_t c_5)
      refine lv_iconst (v := 0) hx hb dX5_overlap_17 (by decide) ?_
      refine lv_goto (tgt := 22) hx hb dX5_overlap_18 (by decide) ?_
      refine va_put (D := D) (ci := 5) (v := .int 0) (ty := .int) (C := RX5) (T := TX5) (N := 13) hx hb hts hinX5 tyX5 tyX5_ok nmX5 hown hK.1 hP hD hS 0 rfl rfl 5 (by decide) (hts (.fieldLink RX5 28 "SaltSharesModel" "thrown" "I") (List.mem_of_getElem? (i := 1) rfl)) (fun _ h9 => h9) rfl (by decide +kernel) rfl rfl (Nat.le_of_ble_eq_true rfl) dX5_overlap_22 (fun H locs hP hD hS => ?_)
      have hP : va_P D vwCl (zB_X5 (g 0) u (zU M 5 (fun _ => 0)) w) H := hP
      have hD : va_D (zA (zB_X5 (g 0) u M w)) (zB_X5 (g 0) u (zU M 5 (fun _ => 0)) w) := hD
      refine lv_aload_n hx hb dX5_overlap_25 rfl (lv_at hl 0 rfl) ?_
      refine va_get (D := D) (ci := 5) (v := .int 0) (C := RX5) (T := TX5) (N := 13) hx hb hts hinX5 hown hK.1 hP 0 rfl rfl 5 (by decide) (hts (.fieldLink RX5 28 "SaltSharesModel" "thrown" "I") (List.mem_of_getElem? (i := 1) rfl)) (fun _ h9 => h9) rfl dX5_overlap_26 ?_
      refine lv_if_le (tgt := 36) hx hb dX5_overlap_29 (by decide) (fun c_7 => ?_) (fun c_7 => ?_)
      rotate_left
      · exact absurd c_7 (by decide)
      have w_8 := znat (zmb (x := xx) (by with_reducible assumption) (zI_B z0))
      have w_8b := w_8.2
      have hl : lv_has ls 3 [(0, .ref (u 0)), (1, .int (nI (Int32.toNatClampNeg xx))), (2, .int yy)] := by rw [← w_8.1]; exact hl
      have w_9 := znat (zmb (x := yy) (by with_reducible assumption) (zI_B z0))
      have w_9b := w_9.2
      have hl : lv_has ls 3 [(0, .ref (u 0)), (1, .int (nI (Int32.toNatClampNeg xx))), (2, .int (nI (Int32.toNatClampNeg yy)))] := by rw [← w_9.1]; exact hl
      refine lv_aload_n hx hb dX5_overlap_36 rfl (lv_at hl 0 rfl) ?_
      refine lv_iload_n hx hb dX5_overlap_37 rfl (lv_at hl 1 rfl) ?_
      refine lv_iload_n hx hb dX5_overlap_38 rfl (lv_at hl 2 rfl) ?_
      refine zcV (ci := 5) (n := 2) (c_X5_bothEat l D g u (zU M 5 (fun _ => 0)) w (Int32.toNatClampNeg xx) (Int32.toNatClampNeg yy) (by omega) (by omega) (zI_G (zI_U z0))) hx hb hml hown hts gX5_overlap_X5_bothEat rfl ⟨rfl, by decide, by decide, by decide⟩ ⟨Nat.le_of_ble_eq_true rfl, Nat.le_of_ble_eq_true rfl⟩ ⟨rfl, rfl⟩ hK hP rfl rfl rfl hl.1 rfl rfl (Nat.le_of_ble_eq_true rfl) ⟨Nat.zero_le _, Nat.zero_le _⟩ dX5_overlap_39 ?_
      exact zretw_i hx hb hr hlocks dX5_overlap_42 hP hS (congrArg (fun z9 => z9.1) hq) (congrArg (fun z9 => zB_X5 (g 0) u z9.2 w) hq)
def v_X5_undo_37  : Nat → Nat → (Nat → Nat → Int32) → Int32 × (Nat → Nat → Int32)
  | 0, _, _ => (0, (fun _ _ => 0))
  | n + 1, i, M1 => (if 954 ≤ i then ((M1 1 0), M1) else v_X5_undo_37 n (i + 1) (zU M1 0 (upd (M1 0) i (M1 2 (954 * (Int32.toNatClampNeg (M1 1 0)) + i)))))
def v_X5_undo (M : Nat → Nat → Int32) : Int32 × (Nat → Nat → Int32) := (if (M 1 0) ≤ 0 then (0, zU M 5 (fun _ => 1)) else v_X5_undo_37 955 0 (zU (zU M 5 (fun _ => 0)) 1 (fun _ => ((M 1 0) - 1))))
set_option maxHeartbeats 400000 in
set_option maxRecDepth 100000 in
theorem c_X5_undo (l : Launch) (D : va_G) (g : Nat → ClassId) (u : Nat → Nat) (M : Nat → Nat → Int32) (w : Int64) (z0 : vp_in (M 1 0) 7) : Wr l D (zT g) yX5_undo wsX5_undo (rmOf 0 0) [.ref (u 0)] (zB_X5 (g 0) u M w) (some (.int ((v_X5_undo M).1))) (zB_X5 (g 0) u ((v_X5_undo M).2) w) := by
  refine Wr.of (cc := cX5_undo) (maxL := 2) (ret := (some .int)) (by decide) rfl (Nat.le_of_ble_eq_true rfl) ?_
  intro p e s m below meth c ls hx hb hr hml hown hts hlocks hP hD hS hK hl
  have hown : s.vm.findClass RX5 = some m.cls := hown
  have hinX5 : ∀ w ∈ u_ws RX5 TX5 13, w ∈ wsX5_undo := fun _ h9 => (List.mem_cons_of_mem _ (List.mem_append_right _ h9))
  obtain ⟨q, hq⟩ : ∃ q : Int32 × (Nat → Nat → Int32), q = v_X5_undo M := ⟨_, rfl⟩
  rw [← hq]
  unfold v_X5_undo at hq
  have hl : lv_has ls 2 [(0, .ref (u 0))] := hl
  refine lv_aload_n hx hb dX5_undo_0 rfl (lv_at hl 0 rfl) ?_
  refine lv_aload_n hx hb dX5_undo_1 rfl (lv_at hl 0 rfl) ?_
  refine va_get (D := D) (ci := 5) (v := .int (M 1 0)) (C := RX5) (T := TX5) (N := 13) hx hb hts hinX5 hown hK.1 hP 0 rfl rfl 1 (by decide) (hts (.fieldLink RX5 32 "SaltSharesModel" "states" "I") (List.mem_of_getElem? (i := 1) rfl)) (fun _ h9 => h9) rfl dX5_undo_2 ?_
  refine lv_if_le (tgt := 12) hx hb dX5_undo_5 (by decide) (fun c_1 => ?_) (fun c_1 => ?_)
  · have c_1 : (M 1 0) ≤ 0 := c_1
    have hq := hq.trans (if_pos c_1)
    refine lv_iconst (v := 1) hx hb dX5_undo_12 (by decide) ?_
    refine va_put (D := D) (ci := 5) (v := .int 1) (ty := .int) (C := RX5) (T := TX5) (N := 13) hx hb hts hinX5 tyX5 tyX5_ok nmX5 hown hK.1 hP hD hS 0 rfl rfl 5 (by decide) (hts (.fieldLink RX5 28 "SaltSharesModel" "thrown" "I") (List.mem_of_getElem? (i := 2) rfl)) (fun _ h9 => h9) rfl (by decide +kernel) rfl rfl (Nat.le_of_ble_eq_true rfl) dX5_undo_13 (fun H locs hP hD hS => ?_)
    have hP : va_P D vwCl (zB_X5 (g 0) u (zU M 5 (fun _ => 1)) w) H := hP
    have hD : va_D (zA (zB_X5 (g 0) u M w)) (zB_X5 (g 0) u (zU M 5 (fun _ => 1)) w) := hD
    refine lv_aload_n hx hb dX5_undo_16 rfl (lv_at hl 0 rfl) ?_
    refine va_get (D := D) (ci := 5) (v := .int 1) (C := RX5) (T := TX5) (N := 13) hx hb hts hinX5 hown hK.1 hP 0 rfl rfl 5 (by decide) (hts (.fieldLink RX5 28 "SaltSharesModel" "thrown" "I") (List.mem_of_getElem? (i := 2) rfl)) (fun _ h9 => h9) rfl dX5_undo_17 ?_
    refine lv_if_le (tgt := 25) hx hb dX5_undo_20 (by decide) (fun c_2 => ?_) (fun c_2 => ?_)
    · exact absurd c_2 (by decide)
    refine lv_iconst (v := 0) hx hb dX5_undo_23 (by decide) ?_
    exact zretw_i hx hb hr hlocks dX5_undo_24 hP hS (congrArg (fun z9 => z9.1) hq) (congrArg (fun z9 => zB_X5 (g 0) u z9.2 w) hq)
  · have c_1 : ¬ ((M 1 0) ≤ 0) := c_1
    have hq := hq.trans (if_neg c_1)
    refine lv_iconst (v := 0) hx hb dX5_undo_8 (by decide) ?_
    refine lv_goto (tgt := 13) hx hb dX5_undo_9 (by decide) ?_
    refine va_put (D := D) (ci := 5) (v := .int 0) (ty := .int) (C := RX5) (T := TX5) (N := 13) hx hb hts hinX5 tyX5 tyX5_ok nmX5 hown hK.1 hP hD hS 0 rfl rfl 5 (by decide) (hts (.fieldLink RX5 28 "SaltSharesModel" "thrown" "I") (List.mem_of_getElem? (i := 2) rfl)) (fun _ h9 => h9) rfl (by decide +kernel) rfl rfl (Nat.le_of_ble_eq_true rfl) dX5_undo_13 (fun H locs hP hD hS => ?_)
    have hP : va_P D vwCl (zB_X5 (g 0) u (zU M 5 (fun _ => 0)) w) H := hP
    have hD : va_D (zA (zB_X5 (g 0) u M w)) (zB_X5 (g 0) u (zU M 5 (fun _ => 0)) w) := hD
    refine lv_aload_n hx hb dX5_undo_16 rfl (lv_at hl 0 rfl) ?_
    refine va_get (D := D) (ci := 5) (v := .int 0) (C := RX5) (T := TX5) (N := 13) hx hb hts hinX5 hown hK.1 hP 0 rfl rfl 5 (by decide) (hts (.fieldLink RX5 28 "SaltSharesModel" "thrown" "I") (List.mem_of_getElem? (i := 2) rfl)) (fun _ h9 => h9) rfl dX5_undo_17 ?_
    refine lv_if_le (tgt := 25) hx hb dX5_undo_20 (by decide) (fun c_3 => ?_) (fun c_3 => ?_)
    rotate_left
    · exact absurd c_3 (by decide)
    refine lv_aload_n hx hb dX5_undo_25 rfl (lv_at hl 0 rfl) ?_
    refine lv_dup hx hb dX5_undo_26 rfl ?_
    refine va_get (D := D) (ci := 5) (v := .int (M 1 0)) (C := RX5) (T := TX5) (N := 13) hx hb hts hinX5 hown hK.1 hP 0 rfl rfl 1 (by decide) (hts (.fieldLink RX5 32 "SaltSharesModel" "states" "I") (List.mem_of_getElem? (i := 1) rfl)) (fun _ h9 => h9) rfl dX5_undo_27 ?_
    refine lv_iconst (v := 1) hx hb dX5_undo_30 (by decide) ?_
    refine lv_isub hx hb dX5_undo_31 ?_
    refine va_put (D := D) (ci := 5) (v := .int ((M 1 0) - 1)) (ty := .int) (C := RX5) (T := TX5) (N := 13) hx hb hts hinX5 tyX5 tyX5_ok nmX5 hown hK.1 hP hD hS 0 rfl rfl 1 (by decide) (hts (.fieldLink RX5 32 "SaltSharesModel" "states" "I") (List.mem_of_getElem? (i := 1) rfl)) (fun _ h9 => h9) rfl (by decide +kernel) rfl rfl (Nat.le_of_ble_eq_true rfl) dX5_undo_32 (fun H locs hP hD hS => ?_)
    have hP : va_P D vwCl (zB_X5 (g 0) u (zU (zU M 5 (fun _ => 0)) 1 (fun _ => ((M 1 0) - 1))) w) H := hP
    have hD : va_D (zA (zB_X5 (g 0) u M w)) (zB_X5 (g 0) u (zU (zU M 5 (fun _ => 0)) 1 (fun _ => ((M 1 0) - 1))) w) := hD
    refine lv_iconst (v := 0) hx hb dX5_undo_35 (by decide) ?_
    refine lv_istore_n (lv' := [(1, .int 0), (0, .ref (u 0))]) hx hb dX5_undo_36 rfl hl (by decide) rfl (fun ls hl => ?_)
    have L37 : ∀ (n : Nat) (i : Nat) (M1 : Nat → Nat → Int32), (i ≤ 954) → (vp_in (M1 1 0) 6) → 954 - i < n → ∀ (H : Heap) (locs : List Loc), va_P D vwCl (zB_X5 (g 0) u M1 w) H → va_D (zA (zB_X5 (g 0) u M w)) (zB_X5 (g 0) u M1 w) → va_S (zA (zB_X5 (g 0) u M w)) s.heap H locs → ∀ (ls : Array Slot), lv_has ls 2 [(0, .ref (u 0)), (1, .int (nI i))] → q = v_X5_undo_37 n i M1 → W p l e (rmOf 0 0) s m [.ref (u 0)].toArray below meth c H locs 0 0 (MQ below (zQw D (zB_X5 (g 0) u M w) (some (.int q.1)) (zB_X5 (g 0) u q.2 w)) [.ref (u 0)].toArray s 0 0 (zA (zB_X5 (g 0) u M w))) (F0 m 37 ls []) := by
      intro n
      induction n with
      | zero => intro i M1 v37_0 v37_1 hn; exact absurd hn (Nat.not_lt_zero _)
      | succ n ih37 =>
        intro i M1 v37_0 v37_1 hn37 H locs hP hD hS ls hl hq
        rw [v_X5_undo_37] at hq
        refine lv_iload_n hx hb dX5_undo_37 rfl (lv_at hl 1 rfl) ?_
        refine lv_sipush (v := 954) hx hb dX5_undo_38 (by decide) ?_
        refine lv_icmp_ge (tgt := 71) hx hb dX5_undo_41 (by decide) (fun c_4 => ?_) (fun c_4 => ?_)
        · have c_4 : 954 ≤ i := (nI_leI (a := 954) (b := i) (by omega) (by omega)).mp c_4
          have hq := hq.trans (if_pos c_4)
          refine lv_aload_n hx hb dX5_undo_71 rfl (lv_at hl 0 rfl) ?_
          refine va_get (D := D) (ci := 5) (v := .int (M1 1 0)) (C := RX5) (T := TX5) (N := 13) hx hb hts hinX5 hown hK.1 hP 0 rfl rfl 1 (by decide) (hts (.fieldLink RX5 32 "SaltSharesModel" "states" "I") (List.mem_of_getElem? (i := 1) rfl)) (fun _ h9 => h9) rfl dX5_undo_72 ?_
          exact zretw_i hx hb hr hlocks dX5_undo_75 hP hS (congrArg (fun z9 => z9.1) hq) (congrArg (fun z9 => zB_X5 (g 0) u z9.2 w) hq)
        · have c_4 : ¬ (954 ≤ i) := fun h9 => c_4 ((nI_leI (a := 954) (b := i) (by omega) (by omega)).mpr h9)
          have hq := hq.trans (if_neg c_4)
          refine lv_aload_n hx hb dX5_undo_44 rfl (lv_at hl 0 rfl) ?_
          refine va_get (D := D) (ci := 5) (v := .ref (u 1)) (C := RX5) (T := TX5) (N := 13) hx hb hts hinX5 hown hK.1 hP 0 rfl rfl 0 (by decide) (hts (.fieldLink RX5 7 "SaltSharesModel" "z" "[I") (List.mem_of_getElem? (i := 3) rfl)) (fun _ h9 => h9) rfl dX5_undo_45 ?_
          refine lv_iload_n hx hb dX5_undo_48 rfl (lv_at hl 1 rfl) ?_
          refine lv_aload_n hx hb dX5_undo_49 rfl (lv_at hl 0 rfl) ?_
          refine va_get (D := D) (ci := 5) (v := .ref (u 3)) (C := RX5) (T := TX5) (N := 13) hx hb hts hinX5 hown hK.1 hP 0 rfl rfl 2 (by decide) (hts (.fieldLink RX5 13 "SaltSharesModel" "history" "[I") (List.mem_of_getElem? (i := 4) rfl)) (fun _ h9 => h9) rfl dX5_undo_50 ?_
          refine lv_sipush (v := 954) hx hb dX5_undo_53 (by decide) ?_
          refine lv_aload_n hx hb dX5_undo_56 rfl (lv_at hl 0 rfl) ?_
          refine va_get (D := D) (ci := 5) (v := .int (M1 1 0)) (C := RX5) (T := TX5) (N := 13) hx hb hts hinX5 hown hK.1 hP 0 rfl rfl 1 (by decide) (hts (.fieldLink RX5 32 "SaltSharesModel" "states" "I") (List.mem_of_getElem? (i := 1) rfl)) (fun _ h9 => h9) rfl dX5_undo_57 ?_
          have w_5 := znat v37_1
          have w_5b := w_5.2
          refine lv_is w_5.1 ?_
          refine lv_imul hx hb dX5_undo_60 ?_
          refine lv_is (show (954 : Int32) * (nI (Int32.toNatClampNeg (M1 1 0))) = (nI (954 * (Int32.toNatClampNeg (M1 1 0)))) from pk_mul 954 (Int32.toNatClampNeg (M1 1 0))) ?_
          refine lv_iload_n hx hb dX5_undo_61 rfl (lv_at hl 1 rfl) ?_
          refine lv_iadd hx hb dX5_undo_62 ?_
          refine lv_is (show (nI (954 * (Int32.toNatClampNeg (M1 1 0)))) + (nI i) = (nI (954 * (Int32.toNatClampNeg (M1 1 0)) + i)) from nI_add (954 * (Int32.toNatClampNeg (M1 1 0))) i) ?_
          refine z_iald (i := 954 * (Int32.toNatClampNeg (M1 1 0)) + i) hx hb hK hP 2 0 rfl rfl (by omega) (by decide) dX5_undo_63 ?_
          refine z_iast (i := i) (x := (M1 2 (954 * (Int32.toNatClampNeg (M1 1 0)) + i))) hx hb hK hP hD hS 1 0 rfl rfl (by omega) (by decide) dX5_undo_64 (fun H locs hP hD hS => ?_)
          have hP : va_P D vwCl (zB_X5 (g 0) u (zU M1 0 (upd (M1 0) i (M1 2 (954 * (Int32.toNatClampNeg (M1 1 0)) + i)))) w) H := hP
          have hD : va_D (zA (zB_X5 (g 0) u M w)) (zB_X5 (g 0) u (zU M1 0 (upd (M1 0) i (M1 2 (954 * (Int32.toNatClampNeg (M1 1 0)) + i)))) w) := hD
          refine lv_iinc (v := (nI (i + 1))) (lv' := [(1, .int (nI (i + 1))), (0, .ref (u 0))]) hx hb dX5_undo_65 hl (k := 1) rfl (nI_add _ 1) (by decide) rfl (fun ls hl => ?_)
          refine lv_goto (tgt := 37) hx hb dX5_undo_68 (by decide) ?_
          exact ih37 (i + 1) (zU M1 0 (upd (M1 0) i (M1 2 (954 * (Int32.toNatClampNeg (M1 1 0)) + i)))) (by omega) (by rw [zU_n _ _ (by decide)]; exact v37_1) (by omega) _ _ hP hD hS ls (lv_sub hl [1, 0] rfl) hq
    exact L37 955 0 (zU (zU M 5 (fun _ => 0)) 1 (fun _ => ((M 1 0) - 1))) (by decide) (by rw [zU_s]; exact zund z0 (by with_reducible assumption)) (by decide) _ _ hP hD hS ls (lv_sub hl [1, 0] rfl) hq
def v_X5_mix (M : Nat → Nat → Int32) (w : Int64) (val : Int64) : Int64 := (31 * w) + val
set_option maxHeartbeats 400000 in
set_option maxRecDepth 100000 in
theorem c_X5_mix (l : Launch) (D : va_G) (g : Nat → ClassId) (u : Nat → Nat) (M : Nat → Nat → Int32) (w : Int64) (val : Int64) : Wr l D (zT g) yX5_mix wsX5_mix (rmOf 0 0) [.ref (u 0), .long val] (zB_X5 (g 0) u M w) (none) (zB_X5 (g 0) u M (v_X5_mix M w val)) := by
  refine Wr.of (cc := cX5_mix) (maxL := 3) (ret := none) (by decide) rfl (Nat.le_of_ble_eq_true rfl) ?_
  intro p e s m below meth c ls hx hb hr hml hown hts hlocks hP hD hS hK hl
  have hown : s.vm.findClass RX5 = some m.cls := hown
  have hinX5 : ∀ w ∈ u_ws RX5 TX5 13, w ∈ wsX5_mix := fun _ h9 => (List.mem_cons_of_mem _ (List.mem_append_right _ h9))
  obtain ⟨q, hq⟩ : ∃ q : Int64, q = v_X5_mix M w val := ⟨_, rfl⟩
  rw [← hq]
  unfold v_X5_mix at hq
  have hl : lv_has ls 3 [(0, .ref (u 0)), (1, .long val)] := hl
  refine lv_aload_n hx hb dX5_mix_0 rfl (lv_at hl 0 rfl) ?_
  refine lv_ldc2 (v := 31) hx hb hown (hts (.constantLong RX5 247 (31)) (List.mem_of_getElem? (i := 1) rfl)) dX5_mix_1 ?_
  refine lv_aload_n hx hb dX5_mix_4 rfl (lv_at hl 0 rfl) ?_
  refine va_get (D := D) (ci := 5) (v := .long w) (C := RX5) (T := TX5) (N := 13) hx hb hts hinX5 hown hK.1 hP 0 rfl rfl 12 (by decide) (hts (.fieldLink RX5 249 "SaltSharesModel" "hash" "J") (List.mem_of_getElem? (i := 2) rfl)) (fun _ h9 => h9) rfl dX5_mix_5 ?_
  refine lv_lmul hx hb dX5_mix_8 ?_
  refine lv_lload_n hx hb dX5_mix_9 rfl (lv_at hl 1 rfl) ?_
  refine lv_ladd hx hb dX5_mix_10 ?_
  refine va_put (D := D) (ci := 5) (v := .long ((31 * w) + val)) (ty := .long) (C := RX5) (T := TX5) (N := 13) hx hb hts hinX5 tyX5 tyX5_ok nmX5 hown hK.1 hP hD hS 0 rfl rfl 12 (by decide) (hts (.fieldLink RX5 249 "SaltSharesModel" "hash" "J") (List.mem_of_getElem? (i := 2) rfl)) (fun _ h9 => h9) rfl (by decide +kernel) rfl rfl (Nat.le_of_ble_eq_true rfl) dX5_mix_11 (fun H locs hP hD hS => ?_)
  have hP : va_P D vwCl (zB_X5 (g 0) u M ((31 * w) + val)) H := hP
  have hD : va_D (zA (zB_X5 (g 0) u M w)) (zB_X5 (g 0) u M ((31 * w) + val)) := hD
  exact zretw_v hx hb hr hlocks dX5_mix_14 hP hS (congrArg (fun z9 => zB_X5 (g 0) u M z9) hq)
