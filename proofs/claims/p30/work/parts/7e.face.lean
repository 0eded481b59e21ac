def e_X4_eats (T : Nat → Nat → Int32) (pe : Int32) (xb : Int32) : Option String := (if e_X4_needPerson pe = none then (if e_X4_needBread T xb = none then none else e_X4_needBread T xb) else e_X4_needPerson pe)
def v_X4_eats (T : Nat → Nat → Int32) (pe : Int32) (xb : Int32) : Int32 := (v_X3_reasonBy T (Int32.toNatClampNeg pe) (Int32.toNatClampNeg xb) (v_X3_saltOf T (Int32.toNatClampNeg xb)))
set_option maxHeartbeats 400000 in
set_option maxRecDepth 100000 in
theorem c_X4_eats (l : Launch) (D : va_G) (g : Nat → ClassId) (f : Nat → Nat) (h : Nat → Nat) (u : Nat → Nat) (o : Nat → Nat) (x : Nat → Nat) (T : Nat → Nat → Int32) (pe : Int32) (xb : Int32) (he : e_X4_eats T pe xb = none) : Rd l D (zT g) yX4_eats wsX4_eats (rmOf 2 47) [.ref (f 0), .int pe, .int xb] ((zB_X4 f h u o x) ++ (zB_X3 (g 0) h T)) (.int (v_X4_eats T pe xb)) := by
  refine Rd.of (cc := cX4_eats) (maxL := 3) (ret := (some .int)) (by decide) rfl (Nat.le_of_ble_eq_true rfl) ?_
  intro p e s m below meth c ls hx hb hr hml hown hts hlocks hP hK hl
  have hown : s.vm.findClass RX4 = some m.cls := hown
  have hinX4 : ∀ w ∈ u_ws RX4 TX4 4, w ∈ wsX4_eats := fun _ h9 => (List.mem_cons_of_mem _ (List.mem_append_left _ (List.mem_append_left _ (List.mem_append_right _ h9))))
  obtain ⟨q, hq⟩ : ∃ q : Int32, q = v_X4_eats T pe xb := ⟨_, rfl⟩
  rw [← hq]
  unfold v_X4_eats at hq
  unfold e_X4_eats at he
  have hl : lv_has ls 3 [(0, .ref (f 0)), (1, .int pe), (2, .int xb)] := hl
  refine lv_iload_n hx hb dX4_eats_0 rfl (lv_at hl 1 rfl) ?_
  obtain ⟨n_1, he⟩ := zTh_ok he
  refine zcNS (n := 1) (c_X4_needPerson l D g pe n_1) hx hb hml hown hts gX4_eats_X4_needPerson rfl ⟨rfl, by decide, by decide, by decide⟩ ⟨Nat.le_of_ble_eq_true rfl, Nat.le_of_ble_eq_true rfl⟩ ⟨rfl, rfl⟩ hK (hP.sub [] rfl) hl.1 rfl rfl (Nat.le_of_ble_eq_true rfl) ⟨Nat.zero_le _, Nat.zero_le _⟩ dX4_eats_1 ?_
  have w_1 := znat (znp n_1)
  have w_1b := w_1.2
  have hl : lv_has ls 3 [(0, .ref (f 0)), (1, .int (nI (Int32.toNatClampNeg pe))), (2, .int xb)] := by rw [← w_1.1]; exact hl
  refine lv_aload_n hx hb dX4_eats_4 rfl (lv_at hl 0 rfl) ?_
  refine lv_iload_n hx hb dX4_eats_5 rfl (lv_at hl 2 rfl) ?_
  obtain ⟨n_6, he⟩ := zTh_ok he
  refine zcNV (ci := 4) (n := 1) (c_X4_needBread l D g f h u o x T xb n_6) hx hb hml hown hts gX4_eats_X4_needBread rfl ⟨rfl, by decide, by decide, by decide⟩ ⟨Nat.le_of_ble_eq_true rfl, Nat.le_of_ble_eq_true rfl⟩ ⟨rfl, rfl⟩ hK hP rfl rfl rfl hl.1 rfl rfl (Nat.le_of_ble_eq_true rfl) ⟨Nat.zero_le _, Nat.zero_le _⟩ dX4_eats_6 ?_
  have w_2 := znat (znb n_6)
  have w_2b := w_2.2
  have hl : lv_has ls 3 [(0, .ref (f 0)), (1, .int (nI (Int32.toNatClampNeg pe))), (2, .int (nI (Int32.toNatClampNeg xb)))] := by rw [← w_2.1]; exact hl
  refine lv_aload_n hx hb dX4_eats_9 rfl (lv_at hl 0 rfl) ?_
  refine va_get (D := D) (ci := 4) (v := .ref (h 0)) (C := RX4) (T := TX4) (N := 4) hx hb hts hinX4 hown hK.1 hP 0 rfl rfl 0 (by decide) (hts (.fieldLink RX4 10 "SaltShares" "town" "LSaltShares$Town;") (List.mem_of_getElem? (i := 1) rfl)) (fun _ h9 => h9) rfl dX4_eats_10 ?_
  refine lv_iload_n hx hb dX4_eats_13 rfl (lv_at hl 1 rfl) ?_
  refine lv_iload_n hx hb dX4_eats_14 rfl (lv_at hl 2 rfl) ?_
  refine lv_aload_n hx hb dX4_eats_15 rfl (lv_at hl 0 rfl) ?_
  refine va_get (D := D) (ci := 4) (v := .ref (h 0)) (C := RX4) (T := TX4) (N := 4) hx hb hts hinX4 hown hK.1 hP 0 rfl rfl 0 (by decide) (hts (.fieldLink RX4 10 "SaltShares" "town" "LSaltShares$Town;") (List.mem_of_getElem? (i := 1) rfl)) (fun _ h9 => h9) rfl dX4_eats_16 ?_
  refine lv_iload_n hx hb dX4_eats_19 rfl (lv_at hl 2 rfl) ?_
  refine zcV (ci := 3) (n := 1) (c_X3_saltOf l D g h T (Int32.toNatClampNeg xb) (by omega)) hx hb hml hown hts gX4_eats_X3_saltOf rfl ⟨rfl, by decide, by decide, by decide⟩ ⟨Nat.le_of_ble_eq_true rfl, Nat.le_of_ble_eq_true rfl⟩ ⟨rfl, rfl⟩ hK (hP.sub [1, 2, 3, 4, 5, 6, 7, 8, 9, 10, 11] rfl) rfl rfl rfl hl.1 rfl rfl (Nat.le_of_ble_eq_true rfl) ⟨Nat.zero_le _, Nat.zero_le _⟩ dX4_eats_20 ?_
  refine zcV (ci := 3) (n := 3) (c_X3_reasonBy l D g h T (Int32.toNatClampNeg pe) (Int32.toNatClampNeg xb) (v_X3_saltOf T (Int32.toNatClampNeg xb)) (by omega) (by omega)) hx hb hml hown hts gX4_eats_X3_reasonBy rfl ⟨rfl, by decide, by decide, by decide⟩ ⟨Nat.le_of_ble_eq_true rfl, Nat.le_of_ble_eq_true rfl⟩ ⟨rfl, rfl⟩ hK (hP.sub [1, 2, 3, 4, 5, 6, 7, 8, 9, 10, 11] rfl) rfl rfl rfl hl.1 rfl rfl (Nat.le_of_ble_eq_true rfl) ⟨Nat.zero_le _, Nat.zero_le _⟩ dX4_eats_23 ?_
  exact zret_i hx hb hr hlocks dX4_eats_26 hq
def e_X4_bread (T : Nat → Nat → Int32) (xb : Int32) (wh : Int32) : Option String := (if e_X4_needBread T xb = none then (if wh < 0 then some zIA else (if wh ≤ 11 then none else some zIA)) else e_X4_needBread T xb)
def v_X4_bread (T : Nat → Nat → Int32) (xb : Int32) (wh : Int32) : Int32 := (v_X3_breadProperty T (Int32.toNatClampNeg xb) wh)
set_option maxHeartbeats 400000 in
set_option maxRecDepth 100000 in
theorem c_X4_bread (l : Launch) (D : va_G) (g : Nat → ClassId) (f : Nat → Nat) (h : Nat → Nat) (u : Nat → Nat) (o : Nat → Nat) (x : Nat → Nat) (T : Nat → Nat → Int32) (xb : Int32) (wh : Int32) (he : e_X4_bread T xb wh = none) : Rd l D (zT g) yX4_bread wsX4_bread (rmOf 5 114) [.ref (f 0), .int xb, .int wh] ((zB_X4 f h u o x) ++ (zB_X3 (g 0) h T)) (.int (v_X4_bread T xb wh)) := by
  refine Rd.of (cc := cX4_bread) (maxL := 3) (ret := (some .int)) (by decide) rfl (Nat.le_of_ble_eq_true rfl) ?_
  intro p e s m below meth c ls hx hb hr hml hown hts hlocks hP hK hl
  have hown : s.vm.findClass RX4 = some m.cls := hown
  have hinX4 : ∀ w ∈ u_ws RX4 TX4 4, w ∈ wsX4_bread := fun _ h9 => (List.mem_cons_of_mem _ (List.mem_append_left _ (List.mem_append_left _ (List.mem_append_left _ (List.mem_append_right _ h9)))))
  obtain ⟨q, hq⟩ : ∃ q : Int32, q = v_X4_bread T xb wh := ⟨_, rfl⟩
  rw [← hq]
  unfold v_X4_bread at hq
  unfold e_X4_bread at he
  have hl : lv_has ls 3 [(0, .ref (f 0)), (1, .int xb), (2, .int wh)] := hl
  refine lv_aload_n hx hb dX4_bread_0 rfl (lv_at hl 0 rfl) ?_
  refine lv_iload_n hx hb dX4_bread_1 rfl (lv_at hl 1 rfl) ?_
  obtain ⟨n_2, he⟩ := zTh_ok he
  refine zcNV (ci := 4) (n := 1) (c_X4_needBread l D g f h u o x T xb n_2) hx hb hml hown hts gX4_bread_X4_needBread rfl ⟨rfl, by decide, by decide, by decide⟩ ⟨Nat.le_of_ble_eq_true rfl, Nat.le_of_ble_eq_true rfl⟩ ⟨rfl, rfl⟩ hK hP rfl rfl rfl hl.1 rfl rfl (Nat.le_of_ble_eq_true rfl) ⟨Nat.zero_le _, Nat.zero_le _⟩ dX4_bread_2 ?_
  have w_1 := znat (znb n_2)
  have w_1b := w_1.2
  have hl : lv_has ls 3 [(0, .ref (f 0)), (1, .int (nI (Int32.toNatClampNeg xb))), (2, .int wh)] := by rw [← w_1.1]; exact hl
  refine lv_iload_n hx hb dX4_bread_5 rfl (lv_at hl 2 rfl) ?_
  refine lv_if_lt (tgt := 15) hx hb dX4_bread_6 (by decide) (fun c_2 => ?_) (fun c_2 => ?_)
  · have c_2 : wh < 0 := c_2
    have he := (if_pos c_2).symm.trans he
    cases he
  · have c_2 : ¬ (wh < 0) := c_2
    have he := (if_neg c_2).symm.trans he
    refine lv_iload_n hx hb dX4_bread_9 rfl (lv_at hl 2 rfl) ?_
    refine lv_bipush (v := 11) hx hb dX4_bread_10 (by decide) ?_
    refine lv_icmp_le (tgt := 25) hx hb dX4_bread_12 (by decide) (fun c_3 => ?_) (fun c_3 => ?_)
    · have c_3 : wh ≤ 11 := c_3
      have he := (if_pos c_3).symm.trans he
      refine lv_aload_n hx hb dX4_bread_25 rfl (lv_at hl 0 rfl) ?_
      refine va_get (D := D) (ci := 4) (v := .ref (h 0)) (C := RX4) (T := TX4) (N := 4) hx hb hts hinX4 hown hK.1 hP 0 rfl rfl 0 (by decide) (hts (.fieldLink RX4 10 "SaltShares" "town" "LSaltShares$Town;") (List.mem_of_getElem? (i := 3) rfl)) (fun _ h9 => h9) rfl dX4_bread_26 ?_
      refine lv_iload_n hx hb dX4_bread_29 rfl (lv_at hl 1 rfl) ?_
      refine lv_iload_n hx hb dX4_bread_30 rfl (lv_at hl 2 rfl) ?_
      refine zcV (ci := 3) (n := 2) (c_X3_breadProperty l D g h T (Int32.toNatClampNeg xb) wh (by omega)) hx hb hml hown hts gX4_bread_X3_breadProperty rfl ⟨rfl, by decide, by decide, by decide⟩ ⟨Nat.le_of_ble_eq_true rfl, Nat.le_of_ble_eq_true rfl⟩ ⟨rfl, rfl⟩ hK (hP.sub [1, 2, 3, 4, 5, 6, 7, 8, 9, 10, 11] rfl) rfl rfl rfl hl.1 rfl rfl (Nat.le_of_ble_eq_true rfl) ⟨Nat.zero_le _, Nat.zero_le _⟩ dX4_bread_31 ?_
      exact zret_i hx hb hr hlocks dX4_bread_34 hq
    · have c_3 : ¬ (wh ≤ 11) := c_3
      have he := (if_neg c_3).symm.trans he
      cases he
def e_X4_count (Z : Nat → Nat → Int32) (T : Nat → Nat → Int32) (wh : Int32) : Option String := (if (v_X4_isCounted wh) = true then none else some zIA)
def v_X4_count (Z : Nat → Nat → Int32) (T : Nat → Nat → Int32) (wh : Int32) : Int32 := (v_X4_numberOf Z T wh)
set_option maxHeartbeats 400000 in
set_option maxRecDepth 100000 in
theorem c_X4_count (l : Launch) (D : va_G) (g : Nat → ClassId) (f : Nat → Nat) (h : Nat → Nat) (u : Nat → Nat) (o : Nat → Nat) (x : Nat → Nat) (t0 : Nat → Nat) (t1 : Nat → Nat) (t2 : Nat → Nat) (t3 : Nat → Nat) (t4 : Nat → Nat) (t5 : Nat → Nat) (Z : Nat → Nat → Int32) (T : Nat → Nat → Int32) (wh : Int32) (he : e_X4_count Z T wh = none) : Rd l D (zT g) yX4_count wsX4_count (rmOf 6 134) [.ref (f 0), .int wh] (zF [zB_X4 f h u o x, zB_X1 (g 1) u t0 t1 t2 t3 t4 t5 Z, zB_X3 (g 0) h T]) (.int (v_X4_count Z T wh)) := by
  refine Rd.of (cc := cX4_count) (maxL := 2) (ret := (some .int)) (by decide) rfl (Nat.le_of_ble_eq_true rfl) ?_
  intro p e s m below meth c ls hx hb hr hml hown hts hlocks hP hK hl
  have hown : s.vm.findClass RX4 = some m.cls := hown
  obtain ⟨q, hq⟩ : ∃ q : Int32, q = v_X4_count Z T wh := ⟨_, rfl⟩
  rw [← hq]
  unfold v_X4_count at hq
  unfold e_X4_count at he
  have hl : lv_has ls 2 [(0, .ref (f 0)), (1, .int wh)] := hl
  refine lv_iload_n hx hb dX4_count_0 rfl (lv_at hl 1 rfl) ?_
  refine zcSO (n := 1) (c_X4_isCounted l D g wh) hx hb hml hown hts gX4_count_X4_isCounted rfl ⟨by decide, by decide, by decide⟩ ⟨Nat.le_of_ble_eq_true rfl, Nat.le_of_ble_eq_true rfl⟩ ⟨rfl, rfl⟩ hK (hP.sub [] rfl) hl.1 rfl rfl (Nat.le_of_ble_eq_true rfl) ⟨Nat.zero_le _, Nat.zero_le _⟩ dX4_count_1 ?_
  refine zif_ne (tgt := 17) hx hb dX4_count_4 (by decide) (fun c_2 => ?_) (fun c_2 => ?_)
  · have he := (zif_t c_2).symm.trans he
    refine lv_aload_n hx hb dX4_count_17 rfl (lv_at hl 0 rfl) ?_
    refine lv_iload_n hx hb dX4_count_18 rfl (lv_at hl 1 rfl) ?_
    refine zcV (ci := 4) (n := 1) (c_X4_numberOf l D g f h u o x t0 t1 t2 t3 t4 t5 Z T wh) hx hb hml hown hts gX4_count_X4_numberOf rfl ⟨rfl, by decide, by decide, by decide⟩ ⟨Nat.le_of_ble_eq_true rfl, Nat.le_of_ble_eq_true rfl⟩ ⟨rfl, rfl⟩ hK hP rfl rfl rfl hl.1 rfl rfl (Nat.le_of_ble_eq_true rfl) ⟨Nat.zero_le _, Nat.zero_le _⟩ dX4_count_19 ?_
    exact zret_i hx hb hr hlocks dX4_count_22 hq
  · have he := (zif_f c_2).symm.trans he
    cases he
def e_X4_ifShare (O : Nat → Nat → Int32) (T : Nat → Nat → Int32) (xb : Int32) (sh : Int32) : Option String := (if e_X4_needBread T xb = none then (if e_X4_needShare sh = none then none else e_X4_needShare sh) else e_X4_needBread T xb)
def v_X4_ifShare (O : Nat → Nat → Int32) (T : Nat → Nat → Int32) (xb : Int32) (sh : Int32) : Int32 × (Nat → Nat → Int32) := (((v_X2_eatersAt O T xb sh).1), (v_X2_eatersAt O T xb sh).2)
set_option maxHeartbeats 400000 in
set_option maxRecDepth 100000 in
theorem c_X4_ifShare (l : Launch) (D : va_G) (g : Nat → ClassId) (f : Nat → Nat) (h : Nat → Nat) (u : Nat → Nat) (o : Nat → Nat) (x : Nat → Nat) (O : Nat → Nat → Int32) (T : Nat → Nat → Int32) (xb : Int32) (sh : Int32) (he : e_X4_ifShare O T xb sh = none) : Wr l D (zT g) yX4_ifShare wsX4_ifShare (rmOf 5 114) [.ref (f 0), .int xb, .int sh] (zF [zB_X4 f h u o x, zB_X2 (g 0) o O, zB_X3 (g 0) h T]) (some (.int ((v_X4_ifShare O T xb sh).1))) (zF [zB_X4 f h u o x, zB_X2 (g 0) o ((v_X4_ifShare O T xb sh).2), zB_X3 (g 0) h T]) := by
  refine Wr.of (cc := cX4_ifShare) (maxL := 3) (ret := (some .int)) (by decide) rfl (Nat.le_of_ble_eq_true rfl) ?_
  intro p e s m below meth c ls hx hb hr hml hown hts hlocks hP hD hS hK hl
  have hown : s.vm.findClass RX4 = some m.cls := hown
  have hinX4 : ∀ w ∈ u_ws RX4 TX4 4, w ∈ wsX4_ifShare := fun _ h9 => (List.mem_cons_of_mem _ (List.mem_append_left _ (List.mem_append_left _ (List.mem_append_left _ (List.mem_append_left _ (List.mem_append_right _ h9))))))
  obtain ⟨q, hq⟩ : ∃ q : Int32 × (Nat → Nat → Int32), q = v_X4_ifShare O T xb sh := ⟨_, rfl⟩
  rw [← hq]
  unfold v_X4_ifShare at hq
  unfold e_X4_ifShare at he
  have hl : lv_has ls 3 [(0, .ref (f 0)), (1, .int xb), (2, .int sh)] := hl
  refine lv_aload_n hx hb dX4_ifShare_0 rfl (lv_at hl 0 rfl) ?_
  refine lv_iload_n hx hb dX4_ifShare_1 rfl (lv_at hl 1 rfl) ?_
  obtain ⟨n_2, he⟩ := zTh_ok he
  refine zcNV (ci := 4) (n := 1) (c_X4_needBread l D g f h u o x T xb n_2) hx hb hml hown hts gX4_ifShare_X4_needBread rfl ⟨rfl, by decide, by decide, by decide⟩ ⟨Nat.le_of_ble_eq_true rfl, Nat.le_of_ble_eq_true rfl⟩ ⟨rfl, rfl⟩ hK (zsubB (cs := [zB_X4 f h u o x, zB_X3 (g 0) h T]) hP [0, 2] rfl (zF2 _ _)) rfl rfl rfl hl.1 rfl rfl (Nat.le_of_ble_eq_true rfl) ⟨Nat.zero_le _, Nat.zero_le _⟩ dX4_ifShare_2 ?_
  refine lv_iload_n hx hb dX4_ifShare_5 rfl (lv_at hl 2 rfl) ?_
  obtain ⟨n_6, he⟩ := zTh_ok he
  refine zcNS (n := 1) (c_X4_needShare l D g sh n_6) hx hb hml hown hts gX4_ifShare_X4_needShare rfl ⟨rfl, by decide, by decide, by decide⟩ ⟨Nat.le_of_ble_eq_true rfl, Nat.le_of_ble_eq_true rfl⟩ ⟨rfl, rfl⟩ hK (hP.sub [] rfl) hl.1 rfl rfl (Nat.le_of_ble_eq_true rfl) ⟨Nat.zero_le _, Nat.zero_le _⟩ dX4_ifShare_6 ?_
  refine lv_aload_n hx hb dX4_ifShare_9 rfl (lv_at hl 0 rfl) ?_
  refine va_get (D := D) (ci := 4) (v := .ref (o 0)) (C := RX4) (T := TX4) (N := 4) hx hb hts hinX4 hown hK.1 hP 0 rfl rfl 2 (by decide) (hts (.fieldLink RX4 26 "SaltShares" "outlook" "LSaltShares$Outlook;") (List.mem_of_getElem? (i := 1) rfl)) (fun _ h9 => h9) rfl dX4_ifShare_10 ?_
  refine lv_aload_n hx hb dX4_ifShare_13 rfl (lv_at hl 0 rfl) ?_
  refine va_get (D := D) (ci := 4) (v := .ref (h 0)) (C := RX4) (T := TX4) (N := 4) hx hb hts hinX4 hown hK.1 hP 0 rfl rfl 0 (by decide) (hts (.fieldLink RX4 10 "SaltShares" "town" "LSaltShares$Town;") (List.mem_of_getElem? (i := 2) rfl)) (fun _ h9 => h9) rfl dX4_ifShare_14 ?_
  refine lv_iload_n hx hb dX4_ifShare_17 rfl (lv_at hl 1 rfl) ?_
  refine lv_iload_n hx hb dX4_ifShare_18 rfl (lv_at hl 2 rfl) ?_
  refine zcVw (ci := 2) (n := 3) (c_X2_eatersAt l D g o h O T xb sh) hx hb hml hown hts gX4_ifShare_X2_eatersAt rfl ⟨rfl, by decide, by decide, by decide⟩ ⟨Nat.le_of_ble_eq_true rfl, Nat.le_of_ble_eq_true rfl⟩ ⟨rfl, rfl⟩ hK (zsubB (cs := [zB_X2 (g 0) o O, zB_X3 (g 0) h T]) hP [1, 2] rfl (zF2 _ _)) (zDsubB (cs := [zB_X2 (g 0) o O, zB_X3 (g 0) h T]) hD [1, 2] (by decide) rfl (zF2 _ _)) rfl rfl rfl hS hl.1 rfl rfl (Nat.le_of_ble_eq_true rfl) ⟨Nat.zero_le _, Nat.zero_le _⟩ dX4_ifShare_19 (fun H1 locs hP1 hk1 hS => ?_)
  obtain ⟨hP, hD⟩ := zjoinB (cs := [zB_X2 (g 0) o O, zB_X3 (g 0) h T]) (cs' := [zB_X2 (g 0) o ((v_X2_eatersAt O T xb sh).2), zB_X3 (g 0) h T]) hP hD [1, 2] (by decide) rfl (by simp only [zF, List.flatten_cons, List.flatten_nil, List.append_nil, List.map_append, List.map_cons, List.map_nil, zad_X0, zad_X1, zad_X2, zad_X3, zad_X4, zad_X5]) (zF2 _ _) (zF2 _ _) hk1 hP1
  clear hP1 hk1
  have hP : va_P D vwCl (zF [zB_X4 f h u o x, zB_X2 (g 0) o ((v_X2_eatersAt O T xb sh).2), zB_X3 (g 0) h T]) H1 := hP
  have hD : va_D (zA (zF [zB_X4 f h u o x, zB_X2 (g 0) o O, zB_X3 (g 0) h T])) (zF [zB_X4 f h u o x, zB_X2 (g 0) o ((v_X2_eatersAt O T xb sh).2), zB_X3 (g 0) h T]) := hD
  exact zretw_i hx hb hr hlocks dX4_ifShare_22 hP hS (by with_reducible exact congrArg (fun z9 => z9.1) hq) (by with_reducible exact congrArg (fun z9 => zF [zB_X4 f h u o x, zB_X2 (g 0) o z9.2, zB_X3 (g 0) h T]) hq)
def e_X4_bestSalt (T : Nat → Nat → Int32) (xb : Int32) (sal : Int32) : Option String := (if e_X4_needBread T xb = none then (if e_X4_needSalt sal = none then none else e_X4_needSalt sal) else e_X4_needBread T xb)
def v_X4_bestSalt (T : Nat → Nat → Int32) (xb : Int32) (sal : Int32) : Int32 := (v_X4_bestSaltFrom T xb (Int32.toNatClampNeg sal))
set_option maxHeartbeats 400000 in
set_option maxRecDepth 100000 in
theorem c_X4_bestSalt (l : Launch) (D : va_G) (g : Nat → ClassId) (f : Nat → Nat) (h : Nat → Nat) (u : Nat → Nat) (o : Nat → Nat) (x : Nat → Nat) (T : Nat → Nat → Int32) (xb : Int32) (sal : Int32) (he : e_X4_bestSalt T xb sal = none) : Rd l D (zT g) yX4_bestSalt wsX4_bestSalt (rmOf 4 97) [.ref (f 0), .int xb, .int sal] ((zB_X4 f h u o x) ++ (zB_X3 (g 0) h T)) (.int (v_X4_bestSalt T xb sal)) := by
  refine Rd.of (cc := cX4_bestSalt) (maxL := 3) (ret := (some .int)) (by decide) rfl (Nat.le_of_ble_eq_true rfl) ?_
  intro p e s m below meth c ls hx hb hr hml hown hts hlocks hP hK hl
  have hown : s.vm.findClass RX4 = some m.cls := hown
  obtain ⟨q, hq⟩ : ∃ q : Int32, q = v_X4_bestSalt T xb sal := ⟨_, rfl⟩
  rw [← hq]
  unfold v_X4_bestSalt at hq
  unfold e_X4_bestSalt at he
  have hl : lv_has ls 3 [(0, .ref (f 0)), (1, .int xb), (2, .int sal)] := hl
  refine lv_aload_n hx hb dX4_bestSalt_0 rfl (lv_at hl 0 rfl) ?_
  refine lv_iload_n hx hb dX4_bestSalt_1 rfl (lv_at hl 1 rfl) ?_
  obtain ⟨n_2, he⟩ := zTh_ok he
  refine zcNV (ci := 4) (n := 1) (c_X4_needBread l D g f h u o x T xb n_2) hx hb hml hown hts gX4_bestSalt_X4_needBread rfl ⟨rfl, by decide, by decide, by decide⟩ ⟨Nat.le_of_ble_eq_true rfl, Nat.le_of_ble_eq_true rfl⟩ ⟨rfl, rfl⟩ hK hP rfl rfl rfl hl.1 rfl rfl (Nat.le_of_ble_eq_true rfl) ⟨Nat.zero_le _, Nat.zero_le _⟩ dX4_bestSalt_2 ?_
  refine lv_iload_n hx hb dX4_bestSalt_5 rfl (lv_at hl 2 rfl) ?_
  obtain ⟨n_6, he⟩ := zTh_ok he
  refine zcNS (n := 1) (c_X4_needSalt l D g sal n_6) hx hb hml hown hts gX4_bestSalt_X4_needSalt rfl ⟨rfl, by decide, by decide, by decide⟩ ⟨Nat.le_of_ble_eq_true rfl, Nat.le_of_ble_eq_true rfl⟩ ⟨rfl, rfl⟩ hK (hP.sub [] rfl) hl.1 rfl rfl (Nat.le_of_ble_eq_true rfl) ⟨Nat.zero_le _, Nat.zero_le _⟩ dX4_bestSalt_6 ?_
  have w_1 := znat (zns n_6)
  have w_1b := w_1.2
  have hl : lv_has ls 3 [(0, .ref (f 0)), (1, .int xb), (2, .int (nI (Int32.toNatClampNeg sal)))] := by rw [← w_1.1]; exact hl
  refine lv_aload_n hx hb dX4_bestSalt_9 rfl (lv_at hl 0 rfl) ?_
  refine lv_iload_n hx hb dX4_bestSalt_10 rfl (lv_at hl 1 rfl) ?_
  refine lv_iload_n hx hb dX4_bestSalt_11 rfl (lv_at hl 2 rfl) ?_
  refine zcV (ci := 4) (n := 2) (c_X4_bestSaltFrom l D g f h u o x T xb (Int32.toNatClampNeg sal) (by omega)) hx hb hml hown hts gX4_bestSalt_X4_bestSaltFrom rfl ⟨rfl, by decide, by decide, by decide⟩ ⟨Nat.le_of_ble_eq_true rfl, Nat.le_of_ble_eq_true rfl⟩ ⟨rfl, rfl⟩ hK hP rfl rfl rfl hl.1 rfl rfl (Nat.le_of_ble_eq_true rfl) ⟨Nat.zero_le _, Nat.zero_le _⟩ dX4_bestSalt_12 ?_
  exact zret_i hx hb hr hlocks dX4_bestSalt_15 hq
