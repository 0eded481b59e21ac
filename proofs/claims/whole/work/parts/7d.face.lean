def e_X4_hold (Z : Nat → Nat → Int32) (T0 : Nat → Nat → Int32) (T1 : Nat → Nat → Int32) (T2 : Nat → Nat → Int32) (T3 : Nat → Nat → Int32) (T4 : Nat → Nat → Int32) (T5 : Nat → Nat → Int32) (T : Nat → Nat → Int32) (pe : Int32) (xb : Int32) (isin : Bool) : Option String := (if e_X4_needPerson pe = none then (if e_X4_needBread T xb = none then (if e_X4_needOpen T (nI (Int32.toNatClampNeg xb)) = none then none else e_X4_needOpen T (nI (Int32.toNatClampNeg xb))) else e_X4_needBread T xb) else e_X4_needPerson pe)
def v_X4_hold (Z : Nat → Nat → Int32) (T0 : Nat → Nat → Int32) (T1 : Nat → Nat → Int32) (T2 : Nat → Nat → Int32) (T3 : Nat → Nat → Int32) (T4 : Nat → Nat → Int32) (T5 : Nat → Nat → Int32) (T : Nat → Nat → Int32) (pe : Int32) (xb : Int32) (isin : Bool) : Int32 × (Nat → Nat → Int32) × (Nat → Nat → Int32) × (Nat → Nat → Int32) × (Nat → Nat → Int32) × (Nat → Nat → Int32) × (Nat → Nat → Int32) × (Nat → Nat → Int32) × (Nat → Nat → Int32) := (if (bI (v_X3_isEating (v_X3_setHold T (Int32.toNatClampNeg pe) (Int32.toNatClampNeg xb) isin) (Int32.toNatClampNeg pe) (Int32.toNatClampNeg xb))) = (bI (v_X3_isEating T (Int32.toNatClampNeg pe) (Int32.toNatClampNeg xb))) then (0, (v_X1_save Z T0 T1 T2 T3 T4 T5 T).1, (v_X1_save Z T0 T1 T2 T3 T4 T5 T).2.1, (v_X1_save Z T0 T1 T2 T3 T4 T5 T).2.2.1, (v_X1_save Z T0 T1 T2 T3 T4 T5 T).2.2.2.1, (v_X1_save Z T0 T1 T2 T3 T4 T5 T).2.2.2.2.1, (v_X1_save Z T0 T1 T2 T3 T4 T5 T).2.2.2.2.2.1, (v_X1_save Z T0 T1 T2 T3 T4 T5 T).2.2.2.2.2.2, v_X3_setHold T (Int32.toNatClampNeg pe) (Int32.toNatClampNeg xb) isin) else (1, (v_X1_save Z T0 T1 T2 T3 T4 T5 T).1, (v_X1_save Z T0 T1 T2 T3 T4 T5 T).2.1, (v_X1_save Z T0 T1 T2 T3 T4 T5 T).2.2.1, (v_X1_save Z T0 T1 T2 T3 T4 T5 T).2.2.2.1, (v_X1_save Z T0 T1 T2 T3 T4 T5 T).2.2.2.2.1, (v_X1_save Z T0 T1 T2 T3 T4 T5 T).2.2.2.2.2.1, (v_X1_save Z T0 T1 T2 T3 T4 T5 T).2.2.2.2.2.2, v_X3_setHold T (Int32.toNatClampNeg pe) (Int32.toNatClampNeg xb) isin))
set_option maxHeartbeats 400000 in
set_option maxRecDepth 100000 in
theorem c_X4_hold (l : Launch) (D : va_G) (g : Nat → ClassId) (f : Nat → Nat) (h : Nat → Nat) (u : Nat → Nat) (o : Nat → Nat) (x : Nat → Nat) (t0 : Nat → Nat) (t1 : Nat → Nat) (t2 : Nat → Nat) (t3 : Nat → Nat) (t4 : Nat → Nat) (t5 : Nat → Nat) (Z : Nat → Nat → Int32) (T0 : Nat → Nat → Int32) (T1 : Nat → Nat → Int32) (T2 : Nat → Nat → Int32) (T3 : Nat → Nat → Int32) (T4 : Nat → Nat → Int32) (T5 : Nat → Nat → Int32) (T : Nat → Nat → Int32) (pe : Int32) (xb : Int32) (isin : Bool) (z0 : vp_in (Z 0 0) 7) (z1 : vp_in (Z 1 0) 6) (he : e_X4_hold Z T0 T1 T2 T3 T4 T5 T pe xb isin = none) : Wr l D (zT g) yX4_hold wsX4_hold (rmOf 3 69) [.ref (f 0), .int pe, .int xb, .int (bI isin)] (zF [zB_X4 f h u o x, zB_X1 (g 1) u t0 t1 t2 t3 t4 t5 Z, zB_X3 (g 0) t0 T0, zB_X3 (g 0) t1 T1, zB_X3 (g 0) t2 T2, zB_X3 (g 0) t3 T3, zB_X3 (g 0) t4 T4, zB_X3 (g 0) t5 T5, zB_X3 (g 0) h T]) (some (.int ((v_X4_hold Z T0 T1 T2 T3 T4 T5 T pe xb isin).1))) (zF [zB_X4 f h u o x, zB_X1 (g 1) u t0 t1 t2 t3 t4 t5 ((v_X4_hold Z T0 T1 T2 T3 T4 T5 T pe xb isin).2.1), zB_X3 (g 0) t0 ((v_X4_hold Z T0 T1 T2 T3 T4 T5 T pe xb isin).2.2.1), zB_X3 (g 0) t1 ((v_X4_hold Z T0 T1 T2 T3 T4 T5 T pe xb isin).2.2.2.1), zB_X3 (g 0) t2 ((v_X4_hold Z T0 T1 T2 T3 T4 T5 T pe xb isin).2.2.2.2.1), zB_X3 (g 0) t3 ((v_X4_hold Z T0 T1 T2 T3 T4 T5 T pe xb isin).2.2.2.2.2.1), zB_X3 (g 0) t4 ((v_X4_hold Z T0 T1 T2 T3 T4 T5 T pe xb isin).2.2.2.2.2.2.1), zB_X3 (g 0) t5 ((v_X4_hold Z T0 T1 T2 T3 T4 T5 T pe xb isin).2.2.2.2.2.2.2.1), zB_X3 (g 0) h ((v_X4_hold Z T0 T1 T2 T3 T4 T5 T pe xb isin).2.2.2.2.2.2.2.2)]) := by
  refine Wr.of (cc := cX4_hold) (maxL := 5) (ret := (some .int)) (by decide) rfl (Nat.le_of_ble_eq_true rfl) ?_
  intro p e s m below meth c ls hx hb hr hml hown hts hlocks hP hD hS hK hl
  have hown : s.vm.findClass RX4 = some m.cls := hown
  have hinX4 : ∀ w ∈ u_ws RX4 TX4 4, w ∈ wsX4_hold := fun _ h9 => (List.mem_cons_of_mem _ (List.mem_append_left _ (List.mem_append_left _ (List.mem_append_left _ (List.mem_append_left _ (List.mem_append_right _ h9))))))
  obtain ⟨q, hq⟩ : ∃ q : Int32 × (Nat → Nat → Int32) × (Nat → Nat → Int32) × (Nat → Nat → Int32) × (Nat → Nat → Int32) × (Nat → Nat → Int32) × (Nat → Nat → Int32) × (Nat → Nat → Int32) × (Nat → Nat → Int32), q = v_X4_hold Z T0 T1 T2 T3 T4 T5 T pe xb isin := ⟨_, rfl⟩
  rw [← hq]
  unfold v_X4_hold at hq
  unfold e_X4_hold at he
  have hl : lv_has ls 5 [(0, .ref (f 0)), (1, .int pe), (2, .int xb), (3, .int (bI isin))] := hl
  refine lv_iload_n hx hb dX4_hold_0 rfl (lv_at hl 1 rfl) ?_
  obtain ⟨n_1, he⟩ := zTh_ok he
  refine zcNS (n := 1) (c_X4_needPerson l D g pe n_1) hx hb hml hown hts gX4_hold_X4_needPerson rfl ⟨rfl, by decide, by decide, by decide⟩ ⟨Nat.le_of_ble_eq_true rfl, Nat.le_of_ble_eq_true rfl⟩ ⟨rfl, rfl⟩ hK (hP.sub [] rfl) hl.1 rfl rfl (Nat.le_of_ble_eq_true rfl) ⟨Nat.zero_le _, Nat.zero_le _⟩ dX4_hold_1 ?_
  have w_1 := znat (znp n_1)
  have w_1b := w_1.2
  have hl : lv_has ls 5 [(0, .ref (f 0)), (1, .int (nI (Int32.toNatClampNeg pe))), (2, .int xb), (3, .int (bI isin))] := by rw [← w_1.1]; exact hl
  refine lv_aload_n hx hb dX4_hold_4 rfl (lv_at hl 0 rfl) ?_
  refine lv_iload_n hx hb dX4_hold_5 rfl (lv_at hl 2 rfl) ?_
  obtain ⟨n_6, he⟩ := zTh_ok he
  refine zcNV (ci := 4) (n := 1) (c_X4_needBread l D g f h u o x T xb n_6) hx hb hml hown hts gX4_hold_X4_needBread rfl ⟨rfl, by decide, by decide, by decide⟩ ⟨Nat.le_of_ble_eq_true rfl, Nat.le_of_ble_eq_true rfl⟩ ⟨rfl, rfl⟩ hK (zsubB (cs := [zB_X4 f h u o x, zB_X3 (g 0) h T]) hP [0, 8] rfl (zF2 _ _)) rfl rfl rfl hl.1 rfl rfl (Nat.le_of_ble_eq_true rfl) ⟨Nat.zero_le _, Nat.zero_le _⟩ dX4_hold_6 ?_
  have w_2 := znat (znb n_6)
  have w_2b := w_2.2
  have hl : lv_has ls 5 [(0, .ref (f 0)), (1, .int (nI (Int32.toNatClampNeg pe))), (2, .int (nI (Int32.toNatClampNeg xb))), (3, .int (bI isin))] := by rw [← w_2.1]; exact hl
  refine lv_aload_n hx hb dX4_hold_9 rfl (lv_at hl 0 rfl) ?_
  refine lv_iload_n hx hb dX4_hold_10 rfl (lv_at hl 2 rfl) ?_
  obtain ⟨n_11, he⟩ := zTh_ok he
  refine zcNV (ci := 4) (n := 1) (c_X4_needOpen l D g f h u o x T (nI (Int32.toNatClampNeg xb)) n_11) hx hb hml hown hts gX4_hold_X4_needOpen rfl ⟨rfl, by decide, by decide, by decide⟩ ⟨Nat.le_of_ble_eq_true rfl, Nat.le_of_ble_eq_true rfl⟩ ⟨rfl, rfl⟩ hK (zsubB (cs := [zB_X4 f h u o x, zB_X3 (g 0) h T]) hP [0, 8] rfl (zF2 _ _)) rfl rfl rfl hl.1 rfl rfl (Nat.le_of_ble_eq_true rfl) ⟨Nat.zero_le _, Nat.zero_le _⟩ dX4_hold_11 ?_
  refine lv_aload_n hx hb dX4_hold_14 rfl (lv_at hl 0 rfl) ?_
  refine va_get (D := D) (ci := 4) (v := .ref (u 0)) (C := RX4) (T := TX4) (N := 4) hx hb hts hinX4 hown hK.1 hP 0 rfl rfl 1 (by decide) (hts (.fieldLink RX4 19 "SaltShares" "history" "LSaltShares$History;") (List.mem_of_getElem? (i := 1) rfl)) (fun _ h9 => h9) rfl dX4_hold_15 ?_
  refine lv_aload_n hx hb dX4_hold_18 rfl (lv_at hl 0 rfl) ?_
  refine va_get (D := D) (ci := 4) (v := .ref (h 0)) (C := RX4) (T := TX4) (N := 4) hx hb hts hinX4 hown hK.1 hP 0 rfl rfl 0 (by decide) (hts (.fieldLink RX4 10 "SaltShares" "town" "LSaltShares$Town;") (List.mem_of_getElem? (i := 2) rfl)) (fun _ h9 => h9) rfl dX4_hold_19 ?_
  refine zcVw (ci := 1) (n := 1) (c_X1_save l D g u t0 t1 t2 t3 t4 t5 h Z T0 T1 T2 T3 T4 T5 T z0 z1) hx hb hml hown hts gX4_hold_X1_save rfl ⟨rfl, by decide, by decide, by decide⟩ ⟨Nat.le_of_ble_eq_true rfl, Nat.le_of_ble_eq_true rfl⟩ ⟨rfl, rfl⟩ hK (zsubB (cs := [zB_X1 (g 1) u t0 t1 t2 t3 t4 t5 Z, zB_X3 (g 0) t0 T0, zB_X3 (g 0) t1 T1, zB_X3 (g 0) t2 T2, zB_X3 (g 0) t3 T3, zB_X3 (g 0) t4 T4, zB_X3 (g 0) t5 T5, zB_X3 (g 0) h T]) hP [1, 2, 3, 4, 5, 6, 7, 8] rfl rfl) (zDsubB (cs := [zB_X1 (g 1) u t0 t1 t2 t3 t4 t5 Z, zB_X3 (g 0) t0 T0, zB_X3 (g 0) t1 T1, zB_X3 (g 0) t2 T2, zB_X3 (g 0) t3 T3, zB_X3 (g 0) t4 T4, zB_X3 (g 0) t5 T5, zB_X3 (g 0) h T]) hD [1, 2, 3, 4, 5, 6, 7, 8] (by decide) rfl rfl) rfl rfl rfl hS hl.1 rfl rfl (Nat.le_of_ble_eq_true rfl) ⟨Nat.zero_le _, Nat.zero_le _⟩ dX4_hold_22 (fun H1 locs hP1 hk1 hS => ?_)
  obtain ⟨hP, hD⟩ := zjoinB (cs := [zB_X1 (g 1) u t0 t1 t2 t3 t4 t5 Z, zB_X3 (g 0) t0 T0, zB_X3 (g 0) t1 T1, zB_X3 (g 0) t2 T2, zB_X3 (g 0) t3 T3, zB_X3 (g 0) t4 T4, zB_X3 (g 0) t5 T5, zB_X3 (g 0) h T]) (cs' := [zB_X1 (g 1) u t0 t1 t2 t3 t4 t5 ((v_X1_save Z T0 T1 T2 T3 T4 T5 T).1), zB_X3 (g 0) t0 ((v_X1_save Z T0 T1 T2 T3 T4 T5 T).2.1), zB_X3 (g 0) t1 ((v_X1_save Z T0 T1 T2 T3 T4 T5 T).2.2.1), zB_X3 (g 0) t2 ((v_X1_save Z T0 T1 T2 T3 T4 T5 T).2.2.2.1), zB_X3 (g 0) t3 ((v_X1_save Z T0 T1 T2 T3 T4 T5 T).2.2.2.2.1), zB_X3 (g 0) t4 ((v_X1_save Z T0 T1 T2 T3 T4 T5 T).2.2.2.2.2.1), zB_X3 (g 0) t5 ((v_X1_save Z T0 T1 T2 T3 T4 T5 T).2.2.2.2.2.2), zB_X3 (g 0) h T]) hP hD [1, 2, 3, 4, 5, 6, 7, 8] (by decide) rfl (by simp only [zF, List.flatten_cons, List.flatten_nil, List.append_nil, List.map_append, List.map_cons, List.map_nil, zad_X0, zad_X1, zad_X2, zad_X3, zad_X4, zad_X5]) rfl rfl hk1 hP1
  clear hP1 hk1
  have hP : va_P D vwCl (zF [zB_X4 f h u o x, zB_X1 (g 1) u t0 t1 t2 t3 t4 t5 ((v_X1_save Z T0 T1 T2 T3 T4 T5 T).1), zB_X3 (g 0) t0 ((v_X1_save Z T0 T1 T2 T3 T4 T5 T).2.1), zB_X3 (g 0) t1 ((v_X1_save Z T0 T1 T2 T3 T4 T5 T).2.2.1), zB_X3 (g 0) t2 ((v_X1_save Z T0 T1 T2 T3 T4 T5 T).2.2.2.1), zB_X3 (g 0) t3 ((v_X1_save Z T0 T1 T2 T3 T4 T5 T).2.2.2.2.1), zB_X3 (g 0) t4 ((v_X1_save Z T0 T1 T2 T3 T4 T5 T).2.2.2.2.2.1), zB_X3 (g 0) t5 ((v_X1_save Z T0 T1 T2 T3 T4 T5 T).2.2.2.2.2.2), zB_X3 (g 0) h T]) H1 := hP
  have hD : va_D (zA (zF [zB_X4 f h u o x, zB_X1 (g 1) u t0 t1 t2 t3 t4 t5 Z, zB_X3 (g 0) t0 T0, zB_X3 (g 0) t1 T1, zB_X3 (g 0) t2 T2, zB_X3 (g 0) t3 T3, zB_X3 (g 0) t4 T4, zB_X3 (g 0) t5 T5, zB_X3 (g 0) h T])) (zF [zB_X4 f h u o x, zB_X1 (g 1) u t0 t1 t2 t3 t4 t5 ((v_X1_save Z T0 T1 T2 T3 T4 T5 T).1), zB_X3 (g 0) t0 ((v_X1_save Z T0 T1 T2 T3 T4 T5 T).2.1), zB_X3 (g 0) t1 ((v_X1_save Z T0 T1 T2 T3 T4 T5 T).2.2.1), zB_X3 (g 0) t2 ((v_X1_save Z T0 T1 T2 T3 T4 T5 T).2.2.2.1), zB_X3 (g 0) t3 ((v_X1_save Z T0 T1 T2 T3 T4 T5 T).2.2.2.2.1), zB_X3 (g 0) t4 ((v_X1_save Z T0 T1 T2 T3 T4 T5 T).2.2.2.2.2.1), zB_X3 (g 0) t5 ((v_X1_save Z T0 T1 T2 T3 T4 T5 T).2.2.2.2.2.2), zB_X3 (g 0) h T]) := hD
  refine lv_aload_n hx hb dX4_hold_25 rfl (lv_at hl 0 rfl) ?_
  refine va_get (D := D) (ci := 4) (v := .ref (h 0)) (C := RX4) (T := TX4) (N := 4) hx hb hts hinX4 hown hK.1 hP 0 rfl rfl 0 (by decide) (hts (.fieldLink RX4 10 "SaltShares" "town" "LSaltShares$Town;") (List.mem_of_getElem? (i := 2) rfl)) (fun _ h9 => h9) rfl dX4_hold_26 ?_
  refine lv_iload_n hx hb dX4_hold_29 rfl (lv_at hl 1 rfl) ?_
  refine lv_iload_n hx hb dX4_hold_30 rfl (lv_at hl 2 rfl) ?_
  refine zcV (ci := 3) (n := 2) (c_X3_isEating l D g h T (Int32.toNatClampNeg pe) (Int32.toNatClampNeg xb) (by omega) (by omega)) hx hb hml hown hts gX4_hold_X3_isEating rfl ⟨rfl, by decide, by decide, by decide⟩ ⟨Nat.le_of_ble_eq_true rfl, Nat.le_of_ble_eq_true rfl⟩ ⟨rfl, rfl⟩ hK (zsubB (cs := [zB_X3 (g 0) h T]) hP [8] rfl (zF1 _)) rfl rfl rfl hl.1 rfl rfl (Nat.le_of_ble_eq_true rfl) ⟨Nat.zero_le _, Nat.zero_le _⟩ dX4_hold_31 ?_
  refine lv_istore (lv' := [(4, .int (bI (v_X3_isEating T (Int32.toNatClampNeg pe) (Int32.toNatClampNeg xb)))), (0, .ref (f 0)), (1, .int (nI (Int32.toNatClampNeg pe))), (2, .int (nI (Int32.toNatClampNeg xb))), (3, .int (bI isin))]) hx hb dX4_hold_34 hl (by decide) rfl (fun ls hl => ?_)
  refine lv_aload_n hx hb dX4_hold_36 rfl (lv_at hl 1 rfl) ?_
  refine va_get (D := D) (ci := 4) (v := .ref (h 0)) (C := RX4) (T := TX4) (N := 4) hx hb hts hinX4 hown hK.1 hP 0 rfl rfl 0 (by decide) (hts (.fieldLink RX4 10 "SaltShares" "town" "LSaltShares$Town;") (List.mem_of_getElem? (i := 2) rfl)) (fun _ h9 => h9) rfl dX4_hold_37 ?_
  refine lv_iload_n hx hb dX4_hold_40 rfl (lv_at hl 2 rfl) ?_
  refine lv_iload_n hx hb dX4_hold_41 rfl (lv_at hl 3 rfl) ?_
  refine lv_iload_n hx hb dX4_hold_42 rfl (lv_at hl 4 rfl) ?_
  refine zcVw (ci := 3) (n := 3) (c_X3_setHold l D g h T (Int32.toNatClampNeg pe) (Int32.toNatClampNeg xb) isin (by omega) (by omega)) hx hb hml hown hts gX4_hold_X3_setHold rfl ⟨rfl, by decide, by decide, by decide⟩ ⟨Nat.le_of_ble_eq_true rfl, Nat.le_of_ble_eq_true rfl⟩ ⟨rfl, rfl⟩ hK (zsubB (cs := [zB_X3 (g 0) h T]) hP [8] rfl (zF1 _)) (zDsubB (cs := [zB_X3 (g 0) h T]) hD [8] (by decide) rfl (zF1 _)) rfl rfl rfl hS hl.1 rfl rfl (Nat.le_of_ble_eq_true rfl) ⟨Nat.zero_le _, Nat.zero_le _⟩ dX4_hold_43 (fun H1 locs hP1 hk1 hS => ?_)
  obtain ⟨hP, hD⟩ := zjoinB (cs := [zB_X3 (g 0) h T]) (cs' := [zB_X3 (g 0) h (v_X3_setHold T (Int32.toNatClampNeg pe) (Int32.toNatClampNeg xb) isin)]) hP hD [8] (by decide) rfl (by simp only [zF, List.flatten_cons, List.flatten_nil, List.append_nil, List.map_append, List.map_cons, List.map_nil, zad_X0, zad_X1, zad_X2, zad_X3, zad_X4, zad_X5]) (zF1 _) (zF1 _) hk1 hP1
  clear hP1 hk1
  have hP : va_P D vwCl (zF [zB_X4 f h u o x, zB_X1 (g 1) u t0 t1 t2 t3 t4 t5 ((v_X1_save Z T0 T1 T2 T3 T4 T5 T).1), zB_X3 (g 0) t0 ((v_X1_save Z T0 T1 T2 T3 T4 T5 T).2.1), zB_X3 (g 0) t1 ((v_X1_save Z T0 T1 T2 T3 T4 T5 T).2.2.1), zB_X3 (g 0) t2 ((v_X1_save Z T0 T1 T2 T3 T4 T5 T).2.2.2.1), zB_X3 (g 0) t3 ((v_X1_save Z T0 T1 T2 T3 T4 T5 T).2.2.2.2.1), zB_X3 (g 0) t4 ((v_X1_save Z T0 T1 T2 T3 T4 T5 T).2.2.2.2.2.1), zB_X3 (g 0) t5 ((v_X1_save Z T0 T1 T2 T3 T4 T5 T).2.2.2.2.2.2), zB_X3 (g 0) h (v_X3_setHold T (Int32.toNatClampNeg pe) (Int32.toNatClampNeg xb) isin)]) H1 := hP
  have hD : va_D (zA (zF [zB_X4 f h u o x, zB_X1 (g 1) u t0 t1 t2 t3 t4 t5 Z, zB_X3 (g 0) t0 T0, zB_X3 (g 0) t1 T1, zB_X3 (g 0) t2 T2, zB_X3 (g 0) t3 T3, zB_X3 (g 0) t4 T4, zB_X3 (g 0) t5 T5, zB_X3 (g 0) h T])) (zF [zB_X4 f h u o x, zB_X1 (g 1) u t0 t1 t2 t3 t4 t5 ((v_X1_save Z T0 T1 T2 T3 T4 T5 T).1), zB_X3 (g 0) t0 ((v_X1_save Z T0 T1 T2 T3 T4 T5 T).2.1), zB_X3 (g 0) t1 ((v_X1_save Z T0 T1 T2 T3 T4 T5 T).2.2.1), zB_X3 (g 0) t2 ((v_X1_save Z T0 T1 T2 T3 T4 T5 T).2.2.2.1), zB_X3 (g 0) t3 ((v_X1_save Z T0 T1 T2 T3 T4 T5 T).2.2.2.2.1), zB_X3 (g 0) t4 ((v_X1_save Z T0 T1 T2 T3 T4 T5 T).2.2.2.2.2.1), zB_X3 (g 0) t5 ((v_X1_save Z T0 T1 T2 T3 T4 T5 T).2.2.2.2.2.2), zB_X3 (g 0) h (v_X3_setHold T (Int32.toNatClampNeg pe) (Int32.toNatClampNeg xb) isin)]) := hD
  refine lv_aload_n hx hb dX4_hold_46 rfl (lv_at hl 1 rfl) ?_
  refine va_get (D := D) (ci := 4) (v := .ref (h 0)) (C := RX4) (T := TX4) (N := 4) hx hb hts hinX4 hown hK.1 hP 0 rfl rfl 0 (by decide) (hts (.fieldLink RX4 10 "SaltShares" "town" "LSaltShares$Town;") (List.mem_of_getElem? (i := 2) rfl)) (fun _ h9 => h9) rfl dX4_hold_47 ?_
  refine lv_iload_n hx hb dX4_hold_50 rfl (lv_at hl 2 rfl) ?_
  refine lv_iload_n hx hb dX4_hold_51 rfl (lv_at hl 3 rfl) ?_
  refine zcV (ci := 3) (n := 2) (c_X3_isEating l D g h (v_X3_setHold T (Int32.toNatClampNeg pe) (Int32.toNatClampNeg xb) isin) (Int32.toNatClampNeg pe) (Int32.toNatClampNeg xb) (by omega) (by omega)) hx hb hml hown hts gX4_hold_X3_isEating rfl ⟨rfl, by decide, by decide, by decide⟩ ⟨Nat.le_of_ble_eq_true rfl, Nat.le_of_ble_eq_true rfl⟩ ⟨rfl, rfl⟩ hK (zsubB (cs := [zB_X3 (g 0) h (v_X3_setHold T (Int32.toNatClampNeg pe) (Int32.toNatClampNeg xb) isin)]) hP [8] rfl (zF1 _)) rfl rfl rfl hl.1 rfl rfl (Nat.le_of_ble_eq_true rfl) ⟨Nat.zero_le _, Nat.zero_le _⟩ dX4_hold_52 ?_
  refine lv_iload hx hb dX4_hold_55 (lv_at hl 0 rfl) ?_
  refine lv_icmp_ne (tgt := 64) hx hb dX4_hold_57 (by decide) (fun c_7 => ?_) (fun c_7 => ?_)
  · have c_7 : ¬ ((bI (v_X3_isEating (v_X3_setHold T (Int32.toNatClampNeg pe) (Int32.toNatClampNeg xb) isin) (Int32.toNatClampNeg pe) (Int32.toNatClampNeg xb))) = (bI (v_X3_isEating T (Int32.toNatClampNeg pe) (Int32.toNatClampNeg xb)))) := c_7
    have hq := hq.trans (if_neg c_7)
    refine lv_iconst (v := 1) hx hb dX4_hold_64 (by decide) ?_
    exact zretw_i hx hb hr hlocks dX4_hold_65 hP hS (by with_reducible exact congrArg (fun z9 => z9.1) hq) (by with_reducible exact congrArg (fun z9 => zF [zB_X4 f h u o x, zB_X1 (g 1) u t0 t1 t2 t3 t4 t5 z9.2.1, zB_X3 (g 0) t0 z9.2.2.1, zB_X3 (g 0) t1 z9.2.2.2.1, zB_X3 (g 0) t2 z9.2.2.2.2.1, zB_X3 (g 0) t3 z9.2.2.2.2.2.1, zB_X3 (g 0) t4 z9.2.2.2.2.2.2.1, zB_X3 (g 0) t5 z9.2.2.2.2.2.2.2.1, zB_X3 (g 0) h z9.2.2.2.2.2.2.2.2]) hq)
  · have c_7 : (bI (v_X3_isEating (v_X3_setHold T (Int32.toNatClampNeg pe) (Int32.toNatClampNeg xb) isin) (Int32.toNatClampNeg pe) (Int32.toNatClampNeg xb))) = (bI (v_X3_isEating T (Int32.toNatClampNeg pe) (Int32.toNatClampNeg xb))) := c_7
    have hq := hq.trans (if_pos c_7)
    refine lv_iconst (v := 0) hx hb dX4_hold_60 (by decide) ?_
    refine lv_goto (tgt := 65) hx hb dX4_hold_61 (by decide) ?_
    exact zretw_i hx hb hr hlocks dX4_hold_65 hP hS (by with_reducible exact congrArg (fun z9 => z9.1) hq) (by with_reducible exact congrArg (fun z9 => zF [zB_X4 f h u o x, zB_X1 (g 1) u t0 t1 t2 t3 t4 t5 z9.2.1, zB_X3 (g 0) t0 z9.2.2.1, zB_X3 (g 0) t1 z9.2.2.2.1, zB_X3 (g 0) t2 z9.2.2.2.2.1, zB_X3 (g 0) t3 z9.2.2.2.2.2.1, zB_X3 (g 0) t4 z9.2.2.2.2.2.2.1, zB_X3 (g 0) t5 z9.2.2.2.2.2.2.2.1, zB_X3 (g 0) h z9.2.2.2.2.2.2.2.2]) hq)
set_option maxHeartbeats 400000 in
set_option maxRecDepth 100000 in
theorem t_X4_hold (l : Launch) (D : va_G) (g : Nat → ClassId) (f : Nat → Nat) (h : Nat → Nat) (u : Nat → Nat) (o : Nat → Nat) (x : Nat → Nat) (t0 : Nat → Nat) (t1 : Nat → Nat) (t2 : Nat → Nat) (t3 : Nat → Nat) (t4 : Nat → Nat) (t5 : Nat → Nat) (Z : Nat → Nat → Int32) (T0 : Nat → Nat → Int32) (T1 : Nat → Nat → Int32) (T2 : Nat → Nat → Int32) (T3 : Nat → Nat → Int32) (T4 : Nat → Nat → Int32) (T5 : Nat → Nat → Int32) (T : Nat → Nat → Int32) (pe : Int32) (xb : Int32) (isin : Bool) (z0 : vp_in (Z 0 0) 7) (z1 : vp_in (Z 1 0) 6) (hst : l.stackTraces = false) (hp : Nat) (E : String) (he : e_X4_hold Z T0 T1 T2 T3 T4 T5 T pe xb isin = some E) : Tn l D (zT g) hp yX4_hold wsX4_hold (rmX 7 103) [.ref (f 0), .int pe, .int xb, .int (bI isin)] (zF [zB_X4 f h u o x, zB_X1 (g 1) u t0 t1 t2 t3 t4 t5 Z, zB_X3 (g 0) t0 T0, zB_X3 (g 0) t1 T1, zB_X3 (g 0) t2 T2, zB_X3 (g 0) t3 T3, zB_X3 (g 0) t4 T4, zB_X3 (g 0) t5 T5, zB_X3 (g 0) h T]) E := by
  refine Tn.of (cc := cX4_hold) (maxL := 5) (ret := (some .int)) (by decide) rfl (Nat.le_of_ble_eq_true rfl) ?_
  intro p e s m below meth c ls hx hb hml hown hts hlocks ht hP hD hK hE hl
  have hown : s.vm.findClass RX4 = some m.cls := hown
  unfold e_X4_hold at he
  have hl : lv_has ls 5 [(0, .ref (f 0)), (1, .int pe), (2, .int xb), (3, .int (bI isin))] := hl
  refine lv_iload_n hx hb dX4_hold_0 rfl (lv_at hl 1 rfl) ?_
  by_cases n_1 : e_X4_needPerson pe = none
  · have he := (if_pos n_1).symm.trans he
    refine zcNS (n := 1) (c_X4_needPerson l D g pe n_1) hx hb hml hown hts gX4_hold_X4_needPerson rfl ⟨rfl, by decide, by decide, by decide⟩ ⟨Nat.le_of_ble_eq_true rfl, Nat.le_of_ble_eq_true rfl⟩ ⟨rfl, rfl⟩ hK (hP.sub [] rfl) hl.1 rfl rfl (Nat.le_of_ble_eq_true rfl) ⟨Nat.zero_le _, Nat.zero_le _⟩ dX4_hold_1 ?_
    have w_1 := znat (znp n_1)
    have w_1b := w_1.2
    have hl : lv_has ls 5 [(0, .ref (f 0)), (1, .int (nI (Int32.toNatClampNeg pe))), (2, .int xb), (3, .int (bI isin))] := by rw [← w_1.1]; exact hl
    refine lv_aload_n hx hb dX4_hold_4 rfl (lv_at hl 0 rfl) ?_
    refine lv_iload_n hx hb dX4_hold_5 rfl (lv_at hl 2 rfl) ?_
    by_cases n_6 : e_X4_needBread T xb = none
    · have he := (if_pos n_6).symm.trans he
      refine zcNV (ci := 4) (n := 1) (c_X4_needBread l D g f h u o x T xb n_6) hx hb hml hown hts gX4_hold_X4_needBread rfl ⟨rfl, by decide, by decide, by decide⟩ ⟨Nat.le_of_ble_eq_true rfl, Nat.le_of_ble_eq_true rfl⟩ ⟨rfl, rfl⟩ hK (zsubB (cs := [zB_X4 f h u o x, zB_X3 (g 0) h T]) hP [0, 8] rfl (zF2 _ _)) rfl rfl rfl hl.1 rfl rfl (Nat.le_of_ble_eq_true rfl) ⟨Nat.zero_le _, Nat.zero_le _⟩ dX4_hold_6 ?_
      have w_2 := znat (znb n_6)
      have w_2b := w_2.2
      have hl : lv_has ls 5 [(0, .ref (f 0)), (1, .int (nI (Int32.toNatClampNeg pe))), (2, .int (nI (Int32.toNatClampNeg xb))), (3, .int (bI isin))] := by rw [← w_2.1]; exact hl
      refine lv_aload_n hx hb dX4_hold_9 rfl (lv_at hl 0 rfl) ?_
      refine lv_iload_n hx hb dX4_hold_10 rfl (lv_at hl 2 rfl) ?_
      by_cases n_11 : e_X4_needOpen T (nI (Int32.toNatClampNeg xb)) = none
      · have he := (if_pos n_11).symm.trans he
        refine zcNV (ci := 4) (n := 1) (c_X4_needOpen l D g f h u o x T (nI (Int32.toNatClampNeg xb)) n_11) hx hb hml hown hts gX4_hold_X4_needOpen rfl ⟨rfl, by decide, by decide, by decide⟩ ⟨Nat.le_of_ble_eq_true rfl, Nat.le_of_ble_eq_true rfl⟩ ⟨rfl, rfl⟩ hK (zsubB (cs := [zB_X4 f h u o x, zB_X3 (g 0) h T]) hP [0, 8] rfl (zF2 _ _)) rfl rfl rfl hl.1 rfl rfl (Nat.le_of_ble_eq_true rfl) ⟨Nat.zero_le _, Nat.zero_le _⟩ dX4_hold_11 ?_
        cases he
      · have he := (if_neg n_11).symm.trans he
        exact zctV (ci := 4) (n := 1) (t_X4_needOpen l D g f h u o x T (nI (Int32.toNatClampNeg xb)) hst hp E he) hx hb hml hown hts gX4_hold_X4_needOpen rfl ⟨rfl, by decide, by decide, by decide⟩ ⟨Nat.le_of_ble_eq_true rfl, Nat.le_of_ble_eq_true rfl⟩ ⟨rfl, rfl⟩ hK (zsubB (cs := [zB_X4 f h u o x, zB_X3 (g 0) h T]) hP [0, 8] rfl (zF2 _ _)) (zDsubB (cs := [zB_X4 f h u o x, zB_X3 (g 0) h T]) hD [0, 8] (by decide) rfl (zF2 _ _)) hE rfl rfl rfl hl.1 rfl rfl (Nat.le_of_ble_eq_true rfl) ⟨Nat.le_of_ble_eq_true rfl, Nat.le_of_ble_eq_true rfl⟩ dX4_hold_11 ht hlocks
    · have he := (if_neg n_6).symm.trans he
      exact zctV (ci := 4) (n := 1) (t_X4_needBread l D g f h u o x T xb hst hp E he) hx hb hml hown hts gX4_hold_X4_needBread rfl ⟨rfl, by decide, by decide, by decide⟩ ⟨Nat.le_of_ble_eq_true rfl, Nat.le_of_ble_eq_true rfl⟩ ⟨rfl, rfl⟩ hK (zsubB (cs := [zB_X4 f h u o x, zB_X3 (g 0) h T]) hP [0, 8] rfl (zF2 _ _)) (zDsubB (cs := [zB_X4 f h u o x, zB_X3 (g 0) h T]) hD [0, 8] (by decide) rfl (zF2 _ _)) hE rfl rfl rfl hl.1 rfl rfl (Nat.le_of_ble_eq_true rfl) ⟨Nat.le_of_ble_eq_true rfl, Nat.le_of_ble_eq_true rfl⟩ dX4_hold_6 ht hlocks
  · have he := (if_neg n_1).symm.trans he
    exact zctS (n := 1) (t_X4_needPerson l D g pe hst hp E he) hx hb hml hown hts gX4_hold_X4_needPerson rfl ⟨rfl, by decide, by decide, by decide⟩ ⟨Nat.le_of_ble_eq_true rfl, Nat.le_of_ble_eq_true rfl⟩ ⟨rfl, rfl⟩ hK (hP.sub [] rfl) (hD.sub [] (by decide) rfl) hE hl.1 rfl rfl (Nat.le_of_ble_eq_true rfl) ⟨Nat.le_of_ble_eq_true rfl, Nat.le_of_ble_eq_true rfl⟩ dX4_hold_1 ht hlocks
def e_X4_letGo (Z : Nat → Nat → Int32) (T0 : Nat → Nat → Int32) (T1 : Nat → Nat → Int32) (T2 : Nat → Nat → Int32) (T3 : Nat → Nat → Int32) (T4 : Nat → Nat → Int32) (T5 : Nat → Nat → Int32) (T : Nat → Nat → Int32) (pe : Int32) (xb : Int32) : Option String := (if e_X4_needPerson pe = none then (if e_X4_needBread T xb = none then (if (v_X3_isHeld T (Int32.toNatClampNeg pe) (Int32.toNatClampNeg xb)) = true then none else some zIS) else e_X4_needBread T xb) else e_X4_needPerson pe)
def v_X4_letGo (Z : Nat → Nat → Int32) (T0 : Nat → Nat → Int32) (T1 : Nat → Nat → Int32) (T2 : Nat → Nat → Int32) (T3 : Nat → Nat → Int32) (T4 : Nat → Nat → Int32) (T5 : Nat → Nat → Int32) (T : Nat → Nat → Int32) (pe : Int32) (xb : Int32) : Int32 × (Nat → Nat → Int32) × (Nat → Nat → Int32) × (Nat → Nat → Int32) × (Nat → Nat → Int32) × (Nat → Nat → Int32) × (Nat → Nat → Int32) × (Nat → Nat → Int32) × (Nat → Nat → Int32) := (if (bI (v_X3_isEating (v_X3_dropHold T (Int32.toNatClampNeg pe) (Int32.toNatClampNeg xb)) (Int32.toNatClampNeg pe) (Int32.toNatClampNeg xb))) = (bI (v_X3_isEating T (Int32.toNatClampNeg pe) (Int32.toNatClampNeg xb))) then (0, (v_X1_save Z T0 T1 T2 T3 T4 T5 T).1, (v_X1_save Z T0 T1 T2 T3 T4 T5 T).2.1, (v_X1_save Z T0 T1 T2 T3 T4 T5 T).2.2.1, (v_X1_save Z T0 T1 T2 T3 T4 T5 T).2.2.2.1, (v_X1_save Z T0 T1 T2 T3 T4 T5 T).2.2.2.2.1, (v_X1_save Z T0 T1 T2 T3 T4 T5 T).2.2.2.2.2.1, (v_X1_save Z T0 T1 T2 T3 T4 T5 T).2.2.2.2.2.2, v_X3_dropHold T (Int32.toNatClampNeg pe) (Int32.toNatClampNeg xb)) else (1, (v_X1_save Z T0 T1 T2 T3 T4 T5 T).1, (v_X1_save Z T0 T1 T2 T3 T4 T5 T).2.1, (v_X1_save Z T0 T1 T2 T3 T4 T5 T).2.2.1, (v_X1_save Z T0 T1 T2 T3 T4 T5 T).2.2.2.1, (v_X1_save Z T0 T1 T2 T3 T4 T5 T).2.2.2.2.1, (v_X1_save Z T0 T1 T2 T3 T4 T5 T).2.2.2.2.2.1, (v_X1_save Z T0 T1 T2 T3 T4 T5 T).2.2.2.2.2.2, v_X3_dropHold T (Int32.toNatClampNeg pe) (Int32.toNatClampNeg xb)))
set_option maxHeartbeats 400000 in
set_option maxRecDepth 100000 in
theorem c_X4_letGo (l : Launch) (D : va_G) (g : Nat → ClassId) (f : Nat → Nat) (h : Nat → Nat) (u : Nat → Nat) (o : Nat → Nat) (x : Nat → Nat) (t0 : Nat → Nat) (t1 : Nat → Nat) (t2 : Nat → Nat) (t3 : Nat → Nat) (t4 : Nat → Nat) (t5 : Nat → Nat) (Z : Nat → Nat → Int32) (T0 : Nat → Nat → Int32) (T1 : Nat → Nat → Int32) (T2 : Nat → Nat → Int32) (T3 : Nat → Nat → Int32) (T4 : Nat → Nat → Int32) (T5 : Nat → Nat → Int32) (T : Nat → Nat → Int32) (pe : Int32) (xb : Int32) (z0 : vp_in (Z 0 0) 7) (z1 : vp_in (Z 1 0) 6) (he : e_X4_letGo Z T0 T1 T2 T3 T4 T5 T pe xb = none) : Wr l D (zT g) yX4_letGo wsX4_letGo (rmOf 3 69) [.ref (f 0), .int pe, .int xb] (zF [zB_X4 f h u o x, zB_X1 (g 1) u t0 t1 t2 t3 t4 t5 Z, zB_X3 (g 0) t0 T0, zB_X3 (g 0) t1 T1, zB_X3 (g 0) t2 T2, zB_X3 (g 0) t3 T3, zB_X3 (g 0) t4 T4, zB_X3 (g 0) t5 T5, zB_X3 (g 0) h T]) (some (.int ((v_X4_letGo Z T0 T1 T2 T3 T4 T5 T pe xb).1))) (zF [zB_X4 f h u o x, zB_X1 (g 1) u t0 t1 t2 t3 t4 t5 ((v_X4_letGo Z T0 T1 T2 T3 T4 T5 T pe xb).2.1), zB_X3 (g 0) t0 ((v_X4_letGo Z T0 T1 T2 T3 T4 T5 T pe xb).2.2.1), zB_X3 (g 0) t1 ((v_X4_letGo Z T0 T1 T2 T3 T4 T5 T pe xb).2.2.2.1), zB_X3 (g 0) t2 ((v_X4_letGo Z T0 T1 T2 T3 T4 T5 T pe xb).2.2.2.2.1), zB_X3 (g 0) t3 ((v_X4_letGo Z T0 T1 T2 T3 T4 T5 T pe xb).2.2.2.2.2.1), zB_X3 (g 0) t4 ((v_X4_letGo Z T0 T1 T2 T3 T4 T5 T pe xb).2.2.2.2.2.2.1), zB_X3 (g 0) t5 ((v_X4_letGo Z T0 T1 T2 T3 T4 T5 T pe xb).2.2.2.2.2.2.2.1), zB_X3 (g 0) h ((v_X4_letGo Z T0 T1 T2 T3 T4 T5 T pe xb).2.2.2.2.2.2.2.2)]) := by
  refine Wr.of (cc := cX4_letGo) (maxL := 4) (ret := (some .int)) (by decide) rfl (Nat.le_of_ble_eq_true rfl) ?_
  intro p e s m below meth c ls hx hb hr hml hown hts hlocks hP hD hS hK hl
  have hown : s.vm.findClass RX4 = some m.cls := hown
  have hinX4 : ∀ w ∈ u_ws RX4 TX4 4, w ∈ wsX4_letGo := fun _ h9 => (List.mem_cons_of_mem _ (List.mem_append_left _ (List.mem_append_left _ (List.mem_append_left _ (List.mem_append_left _ (List.mem_append_right _ h9))))))
  obtain ⟨q, hq⟩ : ∃ q : Int32 × (Nat → Nat → Int32) × (Nat → Nat → Int32) × (Nat → Nat → Int32) × (Nat → Nat → Int32) × (Nat → Nat → Int32) × (Nat → Nat → Int32) × (Nat → Nat → Int32) × (Nat → Nat → Int32), q = v_X4_letGo Z T0 T1 T2 T3 T4 T5 T pe xb := ⟨_, rfl⟩
  rw [← hq]
  unfold v_X4_letGo at hq
  unfold e_X4_letGo at he
  have hl : lv_has ls 4 [(0, .ref (f 0)), (1, .int pe), (2, .int xb)] := hl
  refine lv_iload_n hx hb dX4_letGo_0 rfl (lv_at hl 1 rfl) ?_
  obtain ⟨n_1, he⟩ := zTh_ok he
  refine zcNS (n := 1) (c_X4_needPerson l D g pe n_1) hx hb hml hown hts gX4_letGo_X4_needPerson rfl ⟨rfl, by decide, by decide, by decide⟩ ⟨Nat.le_of_ble_eq_true rfl, Nat.le_of_ble_eq_true rfl⟩ ⟨rfl, rfl⟩ hK (hP.sub [] rfl) hl.1 rfl rfl (Nat.le_of_ble_eq_true rfl) ⟨Nat.zero_le _, Nat.zero_le _⟩ dX4_letGo_1 ?_
  have w_1 := znat (znp n_1)
  have w_1b := w_1.2
  have hl : lv_has ls 4 [(0, .ref (f 0)), (1, .int (nI (Int32.toNatClampNeg pe))), (2, .int xb)] := by rw [← w_1.1]; exact hl
  refine lv_aload_n hx hb dX4_letGo_4 rfl (lv_at hl 0 rfl) ?_
  refine lv_iload_n hx hb dX4_letGo_5 rfl (lv_at hl 2 rfl) ?_
  obtain ⟨n_6, he⟩ := zTh_ok he
  refine zcNV (ci := 4) (n := 1) (c_X4_needBread l D g f h u o x T xb n_6) hx hb hml hown hts gX4_letGo_X4_needBread rfl ⟨rfl, by decide, by decide, by decide⟩ ⟨Nat.le_of_ble_eq_true rfl, Nat.le_of_ble_eq_true rfl⟩ ⟨rfl, rfl⟩ hK (zsubB (cs := [zB_X4 f h u o x, zB_X3 (g 0) h T]) hP [0, 8] rfl (zF2 _ _)) rfl rfl rfl hl.1 rfl rfl (Nat.le_of_ble_eq_true rfl) ⟨Nat.zero_le _, Nat.zero_le _⟩ dX4_letGo_6 ?_
  have w_2 := znat (znb n_6)
  have w_2b := w_2.2
  have hl : lv_has ls 4 [(0, .ref (f 0)), (1, .int (nI (Int32.toNatClampNeg pe))), (2, .int (nI (Int32.toNatClampNeg xb)))] := by rw [← w_2.1]; exact hl
  refine lv_aload_n hx hb dX4_letGo_9 rfl (lv_at hl 0 rfl) ?_
  refine va_get (D := D) (ci := 4) (v := .ref (h 0)) (C := RX4) (T := TX4) (N := 4) hx hb hts hinX4 hown hK.1 hP 0 rfl rfl 0 (by decide) (hts (.fieldLink RX4 10 "SaltShares" "town" "LSaltShares$Town;") (List.mem_of_getElem? (i := 3) rfl)) (fun _ h9 => h9) rfl dX4_letGo_10 ?_
  refine lv_iload_n hx hb dX4_letGo_13 rfl (lv_at hl 1 rfl) ?_
  refine lv_iload_n hx hb dX4_letGo_14 rfl (lv_at hl 2 rfl) ?_
  refine zcV (ci := 3) (n := 2) (c_X3_isHeld l D g h T (Int32.toNatClampNeg pe) (Int32.toNatClampNeg xb) (by omega) (by omega)) hx hb hml hown hts gX4_letGo_X3_isHeld rfl ⟨rfl, by decide, by decide, by decide⟩ ⟨Nat.le_of_ble_eq_true rfl, Nat.le_of_ble_eq_true rfl⟩ ⟨rfl, rfl⟩ hK (zsubB (cs := [zB_X3 (g 0) h T]) hP [8] rfl (zF1 _)) rfl rfl rfl hl.1 rfl rfl (Nat.le_of_ble_eq_true rfl) ⟨Nat.zero_le _, Nat.zero_le _⟩ dX4_letGo_15 ?_
  refine zif_ne (tgt := 31) hx hb dX4_letGo_18 (by decide) (fun c_4 => ?_) (fun c_4 => ?_)
  · have he := (zif_t c_4).symm.trans he
    refine lv_aload_n hx hb dX4_letGo_31 rfl (lv_at hl 0 rfl) ?_
    refine va_get (D := D) (ci := 4) (v := .ref (u 0)) (C := RX4) (T := TX4) (N := 4) hx hb hts hinX4 hown hK.1 hP 0 rfl rfl 1 (by decide) (hts (.fieldLink RX4 19 "SaltShares" "history" "LSaltShares$History;") (List.mem_of_getElem? (i := 4) rfl)) (fun _ h9 => h9) rfl dX4_letGo_32 ?_
    refine lv_aload_n hx hb dX4_letGo_35 rfl (lv_at hl 0 rfl) ?_
    refine va_get (D := D) (ci := 4) (v := .ref (h 0)) (C := RX4) (T := TX4) (N := 4) hx hb hts hinX4 hown hK.1 hP 0 rfl rfl 0 (by decide) (hts (.fieldLink RX4 10 "SaltShares" "town" "LSaltShares$Town;") (List.mem_of_getElem? (i := 3) rfl)) (fun _ h9 => h9) rfl dX4_letGo_36 ?_
    refine zcVw (ci := 1) (n := 1) (c_X1_save l D g u t0 t1 t2 t3 t4 t5 h Z T0 T1 T2 T3 T4 T5 T z0 z1) hx hb hml hown hts gX4_letGo_X1_save rfl ⟨rfl, by decide, by decide, by decide⟩ ⟨Nat.le_of_ble_eq_true rfl, Nat.le_of_ble_eq_true rfl⟩ ⟨rfl, rfl⟩ hK (zsubB (cs := [zB_X1 (g 1) u t0 t1 t2 t3 t4 t5 Z, zB_X3 (g 0) t0 T0, zB_X3 (g 0) t1 T1, zB_X3 (g 0) t2 T2, zB_X3 (g 0) t3 T3, zB_X3 (g 0) t4 T4, zB_X3 (g 0) t5 T5, zB_X3 (g 0) h T]) hP [1, 2, 3, 4, 5, 6, 7, 8] rfl rfl) (zDsubB (cs := [zB_X1 (g 1) u t0 t1 t2 t3 t4 t5 Z, zB_X3 (g 0) t0 T0, zB_X3 (g 0) t1 T1, zB_X3 (g 0) t2 T2, zB_X3 (g 0) t3 T3, zB_X3 (g 0) t4 T4, zB_X3 (g 0) t5 T5, zB_X3 (g 0) h T]) hD [1, 2, 3, 4, 5, 6, 7, 8] (by decide) rfl rfl) rfl rfl rfl hS hl.1 rfl rfl (Nat.le_of_ble_eq_true rfl) ⟨Nat.zero_le _, Nat.zero_le _⟩ dX4_letGo_39 (fun H1 locs hP1 hk1 hS => ?_)
    obtain ⟨hP, hD⟩ := zjoinB (cs := [zB_X1 (g 1) u t0 t1 t2 t3 t4 t5 Z, zB_X3 (g 0) t0 T0, zB_X3 (g 0) t1 T1, zB_X3 (g 0) t2 T2, zB_X3 (g 0) t3 T3, zB_X3 (g 0) t4 T4, zB_X3 (g 0) t5 T5, zB_X3 (g 0) h T]) (cs' := [zB_X1 (g 1) u t0 t1 t2 t3 t4 t5 ((v_X1_save Z T0 T1 T2 T3 T4 T5 T).1), zB_X3 (g 0) t0 ((v_X1_save Z T0 T1 T2 T3 T4 T5 T).2.1), zB_X3 (g 0) t1 ((v_X1_save Z T0 T1 T2 T3 T4 T5 T).2.2.1), zB_X3 (g 0) t2 ((v_X1_save Z T0 T1 T2 T3 T4 T5 T).2.2.2.1), zB_X3 (g 0) t3 ((v_X1_save Z T0 T1 T2 T3 T4 T5 T).2.2.2.2.1), zB_X3 (g 0) t4 ((v_X1_save Z T0 T1 T2 T3 T4 T5 T).2.2.2.2.2.1), zB_X3 (g 0) t5 ((v_X1_save Z T0 T1 T2 T3 T4 T5 T).2.2.2.2.2.2), zB_X3 (g 0) h T]) hP hD [1, 2, 3, 4, 5, 6, 7, 8] (by decide) rfl (by simp only [zF, List.flatten_cons, List.flatten_nil, List.append_nil, List.map_append, List.map_cons, List.map_nil, zad_X0, zad_X1, zad_X2, zad_X3, zad_X4, zad_X5]) rfl rfl hk1 hP1
    clear hP1 hk1
    have hP : va_P D vwCl (zF [zB_X4 f h u o x, zB_X1 (g 1) u t0 t1 t2 t3 t4 t5 ((v_X1_save Z T0 T1 T2 T3 T4 T5 T).1), zB_X3 (g 0) t0 ((v_X1_save Z T0 T1 T2 T3 T4 T5 T).2.1), zB_X3 (g 0) t1 ((v_X1_save Z T0 T1 T2 T3 T4 T5 T).2.2.1), zB_X3 (g 0) t2 ((v_X1_save Z T0 T1 T2 T3 T4 T5 T).2.2.2.1), zB_X3 (g 0) t3 ((v_X1_save Z T0 T1 T2 T3 T4 T5 T).2.2.2.2.1), zB_X3 (g 0) t4 ((v_X1_save Z T0 T1 T2 T3 T4 T5 T).2.2.2.2.2.1), zB_X3 (g 0) t5 ((v_X1_save Z T0 T1 T2 T3 T4 T5 T).2.2.2.2.2.2), zB_X3 (g 0) h T]) H1 := hP
    have hD : va_D (zA (zF [zB_X4 f h u o x, zB_X1 (g 1) u t0 t1 t2 t3 t4 t5 Z, zB_X3 (g 0) t0 T0, zB_X3 (g 0) t1 T1, zB_X3 (g 0) t2 T2, zB_X3 (g 0) t3 T3, zB_X3 (g 0) t4 T4, zB_X3 (g 0) t5 T5, zB_X3 (g 0) h T])) (zF [zB_X4 f h u o x, zB_X1 (g 1) u t0 t1 t2 t3 t4 t5 ((v_X1_save Z T0 T1 T2 T3 T4 T5 T).1), zB_X3 (g 0) t0 ((v_X1_save Z T0 T1 T2 T3 T4 T5 T).2.1), zB_X3 (g 0) t1 ((v_X1_save Z T0 T1 T2 T3 T4 T5 T).2.2.1), zB_X3 (g 0) t2 ((v_X1_save Z T0 T1 T2 T3 T4 T5 T).2.2.2.1), zB_X3 (g 0) t3 ((v_X1_save Z T0 T1 T2 T3 T4 T5 T).2.2.2.2.1), zB_X3 (g 0) t4 ((v_X1_save Z T0 T1 T2 T3 T4 T5 T).2.2.2.2.2.1), zB_X3 (g 0) t5 ((v_X1_save Z T0 T1 T2 T3 T4 T5 T).2.2.2.2.2.2), zB_X3 (g 0) h T]) := hD
    refine lv_aload_n hx hb dX4_letGo_42 rfl (lv_at hl 0 rfl) ?_
    refine va_get (D := D) (ci := 4) (v := .ref (h 0)) (C := RX4) (T := TX4) (N := 4) hx hb hts hinX4 hown hK.1 hP 0 rfl rfl 0 (by decide) (hts (.fieldLink RX4 10 "SaltShares" "town" "LSaltShares$Town;") (List.mem_of_getElem? (i := 3) rfl)) (fun _ h9 => h9) rfl dX4_letGo_43 ?_
    refine lv_iload_n hx hb dX4_letGo_46 rfl (lv_at hl 1 rfl) ?_
    refine lv_iload_n hx hb dX4_letGo_47 rfl (lv_at hl 2 rfl) ?_
    refine zcV (ci := 3) (n := 2) (c_X3_isEating l D g h T (Int32.toNatClampNeg pe) (Int32.toNatClampNeg xb) (by omega) (by omega)) hx hb hml hown hts gX4_letGo_X3_isEating rfl ⟨rfl, by decide, by decide, by decide⟩ ⟨Nat.le_of_ble_eq_true rfl, Nat.le_of_ble_eq_true rfl⟩ ⟨rfl, rfl⟩ hK (zsubB (cs := [zB_X3 (g 0) h T]) hP [8] rfl (zF1 _)) rfl rfl rfl hl.1 rfl rfl (Nat.le_of_ble_eq_true rfl) ⟨Nat.zero_le _, Nat.zero_le _⟩ dX4_letGo_48 ?_
    refine lv_istore_n (lv' := [(3, .int (bI (v_X3_isEating T (Int32.toNatClampNeg pe) (Int32.toNatClampNeg xb)))), (0, .ref (f 0)), (1, .int (nI (Int32.toNatClampNeg pe))), (2, .int (nI (Int32.toNatClampNeg xb)))]) hx hb dX4_letGo_51 rfl hl (by decide) rfl (fun ls hl => ?_)
    refine lv_aload_n hx hb dX4_letGo_52 rfl (lv_at hl 1 rfl) ?_
    refine va_get (D := D) (ci := 4) (v := .ref (h 0)) (C := RX4) (T := TX4) (N := 4) hx hb hts hinX4 hown hK.1 hP 0 rfl rfl 0 (by decide) (hts (.fieldLink RX4 10 "SaltShares" "town" "LSaltShares$Town;") (List.mem_of_getElem? (i := 3) rfl)) (fun _ h9 => h9) rfl dX4_letGo_53 ?_
    refine lv_iload_n hx hb dX4_letGo_56 rfl (lv_at hl 2 rfl) ?_
    refine lv_iload_n hx hb dX4_letGo_57 rfl (lv_at hl 3 rfl) ?_
    refine zcVw (ci := 3) (n := 2) (c_X3_dropHold l D g h T (Int32.toNatClampNeg pe) (Int32.toNatClampNeg xb) (by omega) (by omega)) hx hb hml hown hts gX4_letGo_X3_dropHold rfl ⟨rfl, by decide, by decide, by decide⟩ ⟨Nat.le_of_ble_eq_true rfl, Nat.le_of_ble_eq_true rfl⟩ ⟨rfl, rfl⟩ hK (zsubB (cs := [zB_X3 (g 0) h T]) hP [8] rfl (zF1 _)) (zDsubB (cs := [zB_X3 (g 0) h T]) hD [8] (by decide) rfl (zF1 _)) rfl rfl rfl hS hl.1 rfl rfl (Nat.le_of_ble_eq_true rfl) ⟨Nat.zero_le _, Nat.zero_le _⟩ dX4_letGo_58 (fun H1 locs hP1 hk1 hS => ?_)
    obtain ⟨hP, hD⟩ := zjoinB (cs := [zB_X3 (g 0) h T]) (cs' := [zB_X3 (g 0) h (v_X3_dropHold T (Int32.toNatClampNeg pe) (Int32.toNatClampNeg xb))]) hP hD [8] (by decide) rfl (by simp only [zF, List.flatten_cons, List.flatten_nil, List.append_nil, List.map_append, List.map_cons, List.map_nil, zad_X0, zad_X1, zad_X2, zad_X3, zad_X4, zad_X5]) (zF1 _) (zF1 _) hk1 hP1
    clear hP1 hk1
    have hP : va_P D vwCl (zF [zB_X4 f h u o x, zB_X1 (g 1) u t0 t1 t2 t3 t4 t5 ((v_X1_save Z T0 T1 T2 T3 T4 T5 T).1), zB_X3 (g 0) t0 ((v_X1_save Z T0 T1 T2 T3 T4 T5 T).2.1), zB_X3 (g 0) t1 ((v_X1_save Z T0 T1 T2 T3 T4 T5 T).2.2.1), zB_X3 (g 0) t2 ((v_X1_save Z T0 T1 T2 T3 T4 T5 T).2.2.2.1), zB_X3 (g 0) t3 ((v_X1_save Z T0 T1 T2 T3 T4 T5 T).2.2.2.2.1), zB_X3 (g 0) t4 ((v_X1_save Z T0 T1 T2 T3 T4 T5 T).2.2.2.2.2.1), zB_X3 (g 0) t5 ((v_X1_save Z T0 T1 T2 T3 T4 T5 T).2.2.2.2.2.2), zB_X3 (g 0) h (v_X3_dropHold T (Int32.toNatClampNeg pe) (Int32.toNatClampNeg xb))]) H1 := hP
    have hD : va_D (zA (zF [zB_X4 f h u o x, zB_X1 (g 1) u t0 t1 t2 t3 t4 t5 Z, zB_X3 (g 0) t0 T0, zB_X3 (g 0) t1 T1, zB_X3 (g 0) t2 T2, zB_X3 (g 0) t3 T3, zB_X3 (g 0) t4 T4, zB_X3 (g 0) t5 T5, zB_X3 (g 0) h T])) (zF [zB_X4 f h u o x, zB_X1 (g 1) u t0 t1 t2 t3 t4 t5 ((v_X1_save Z T0 T1 T2 T3 T4 T5 T).1), zB_X3 (g 0) t0 ((v_X1_save Z T0 T1 T2 T3 T4 T5 T).2.1), zB_X3 (g 0) t1 ((v_X1_save Z T0 T1 T2 T3 T4 T5 T).2.2.1), zB_X3 (g 0) t2 ((v_X1_save Z T0 T1 T2 T3 T4 T5 T).2.2.2.1), zB_X3 (g 0) t3 ((v_X1_save Z T0 T1 T2 T3 T4 T5 T).2.2.2.2.1), zB_X3 (g 0) t4 ((v_X1_save Z T0 T1 T2 T3 T4 T5 T).2.2.2.2.2.1), zB_X3 (g 0) t5 ((v_X1_save Z T0 T1 T2 T3 T4 T5 T).2.2.2.2.2.2), zB_X3 (g 0) h (v_X3_dropHold T (Int32.toNatClampNeg pe) (Int32.toNatClampNeg xb))]) := hD
    refine lv_aload_n hx hb dX4_letGo_61 rfl (lv_at hl 1 rfl) ?_
    refine va_get (D := D) (ci := 4) (v := .ref (h 0)) (C := RX4) (T := TX4) (N := 4) hx hb hts hinX4 hown hK.1 hP 0 rfl rfl 0 (by decide) (hts (.fieldLink RX4 10 "SaltShares" "town" "LSaltShares$Town;") (List.mem_of_getElem? (i := 3) rfl)) (fun _ h9 => h9) rfl dX4_letGo_62 ?_
    refine lv_iload_n hx hb dX4_letGo_65 rfl (lv_at hl 2 rfl) ?_
    refine lv_iload_n hx hb dX4_letGo_66 rfl (lv_at hl 3 rfl) ?_
    refine zcV (ci := 3) (n := 2) (c_X3_isEating l D g h (v_X3_dropHold T (Int32.toNatClampNeg pe) (Int32.toNatClampNeg xb)) (Int32.toNatClampNeg pe) (Int32.toNatClampNeg xb) (by omega) (by omega)) hx hb hml hown hts gX4_letGo_X3_isEating rfl ⟨rfl, by decide, by decide, by decide⟩ ⟨Nat.le_of_ble_eq_true rfl, Nat.le_of_ble_eq_true rfl⟩ ⟨rfl, rfl⟩ hK (zsubB (cs := [zB_X3 (g 0) h (v_X3_dropHold T (Int32.toNatClampNeg pe) (Int32.toNatClampNeg xb))]) hP [8] rfl (zF1 _)) rfl rfl rfl hl.1 rfl rfl (Nat.le_of_ble_eq_true rfl) ⟨Nat.zero_le _, Nat.zero_le _⟩ dX4_letGo_67 ?_
    refine lv_iload_n hx hb dX4_letGo_70 rfl (lv_at hl 0 rfl) ?_
    refine lv_icmp_ne (tgt := 78) hx hb dX4_letGo_71 (by decide) (fun c_9 => ?_) (fun c_9 => ?_)
    · have c_9 : ¬ ((bI (v_X3_isEating (v_X3_dropHold T (Int32.toNatClampNeg pe) (Int32.toNatClampNeg xb)) (Int32.toNatClampNeg pe) (Int32.toNatClampNeg xb))) = (bI (v_X3_isEating T (Int32.toNatClampNeg pe) (Int32.toNatClampNeg xb)))) := c_9
      have hq := hq.trans (if_neg c_9)
      refine lv_iconst (v := 1) hx hb dX4_letGo_78 (by decide) ?_
      exact zretw_i hx hb hr hlocks dX4_letGo_79 hP hS (by with_reducible exact congrArg (fun z9 => z9.1) hq) (by with_reducible exact congrArg (fun z9 => zF [zB_X4 f h u o x, zB_X1 (g 1) u t0 t1 t2 t3 t4 t5 z9.2.1, zB_X3 (g 0) t0 z9.2.2.1, zB_X3 (g 0) t1 z9.2.2.2.1, zB_X3 (g 0) t2 z9.2.2.2.2.1, zB_X3 (g 0) t3 z9.2.2.2.2.2.1, zB_X3 (g 0) t4 z9.2.2.2.2.2.2.1, zB_X3 (g 0) t5 z9.2.2.2.2.2.2.2.1, zB_X3 (g 0) h z9.2.2.2.2.2.2.2.2]) hq)
    · have c_9 : (bI (v_X3_isEating (v_X3_dropHold T (Int32.toNatClampNeg pe) (Int32.toNatClampNeg xb)) (Int32.toNatClampNeg pe) (Int32.toNatClampNeg xb))) = (bI (v_X3_isEating T (Int32.toNatClampNeg pe) (Int32.toNatClampNeg xb))) := c_9
      have hq := hq.trans (if_pos c_9)
      refine lv_iconst (v := 0) hx hb dX4_letGo_74 (by decide) ?_
      refine lv_goto (tgt := 79) hx hb dX4_letGo_75 (by decide) ?_
      exact zretw_i hx hb hr hlocks dX4_letGo_79 hP hS (by with_reducible exact congrArg (fun z9 => z9.1) hq) (by with_reducible exact congrArg (fun z9 => zF [zB_X4 f h u o x, zB_X1 (g 1) u t0 t1 t2 t3 t4 t5 z9.2.1, zB_X3 (g 0) t0 z9.2.2.1, zB_X3 (g 0) t1 z9.2.2.2.1, zB_X3 (g 0) t2 z9.2.2.2.2.1, zB_X3 (g 0) t3 z9.2.2.2.2.2.1, zB_X3 (g 0) t4 z9.2.2.2.2.2.2.1, zB_X3 (g 0) t5 z9.2.2.2.2.2.2.2.1, zB_X3 (g 0) h z9.2.2.2.2.2.2.2.2]) hq)
  · have he := (zif_f c_4).symm.trans he
    cases he
set_option maxHeartbeats 400000 in
set_option maxRecDepth 100000 in
theorem t_X4_letGo (l : Launch) (D : va_G) (g : Nat → ClassId) (f : Nat → Nat) (h : Nat → Nat) (u : Nat → Nat) (o : Nat → Nat) (x : Nat → Nat) (t0 : Nat → Nat) (t1 : Nat → Nat) (t2 : Nat → Nat) (t3 : Nat → Nat) (t4 : Nat → Nat) (t5 : Nat → Nat) (Z : Nat → Nat → Int32) (T0 : Nat → Nat → Int32) (T1 : Nat → Nat → Int32) (T2 : Nat → Nat → Int32) (T3 : Nat → Nat → Int32) (T4 : Nat → Nat → Int32) (T5 : Nat → Nat → Int32) (T : Nat → Nat → Int32) (pe : Int32) (xb : Int32) (z0 : vp_in (Z 0 0) 7) (z1 : vp_in (Z 1 0) 6) (hst : l.stackTraces = false) (hp : Nat) (E : String) (he : e_X4_letGo Z T0 T1 T2 T3 T4 T5 T pe xb = some E) : Tn l D (zT g) hp yX4_letGo wsX4_letGo (rmX 7 103) [.ref (f 0), .int pe, .int xb] (zF [zB_X4 f h u o x, zB_X1 (g 1) u t0 t1 t2 t3 t4 t5 Z, zB_X3 (g 0) t0 T0, zB_X3 (g 0) t1 T1, zB_X3 (g 0) t2 T2, zB_X3 (g 0) t3 T3, zB_X3 (g 0) t4 T4, zB_X3 (g 0) t5 T5, zB_X3 (g 0) h T]) E := by
  refine Tn.of (cc := cX4_letGo) (maxL := 4) (ret := (some .int)) (by decide) rfl (Nat.le_of_ble_eq_true rfl) ?_
  intro p e s m below meth c ls hx hb hml hown hts hlocks ht hP hD hK hE hl
  have hown : s.vm.findClass RX4 = some m.cls := hown
  have hinX4 : ∀ w ∈ u_ws RX4 TX4 4, w ∈ wsX4_letGo := fun _ h9 => (List.mem_cons_of_mem _ (List.mem_append_left _ (List.mem_append_left _ (List.mem_append_left _ (List.mem_append_left _ (List.mem_append_right _ h9))))))
  unfold e_X4_letGo at he
  have hl : lv_has ls 4 [(0, .ref (f 0)), (1, .int pe), (2, .int xb)] := hl
  refine lv_iload_n hx hb dX4_letGo_0 rfl (lv_at hl 1 rfl) ?_
  by_cases n_1 : e_X4_needPerson pe = none
  · have he := (if_pos n_1).symm.trans he
    refine zcNS (n := 1) (c_X4_needPerson l D g pe n_1) hx hb hml hown hts gX4_letGo_X4_needPerson rfl ⟨rfl, by decide, by decide, by decide⟩ ⟨Nat.le_of_ble_eq_true rfl, Nat.le_of_ble_eq_true rfl⟩ ⟨rfl, rfl⟩ hK (hP.sub [] rfl) hl.1 rfl rfl (Nat.le_of_ble_eq_true rfl) ⟨Nat.zero_le _, Nat.zero_le _⟩ dX4_letGo_1 ?_
    have w_1 := znat (znp n_1)
    have w_1b := w_1.2
    have hl : lv_has ls 4 [(0, .ref (f 0)), (1, .int (nI (Int32.toNatClampNeg pe))), (2, .int xb)] := by rw [← w_1.1]; exact hl
    refine lv_aload_n hx hb dX4_letGo_4 rfl (lv_at hl 0 rfl) ?_
    refine lv_iload_n hx hb dX4_letGo_5 rfl (lv_at hl 2 rfl) ?_
    by_cases n_6 : e_X4_needBread T xb = none
    · have he := (if_pos n_6).symm.trans he
      refine zcNV (ci := 4) (n := 1) (c_X4_needBread l D g f h u o x T xb n_6) hx hb hml hown hts gX4_letGo_X4_needBread rfl ⟨rfl, by decide, by decide, by decide⟩ ⟨Nat.le_of_ble_eq_true rfl, Nat.le_of_ble_eq_true rfl⟩ ⟨rfl, rfl⟩ hK (zsubB (cs := [zB_X4 f h u o x, zB_X3 (g 0) h T]) hP [0, 8] rfl (zF2 _ _)) rfl rfl rfl hl.1 rfl rfl (Nat.le_of_ble_eq_true rfl) ⟨Nat.zero_le _, Nat.zero_le _⟩ dX4_letGo_6 ?_
      have w_2 := znat (znb n_6)
      have w_2b := w_2.2
      have hl : lv_has ls 4 [(0, .ref (f 0)), (1, .int (nI (Int32.toNatClampNeg pe))), (2, .int (nI (Int32.toNatClampNeg xb)))] := by rw [← w_2.1]; exact hl
      refine lv_aload_n hx hb dX4_letGo_9 rfl (lv_at hl 0 rfl) ?_
      refine va_get (D := D) (ci := 4) (v := .ref (h 0)) (C := RX4) (T := TX4) (N := 4) hx hb hts hinX4 hown hK.1 hP 0 rfl rfl 0 (by decide) (hts (.fieldLink RX4 10 "SaltShares" "town" "LSaltShares$Town;") (List.mem_of_getElem? (i := 3) rfl)) (fun _ h9 => h9) rfl dX4_letGo_10 ?_
      refine lv_iload_n hx hb dX4_letGo_13 rfl (lv_at hl 1 rfl) ?_
      refine lv_iload_n hx hb dX4_letGo_14 rfl (lv_at hl 2 rfl) ?_
      refine zcV (ci := 3) (n := 2) (c_X3_isHeld l D g h T (Int32.toNatClampNeg pe) (Int32.toNatClampNeg xb) (by omega) (by omega)) hx hb hml hown hts gX4_letGo_X3_isHeld rfl ⟨rfl, by decide, by decide, by decide⟩ ⟨Nat.le_of_ble_eq_true rfl, Nat.le_of_ble_eq_true rfl⟩ ⟨rfl, rfl⟩ hK (zsubB (cs := [zB_X3 (g 0) h T]) hP [8] rfl (zF1 _)) rfl rfl rfl hl.1 rfl rfl (Nat.le_of_ble_eq_true rfl) ⟨Nat.zero_le _, Nat.zero_le _⟩ dX4_letGo_15 ?_
      refine zif_ne (tgt := 31) hx hb dX4_letGo_18 (by decide) (fun c_4 => ?_) (fun c_4 => ?_)
      · have he := (zif_t c_4).symm.trans he
        cases he
      · have he := (zif_f c_4).symm.trans he
        cases he
        exact zthr (text := "the person is not held for it") hx hb hst hml hl.1 hown hts zfitS (List.mem_of_getElem? (i := 1) rfl) (List.mem_of_getElem? (i := 2) rfl) (fun _ h9 => (List.mem_cons_of_mem _ (List.mem_append_left _ (List.mem_append_right _ h9)))) zbadS zgdS hE (by decide +kernel) (by decide +kernel) rfl ht dX4_letGo_21 dX4_letGo_24 dX4_letGo_25 dX4_letGo_27 dX4_letGo_30 ⟨Nat.le_of_ble_eq_true rfl, Nat.le_of_ble_eq_true rfl, Nat.le_of_ble_eq_true rfl, Nat.le_of_ble_eq_true rfl⟩ hlocks
    · have he := (if_neg n_6).symm.trans he
      exact zctV (ci := 4) (n := 1) (t_X4_needBread l D g f h u o x T xb hst hp E he) hx hb hml hown hts gX4_letGo_X4_needBread rfl ⟨rfl, by decide, by decide, by decide⟩ ⟨Nat.le_of_ble_eq_true rfl, Nat.le_of_ble_eq_true rfl⟩ ⟨rfl, rfl⟩ hK (zsubB (cs := [zB_X4 f h u o x, zB_X3 (g 0) h T]) hP [0, 8] rfl (zF2 _ _)) (zDsubB (cs := [zB_X4 f h u o x, zB_X3 (g 0) h T]) hD [0, 8] (by decide) rfl (zF2 _ _)) hE rfl rfl rfl hl.1 rfl rfl (Nat.le_of_ble_eq_true rfl) ⟨Nat.le_of_ble_eq_true rfl, Nat.le_of_ble_eq_true rfl⟩ dX4_letGo_6 ht hlocks
  · have he := (if_neg n_1).symm.trans he
    exact zctS (n := 1) (t_X4_needPerson l D g pe hst hp E he) hx hb hml hown hts gX4_letGo_X4_needPerson rfl ⟨rfl, by decide, by decide, by decide⟩ ⟨Nat.le_of_ble_eq_true rfl, Nat.le_of_ble_eq_true rfl⟩ ⟨rfl, rfl⟩ hK (hP.sub [] rfl) (hD.sub [] (by decide) rfl) hE hl.1 rfl rfl (Nat.le_of_ble_eq_true rfl) ⟨Nat.le_of_ble_eq_true rfl, Nat.le_of_ble_eq_true rfl⟩ dX4_letGo_1 ht hlocks
def e_X4_pass (Z : Nat → Nat → Int32) (T0 : Nat → Nat → Int32) (T1 : Nat → Nat → Int32) (T2 : Nat → Nat → Int32) (T3 : Nat → Nat → Int32) (T4 : Nat → Nat → Int32) (T5 : Nat → Nat → Int32) (T : Nat → Nat → Int32) (days : Int32) : Option String := (if days < 1 then some zIA else (if days ≤ 50 then none else some zIA))
def v_X4_pass (Z : Nat → Nat → Int32) (T0 : Nat → Nat → Int32) (T1 : Nat → Nat → Int32) (T2 : Nat → Nat → Int32) (T3 : Nat → Nat → Int32) (T4 : Nat → Nat → Int32) (T5 : Nat → Nat → Int32) (T : Nat → Nat → Int32) (days : Int32) : Int32 × (Nat → Nat → Int32) × (Nat → Nat → Int32) × (Nat → Nat → Int32) × (Nat → Nat → Int32) × (Nat → Nat → Int32) × (Nat → Nat → Int32) × (Nat → Nat → Int32) × (Nat → Nat → Int32) := ((((v_X3_letPass T days) 2 0) - (T 2 0)), (v_X1_save Z T0 T1 T2 T3 T4 T5 T).1, (v_X1_save Z T0 T1 T2 T3 T4 T5 T).2.1, (v_X1_save Z T0 T1 T2 T3 T4 T5 T).2.2.1, (v_X1_save Z T0 T1 T2 T3 T4 T5 T).2.2.2.1, (v_X1_save Z T0 T1 T2 T3 T4 T5 T).2.2.2.2.1, (v_X1_save Z T0 T1 T2 T3 T4 T5 T).2.2.2.2.2.1, (v_X1_save Z T0 T1 T2 T3 T4 T5 T).2.2.2.2.2.2, v_X3_letPass T days)
set_option maxHeartbeats 400000 in
set_option maxRecDepth 100000 in
theorem c_X4_pass (l : Launch) (D : va_G) (g : Nat → ClassId) (f : Nat → Nat) (h : Nat → Nat) (u : Nat → Nat) (o : Nat → Nat) (x : Nat → Nat) (t0 : Nat → Nat) (t1 : Nat → Nat) (t2 : Nat → Nat) (t3 : Nat → Nat) (t4 : Nat → Nat) (t5 : Nat → Nat) (Z : Nat → Nat → Int32) (T0 : Nat → Nat → Int32) (T1 : Nat → Nat → Int32) (T2 : Nat → Nat → Int32) (T3 : Nat → Nat → Int32) (T4 : Nat → Nat → Int32) (T5 : Nat → Nat → Int32) (T : Nat → Nat → Int32) (days : Int32) (z0 : vp_in (Z 0 0) 7) (z1 : vp_in (Z 1 0) 6) (he : e_X4_pass Z T0 T1 T2 T3 T4 T5 T days = none) : Wr l D (zT g) yX4_pass wsX4_pass (rmOf 4 94) [.ref (f 0), .int days] (zF [zB_X4 f h u o x, zB_X1 (g 1) u t0 t1 t2 t3 t4 t5 Z, zB_X3 (g 0) t0 T0, zB_X3 (g 0) t1 T1, zB_X3 (g 0) t2 T2, zB_X3 (g 0) t3 T3, zB_X3 (g 0) t4 T4, zB_X3 (g 0) t5 T5, zB_X3 (g 0) h T]) (some (.int ((v_X4_pass Z T0 T1 T2 T3 T4 T5 T days).1))) (zF [zB_X4 f h u o x, zB_X1 (g 1) u t0 t1 t2 t3 t4 t5 ((v_X4_pass Z T0 T1 T2 T3 T4 T5 T days).2.1), zB_X3 (g 0) t0 ((v_X4_pass Z T0 T1 T2 T3 T4 T5 T days).2.2.1), zB_X3 (g 0) t1 ((v_X4_pass Z T0 T1 T2 T3 T4 T5 T days).2.2.2.1), zB_X3 (g 0) t2 ((v_X4_pass Z T0 T1 T2 T3 T4 T5 T days).2.2.2.2.1), zB_X3 (g 0) t3 ((v_X4_pass Z T0 T1 T2 T3 T4 T5 T days).2.2.2.2.2.1), zB_X3 (g 0) t4 ((v_X4_pass Z T0 T1 T2 T3 T4 T5 T days).2.2.2.2.2.2.1), zB_X3 (g 0) t5 ((v_X4_pass Z T0 T1 T2 T3 T4 T5 T days).2.2.2.2.2.2.2.1), zB_X3 (g 0) h ((v_X4_pass Z T0 T1 T2 T3 T4 T5 T days).2.2.2.2.2.2.2.2)]) := by
  refine Wr.of (cc := cX4_pass) (maxL := 3) (ret := (some .int)) (by decide) rfl (Nat.le_of_ble_eq_true rfl) ?_
  intro p e s m below meth c ls hx hb hr hml hown hts hlocks hP hD hS hK hl
  have hown : s.vm.findClass RX4 = some m.cls := hown
  have hinX3 : ∀ w ∈ u_ws RX3 TX3 15, w ∈ wsX4_pass := fun _ h9 => (List.mem_cons_of_mem _ (List.mem_append_left _ (List.mem_append_left _ (List.mem_append_right _ h9))))
  have hinX4 : ∀ w ∈ u_ws RX4 TX4 4, w ∈ wsX4_pass := fun _ h9 => (List.mem_cons_of_mem _ (List.mem_append_left _ (List.mem_append_left _ (List.mem_append_left _ (List.mem_append_right _ h9)))))
  obtain ⟨q, hq⟩ : ∃ q : Int32 × (Nat → Nat → Int32) × (Nat → Nat → Int32) × (Nat → Nat → Int32) × (Nat → Nat → Int32) × (Nat → Nat → Int32) × (Nat → Nat → Int32) × (Nat → Nat → Int32) × (Nat → Nat → Int32), q = v_X4_pass Z T0 T1 T2 T3 T4 T5 T days := ⟨_, rfl⟩
  rw [← hq]
  unfold v_X4_pass at hq
  unfold e_X4_pass at he
  have hl : lv_has ls 3 [(0, .ref (f 0)), (1, .int days)] := hl
  refine lv_iload_n hx hb dX4_pass_0 rfl (lv_at hl 1 rfl) ?_
  refine lv_iconst (v := 1) hx hb dX4_pass_1 (by decide) ?_
  refine lv_icmp_lt (tgt := 11) hx hb dX4_pass_2 (by decide) (fun c_1 => ?_) (fun c_1 => ?_)
  · have c_1 : days < 1 := c_1
    have he := (if_pos c_1).symm.trans he
    cases he
  · have c_1 : ¬ (days < 1) := c_1
    have he := (if_neg c_1).symm.trans he
    refine lv_iload_n hx hb dX4_pass_5 rfl (lv_at hl 1 rfl) ?_
    refine lv_bipush (v := 50) hx hb dX4_pass_6 (by decide) ?_
    refine lv_icmp_le (tgt := 21) hx hb dX4_pass_8 (by decide) (fun c_2 => ?_) (fun c_2 => ?_)
    · have c_2 : days ≤ 50 := c_2
      have he := (if_pos c_2).symm.trans he
      refine lv_aload_n hx hb dX4_pass_21 rfl (lv_at hl 0 rfl) ?_
      refine va_get (D := D) (ci := 4) (v := .ref (u 0)) (C := RX4) (T := TX4) (N := 4) hx hb hts hinX4 hown hK.1 hP 0 rfl rfl 1 (by decide) (hts (.fieldLink RX4 19 "SaltShares" "history" "LSaltShares$History;") (List.mem_of_getElem? (i := 3) rfl)) (fun _ h9 => h9) rfl dX4_pass_22 ?_
      refine lv_aload_n hx hb dX4_pass_25 rfl (lv_at hl 0 rfl) ?_
      refine va_get (D := D) (ci := 4) (v := .ref (h 0)) (C := RX4) (T := TX4) (N := 4) hx hb hts hinX4 hown hK.1 hP 0 rfl rfl 0 (by decide) (hts (.fieldLink RX4 10 "SaltShares" "town" "LSaltShares$Town;") (List.mem_of_getElem? (i := 4) rfl)) (fun _ h9 => h9) rfl dX4_pass_26 ?_
      refine zcVw (ci := 1) (n := 1) (c_X1_save l D g u t0 t1 t2 t3 t4 t5 h Z T0 T1 T2 T3 T4 T5 T z0 z1) hx hb hml hown hts gX4_pass_X1_save rfl ⟨rfl, by decide, by decide, by decide⟩ ⟨Nat.le_of_ble_eq_true rfl, Nat.le_of_ble_eq_true rfl⟩ ⟨rfl, rfl⟩ hK (zsubB (cs := [zB_X1 (g 1) u t0 t1 t2 t3 t4 t5 Z, zB_X3 (g 0) t0 T0, zB_X3 (g 0) t1 T1, zB_X3 (g 0) t2 T2, zB_X3 (g 0) t3 T3, zB_X3 (g 0) t4 T4, zB_X3 (g 0) t5 T5, zB_X3 (g 0) h T]) hP [1, 2, 3, 4, 5, 6, 7, 8] rfl rfl) (zDsubB (cs := [zB_X1 (g 1) u t0 t1 t2 t3 t4 t5 Z, zB_X3 (g 0) t0 T0, zB_X3 (g 0) t1 T1, zB_X3 (g 0) t2 T2, zB_X3 (g 0) t3 T3, zB_X3 (g 0) t4 T4, zB_X3 (g 0) t5 T5, zB_X3 (g 0) h T]) hD [1, 2, 3, 4, 5, 6, 7, 8] (by decide) rfl rfl) rfl rfl rfl hS hl.1 rfl rfl (Nat.le_of_ble_eq_true rfl) ⟨Nat.zero_le _, Nat.zero_le _⟩ dX4_pass_29 (fun H1 locs hP1 hk1 hS => ?_)
      obtain ⟨hP, hD⟩ := zjoinB (cs := [zB_X1 (g 1) u t0 t1 t2 t3 t4 t5 Z, zB_X3 (g 0) t0 T0, zB_X3 (g 0) t1 T1, zB_X3 (g 0) t2 T2, zB_X3 (g 0) t3 T3, zB_X3 (g 0) t4 T4, zB_X3 (g 0) t5 T5, zB_X3 (g 0) h T]) (cs' := [zB_X1 (g 1) u t0 t1 t2 t3 t4 t5 ((v_X1_save Z T0 T1 T2 T3 T4 T5 T).1), zB_X3 (g 0) t0 ((v_X1_save Z T0 T1 T2 T3 T4 T5 T).2.1), zB_X3 (g 0) t1 ((v_X1_save Z T0 T1 T2 T3 T4 T5 T).2.2.1), zB_X3 (g 0) t2 ((v_X1_save Z T0 T1 T2 T3 T4 T5 T).2.2.2.1), zB_X3 (g 0) t3 ((v_X1_save Z T0 T1 T2 T3 T4 T5 T).2.2.2.2.1), zB_X3 (g 0) t4 ((v_X1_save Z T0 T1 T2 T3 T4 T5 T).2.2.2.2.2.1), zB_X3 (g 0) t5 ((v_X1_save Z T0 T1 T2 T3 T4 T5 T).2.2.2.2.2.2), zB_X3 (g 0) h T]) hP hD [1, 2, 3, 4, 5, 6, 7, 8] (by decide) rfl (by simp only [zF, List.flatten_cons, List.flatten_nil, List.append_nil, List.map_append, List.map_cons, List.map_nil, zad_X0, zad_X1, zad_X2, zad_X3, zad_X4, zad_X5]) rfl rfl hk1 hP1
      clear hP1 hk1
      have hP : va_P D vwCl (zF [zB_X4 f h u o x, zB_X1 (g 1) u t0 t1 t2 t3 t4 t5 ((v_X1_save Z T0 T1 T2 T3 T4 T5 T).1), zB_X3 (g 0) t0 ((v_X1_save Z T0 T1 T2 T3 T4 T5 T).2.1), zB_X3 (g 0) t1 ((v_X1_save Z T0 T1 T2 T3 T4 T5 T).2.2.1), zB_X3 (g 0) t2 ((v_X1_save Z T0 T1 T2 T3 T4 T5 T).2.2.2.1), zB_X3 (g 0) t3 ((v_X1_save Z T0 T1 T2 T3 T4 T5 T).2.2.2.2.1), zB_X3 (g 0) t4 ((v_X1_save Z T0 T1 T2 T3 T4 T5 T).2.2.2.2.2.1), zB_X3 (g 0) t5 ((v_X1_save Z T0 T1 T2 T3 T4 T5 T).2.2.2.2.2.2), zB_X3 (g 0) h T]) H1 := hP
      have hD : va_D (zA (zF [zB_X4 f h u o x, zB_X1 (g 1) u t0 t1 t2 t3 t4 t5 Z, zB_X3 (g 0) t0 T0, zB_X3 (g 0) t1 T1, zB_X3 (g 0) t2 T2, zB_X3 (g 0) t3 T3, zB_X3 (g 0) t4 T4, zB_X3 (g 0) t5 T5, zB_X3 (g 0) h T])) (zF [zB_X4 f h u o x, zB_X1 (g 1) u t0 t1 t2 t3 t4 t5 ((v_X1_save Z T0 T1 T2 T3 T4 T5 T).1), zB_X3 (g 0) t0 ((v_X1_save Z T0 T1 T2 T3 T4 T5 T).2.1), zB_X3 (g 0) t1 ((v_X1_save Z T0 T1 T2 T3 T4 T5 T).2.2.1), zB_X3 (g 0) t2 ((v_X1_save Z T0 T1 T2 T3 T4 T5 T).2.2.2.1), zB_X3 (g 0) t3 ((v_X1_save Z T0 T1 T2 T3 T4 T5 T).2.2.2.2.1), zB_X3 (g 0) t4 ((v_X1_save Z T0 T1 T2 T3 T4 T5 T).2.2.2.2.2.1), zB_X3 (g 0) t5 ((v_X1_save Z T0 T1 T2 T3 T4 T5 T).2.2.2.2.2.2), zB_X3 (g 0) h T]) := hD
      refine lv_aload_n hx hb dX4_pass_32 rfl (lv_at hl 0 rfl) ?_
      refine va_get (D := D) (ci := 4) (v := .ref (h 0)) (C := RX4) (T := TX4) (N := 4) hx hb hts hinX4 hown hK.1 hP 0 rfl rfl 0 (by decide) (hts (.fieldLink RX4 10 "SaltShares" "town" "LSaltShares$Town;") (List.mem_of_getElem? (i := 4) rfl)) (fun _ h9 => h9) rfl dX4_pass_33 ?_
      refine va_get (D := D) (ci := 3) (v := .int (T 2 0)) (C := RX3) (T := TX3) (N := 15) hx hb hts hinX3 hown hK.1 hP 69 rfl rfl 2 (by decide) (hts (.fieldLink RX4 149 "SaltShares$Town" "servings" "I") (List.mem_of_getElem? (i := 5) rfl)) (fun _ h9 => h9) rfl dX4_pass_36 ?_
      refine lv_istore_n (lv' := [(2, .int (T 2 0)), (0, .ref (f 0)), (1, .int days)]) hx hb dX4_pass_39 rfl hl (by decide) rfl (fun ls hl => ?_)
      refine lv_aload_n hx hb dX4_pass_40 rfl (lv_at hl 1 rfl) ?_
      refine va_get (D := D) (ci := 4) (v := .ref (h 0)) (C := RX4) (T := TX4) (N := 4) hx hb hts hinX4 hown hK.1 hP 0 rfl rfl 0 (by decide) (hts (.fieldLink RX4 10 "SaltShares" "town" "LSaltShares$Town;") (List.mem_of_getElem? (i := 4) rfl)) (fun _ h9 => h9) rfl dX4_pass_41 ?_
      refine lv_iload_n hx hb dX4_pass_44 rfl (lv_at hl 2 rfl) ?_
      refine zcVw (ci := 3) (n := 1) (c_X3_letPass l D g h T days) hx hb hml hown hts gX4_pass_X3_letPass rfl ⟨rfl, by decide, by decide, by decide⟩ ⟨Nat.le_of_ble_eq_true rfl, Nat.le_of_ble_eq_true rfl⟩ ⟨rfl, rfl⟩ hK (zsubB (cs := [zB_X3 (g 0) h T]) hP [8] rfl (zF1 _)) (zDsubB (cs := [zB_X3 (g 0) h T]) hD [8] (by decide) rfl (zF1 _)) rfl rfl rfl hS hl.1 rfl rfl (Nat.le_of_ble_eq_true rfl) ⟨Nat.zero_le _, Nat.zero_le _⟩ dX4_pass_45 (fun H1 locs hP1 hk1 hS => ?_)
      obtain ⟨hP, hD⟩ := zjoinB (cs := [zB_X3 (g 0) h T]) (cs' := [zB_X3 (g 0) h (v_X3_letPass T days)]) hP hD [8] (by decide) rfl (by simp only [zF, List.flatten_cons, List.flatten_nil, List.append_nil, List.map_append, List.map_cons, List.map_nil, zad_X0, zad_X1, zad_X2, zad_X3, zad_X4, zad_X5]) (zF1 _) (zF1 _) hk1 hP1
      clear hP1 hk1
      have hP : va_P D vwCl (zF [zB_X4 f h u o x, zB_X1 (g 1) u t0 t1 t2 t3 t4 t5 ((v_X1_save Z T0 T1 T2 T3 T4 T5 T).1), zB_X3 (g 0) t0 ((v_X1_save Z T0 T1 T2 T3 T4 T5 T).2.1), zB_X3 (g 0) t1 ((v_X1_save Z T0 T1 T2 T3 T4 T5 T).2.2.1), zB_X3 (g 0) t2 ((v_X1_save Z T0 T1 T2 T3 T4 T5 T).2.2.2.1), zB_X3 (g 0) t3 ((v_X1_save Z T0 T1 T2 T3 T4 T5 T).2.2.2.2.1), zB_X3 (g 0) t4 ((v_X1_save Z T0 T1 T2 T3 T4 T5 T).2.2.2.2.2.1), zB_X3 (g 0) t5 ((v_X1_save Z T0 T1 T2 T3 T4 T5 T).2.2.2.2.2.2), zB_X3 (g 0) h (v_X3_letPass T days)]) H1 := hP
      have hD : va_D (zA (zF [zB_X4 f h u o x, zB_X1 (g 1) u t0 t1 t2 t3 t4 t5 Z, zB_X3 (g 0) t0 T0, zB_X3 (g 0) t1 T1, zB_X3 (g 0) t2 T2, zB_X3 (g 0) t3 T3, zB_X3 (g 0) t4 T4, zB_X3 (g 0) t5 T5, zB_X3 (g 0) h T])) (zF [zB_X4 f h u o x, zB_X1 (g 1) u t0 t1 t2 t3 t4 t5 ((v_X1_save Z T0 T1 T2 T3 T4 T5 T).1), zB_X3 (g 0) t0 ((v_X1_save Z T0 T1 T2 T3 T4 T5 T).2.1), zB_X3 (g 0) t1 ((v_X1_save Z T0 T1 T2 T3 T4 T5 T).2.2.1), zB_X3 (g 0) t2 ((v_X1_save Z T0 T1 T2 T3 T4 T5 T).2.2.2.1), zB_X3 (g 0) t3 ((v_X1_save Z T0 T1 T2 T3 T4 T5 T).2.2.2.2.1), zB_X3 (g 0) t4 ((v_X1_save Z T0 T1 T2 T3 T4 T5 T).2.2.2.2.2.1), zB_X3 (g 0) t5 ((v_X1_save Z T0 T1 T2 T3 T4 T5 T).2.2.2.2.2.2), zB_X3 (g 0) h (v_X3_letPass T days)]) := hD
      refine lv_aload_n hx hb dX4_pass_48 rfl (lv_at hl 1 rfl) ?_
      refine va_get (D := D) (ci := 4) (v := .ref (h 0)) (C := RX4) (T := TX4) (N := 4) hx hb hts hinX4 hown hK.1 hP 0 rfl rfl 0 (by decide) (hts (.fieldLink RX4 10 "SaltShares" "town" "LSaltShares$Town;") (List.mem_of_getElem? (i := 4) rfl)) (fun _ h9 => h9) rfl dX4_pass_49 ?_
      refine va_get (D := D) (ci := 3) (v := .int ((v_X3_letPass T days) 2 0)) (C := RX3) (T := TX3) (N := 15) hx hb hts hinX3 hown hK.1 hP 69 rfl rfl 2 (by decide) (hts (.fieldLink RX4 149 "SaltShares$Town" "servings" "I") (List.mem_of_getElem? (i := 5) rfl)) (fun _ h9 => h9) rfl dX4_pass_52 ?_
      refine lv_iload_n hx hb dX4_pass_55 rfl (lv_at hl 0 rfl) ?_
      refine lv_isub hx hb dX4_pass_56 ?_
      exact zretw_i hx hb hr hlocks dX4_pass_57 hP hS (by with_reducible exact congrArg (fun z9 => z9.1) hq) (by with_reducible exact congrArg (fun z9 => zF [zB_X4 f h u o x, zB_X1 (g 1) u t0 t1 t2 t3 t4 t5 z9.2.1, zB_X3 (g 0) t0 z9.2.2.1, zB_X3 (g 0) t1 z9.2.2.2.1, zB_X3 (g 0) t2 z9.2.2.2.2.1, zB_X3 (g 0) t3 z9.2.2.2.2.2.1, zB_X3 (g 0) t4 z9.2.2.2.2.2.2.1, zB_X3 (g 0) t5 z9.2.2.2.2.2.2.2.1, zB_X3 (g 0) h z9.2.2.2.2.2.2.2.2]) hq)
    · have c_2 : ¬ (days ≤ 50) := c_2
      have he := (if_neg c_2).symm.trans he
      cases he
set_option maxHeartbeats 400000 in
set_option maxRecDepth 100000 in
theorem t_X4_pass (l : Launch) (D : va_G) (g : Nat → ClassId) (f : Nat → Nat) (h : Nat → Nat) (u : Nat → Nat) (o : Nat → Nat) (x : Nat → Nat) (t0 : Nat → Nat) (t1 : Nat → Nat) (t2 : Nat → Nat) (t3 : Nat → Nat) (t4 : Nat → Nat) (t5 : Nat → Nat) (Z : Nat → Nat → Int32) (T0 : Nat → Nat → Int32) (T1 : Nat → Nat → Int32) (T2 : Nat → Nat → Int32) (T3 : Nat → Nat → Int32) (T4 : Nat → Nat → Int32) (T5 : Nat → Nat → Int32) (T : Nat → Nat → Int32) (days : Int32) (z0 : vp_in (Z 0 0) 7) (z1 : vp_in (Z 1 0) 6) (hst : l.stackTraces = false) (hp : Nat) (E : String) (he : e_X4_pass Z T0 T1 T2 T3 T4 T5 T days = some E) : Tn l D (zT g) hp yX4_pass wsX4_pass (rmX 6 94) [.ref (f 0), .int days] (zF [zB_X4 f h u o x, zB_X1 (g 1) u t0 t1 t2 t3 t4 t5 Z, zB_X3 (g 0) t0 T0, zB_X3 (g 0) t1 T1, zB_X3 (g 0) t2 T2, zB_X3 (g 0) t3 T3, zB_X3 (g 0) t4 T4, zB_X3 (g 0) t5 T5, zB_X3 (g 0) h T]) E := by
  refine Tn.of (cc := cX4_pass) (maxL := 3) (ret := (some .int)) (by decide) rfl (Nat.le_of_ble_eq_true rfl) ?_
  intro p e s m below meth c ls hx hb hml hown hts hlocks ht hP hD hK hE hl
  have hown : s.vm.findClass RX4 = some m.cls := hown
  unfold e_X4_pass at he
  have hl : lv_has ls 3 [(0, .ref (f 0)), (1, .int days)] := hl
  refine lv_iload_n hx hb dX4_pass_0 rfl (lv_at hl 1 rfl) ?_
  refine lv_iconst (v := 1) hx hb dX4_pass_1 (by decide) ?_
  refine lv_icmp_lt (tgt := 11) hx hb dX4_pass_2 (by decide) (fun c_1 => ?_) (fun c_1 => ?_)
  · have c_1 : days < 1 := c_1
    have he := (if_pos c_1).symm.trans he
    cases he
    exact zthr (text := "days are 1 to 50") hx hb hst hml hl.1 hown hts zfitA (List.mem_of_getElem? (i := 1) rfl) (List.mem_of_getElem? (i := 2) rfl) (fun _ h9 => (List.mem_cons_of_mem _ (List.mem_append_right _ h9))) zbadA zgdA hE (by decide +kernel) (by decide +kernel) rfl ht dX4_pass_11 dX4_pass_14 dX4_pass_15 dX4_pass_17 dX4_pass_20 ⟨Nat.le_of_ble_eq_true rfl, Nat.le_of_ble_eq_true rfl, Nat.le_of_ble_eq_true rfl, Nat.le_of_ble_eq_true rfl⟩ hlocks
  · have c_1 : ¬ (days < 1) := c_1
    have he := (if_neg c_1).symm.trans he
    refine lv_iload_n hx hb dX4_pass_5 rfl (lv_at hl 1 rfl) ?_
    refine lv_bipush (v := 50) hx hb dX4_pass_6 (by decide) ?_
    refine lv_icmp_le (tgt := 21) hx hb dX4_pass_8 (by decide) (fun c_2 => ?_) (fun c_2 => ?_)
    · have c_2 : days ≤ 50 := c_2
      have he := (if_pos c_2).symm.trans he
      cases he
    · have c_2 : ¬ (days ≤ 50) := c_2
      have he := (if_neg c_2).symm.trans he
      cases he
      exact zthr (text := "days are 1 to 50") hx hb hst hml hl.1 hown hts zfitA (List.mem_of_getElem? (i := 1) rfl) (List.mem_of_getElem? (i := 2) rfl) (fun _ h9 => (List.mem_cons_of_mem _ (List.mem_append_right _ h9))) zbadA zgdA hE (by decide +kernel) (by decide +kernel) rfl ht dX4_pass_11 dX4_pass_14 dX4_pass_15 dX4_pass_17 dX4_pass_20 ⟨Nat.le_of_ble_eq_true rfl, Nat.le_of_ble_eq_true rfl, Nat.le_of_ble_eq_true rfl, Nat.le_of_ble_eq_true rfl⟩ hlocks
def e_X4_append (X : Nat → Nat → Int32) (code : Int32) : Option String := (if code < 33 then some zIA else (if code ≤ 126 then (if (v_X0_isFull X) = true then some zIS else none) else some zIA))
def v_X4_append (X : Nat → Nat → Int32) (code : Int32) : Int32 × (Nat → Nat → Int32) := (((v_X0_add X code) 1 0), v_X0_add X code)
set_option maxHeartbeats 400000 in
set_option maxRecDepth 100000 in
theorem c_X4_append (l : Launch) (D : va_G) (g : Nat → ClassId) (f : Nat → Nat) (h : Nat → Nat) (u : Nat → Nat) (o : Nat → Nat) (x : Nat → Nat) (X : Nat → Nat → Int32) (code : Int32) (he : e_X4_append X code = none) : Wr l D (zT g) yX4_append wsX4_append (rmOf 1 21) [.ref (f 0), .int code] ((zB_X4 f h u o x) ++ (zB_X0 (g 0) x X)) (some (.int ((v_X4_append X code).1))) ((zB_X4 f h u o x) ++ (zB_X0 (g 0) x ((v_X4_append X code).2))) := by
  refine Wr.of (cc := cX4_append) (maxL := 2) (ret := (some .int)) (by decide) rfl (Nat.le_of_ble_eq_true rfl) ?_
  intro p e s m below meth c ls hx hb hr hml hown hts hlocks hP hD hS hK hl
  have hown : s.vm.findClass RX4 = some m.cls := hown
  have hinX0 : ∀ w ∈ u_ws RX0 TX0 7, w ∈ wsX4_append := fun _ h9 => (List.mem_cons_of_mem _ (List.mem_append_left _ (List.mem_append_left _ (List.mem_append_right _ h9))))
  have hinX4 : ∀ w ∈ u_ws RX4 TX4 4, w ∈ wsX4_append := fun _ h9 => (List.mem_cons_of_mem _ (List.mem_append_left _ (List.mem_append_left _ (List.mem_append_left _ (List.mem_append_right _ h9)))))
  obtain ⟨q, hq⟩ : ∃ q : Int32 × (Nat → Nat → Int32), q = v_X4_append X code := ⟨_, rfl⟩
  rw [← hq]
  unfold v_X4_append at hq
  unfold e_X4_append at he
  have hl : lv_has ls 2 [(0, .ref (f 0)), (1, .int code)] := hl
  refine lv_iload_n hx hb dX4_append_0 rfl (lv_at hl 1 rfl) ?_
  refine lv_bipush (v := 33) hx hb dX4_append_1 (by decide) ?_
  refine lv_icmp_lt (tgt := 12) hx hb dX4_append_3 (by decide) (fun c_1 => ?_) (fun c_1 => ?_)
  · have c_1 : code < 33 := c_1
    have he := (if_pos c_1).symm.trans he
    cases he
  · have c_1 : ¬ (code < 33) := c_1
    have he := (if_neg c_1).symm.trans he
    refine lv_iload_n hx hb dX4_append_6 rfl (lv_at hl 1 rfl) ?_
    refine lv_bipush (v := 126) hx hb dX4_append_7 (by decide) ?_
    refine lv_icmp_le (tgt := 22) hx hb dX4_append_9 (by decide) (fun c_2 => ?_) (fun c_2 => ?_)
    · have c_2 : code ≤ 126 := c_2
      have he := (if_pos c_2).symm.trans he
      refine lv_aload_n hx hb dX4_append_22 rfl (lv_at hl 0 rfl) ?_
      refine va_get (D := D) (ci := 4) (v := .ref (x 0)) (C := RX4) (T := TX4) (N := 4) hx hb hts hinX4 hown hK.1 hP 0 rfl rfl 3 (by decide) (hts (.fieldLink RX4 33 "SaltShares" "text" "LSaltShares$CommandText;") (List.mem_of_getElem? (i := 5) rfl)) (fun _ h9 => h9) rfl dX4_append_23 ?_
      refine zcV (ci := 0) (n := 0) (c_X0_isFull l D g x X) hx hb hml hown hts gX4_append_X0_isFull rfl ⟨rfl, by decide, by decide, by decide⟩ ⟨Nat.le_of_ble_eq_true rfl, Nat.le_of_ble_eq_true rfl⟩ ⟨rfl, rfl⟩ hK (hP.sub [1, 2] rfl) rfl rfl rfl hl.1 rfl rfl (Nat.le_of_ble_eq_true rfl) ⟨Nat.zero_le _, Nat.zero_le _⟩ dX4_append_26 ?_
      refine zif_eq (tgt := 42) hx hb dX4_append_29 (by decide) (fun c_4 => ?_) (fun c_4 => ?_)
      · have he := (zif_f c_4).symm.trans he
        refine lv_aload_n hx hb dX4_append_42 rfl (lv_at hl 0 rfl) ?_
        refine va_get (D := D) (ci := 4) (v := .ref (x 0)) (C := RX4) (T := TX4) (N := 4) hx hb hts hinX4 hown hK.1 hP 0 rfl rfl 3 (by decide) (hts (.fieldLink RX4 33 "SaltShares" "text" "LSaltShares$CommandText;") (List.mem_of_getElem? (i := 5) rfl)) (fun _ h9 => h9) rfl dX4_append_43 ?_
        refine lv_iload_n hx hb dX4_append_46 rfl (lv_at hl 1 rfl) ?_
        refine zcVw (ci := 0) (n := 1) (c_X0_add l D g x X code) hx hb hml hown hts gX4_append_X0_add rfl ⟨rfl, by decide, by decide, by decide⟩ ⟨Nat.le_of_ble_eq_true rfl, Nat.le_of_ble_eq_true rfl⟩ ⟨rfl, rfl⟩ hK (hP.sub [1, 2] rfl) (hD.sub [1, 2] (by decide) rfl) rfl rfl rfl hS hl.1 rfl rfl (Nat.le_of_ble_eq_true rfl) ⟨Nat.zero_le _, Nat.zero_le _⟩ dX4_append_47 (fun H1 locs hP1 hk1 hS => ?_)
        obtain ⟨hP, hD⟩ := zjoin (wc := zB_X0 (g 0) x X) (wc' := zB_X0 (g 0) x (v_X0_add X code)) hP hD [1, 2] rfl (by simp only [zF, List.flatten_cons, List.flatten_nil, List.append_nil, List.map_append, List.map_cons, List.map_nil, zad_X0, zad_X1, zad_X2, zad_X3, zad_X4, zad_X5]) hk1 hP1
        clear hP1 hk1
        have hP : va_P D vwCl ((zB_X4 f h u o x) ++ (zB_X0 (g 0) x (v_X0_add X code))) H1 := hP
        have hD : va_D (zA ((zB_X4 f h u o x) ++ (zB_X0 (g 0) x X))) ((zB_X4 f h u o x) ++ (zB_X0 (g 0) x (v_X0_add X code))) := hD
        refine lv_aload_n hx hb dX4_append_50 rfl (lv_at hl 0 rfl) ?_
        refine va_get (D := D) (ci := 4) (v := .ref (x 0)) (C := RX4) (T := TX4) (N := 4) hx hb hts hinX4 hown hK.1 hP 0 rfl rfl 3 (by decide) (hts (.fieldLink RX4 33 "SaltShares" "text" "LSaltShares$CommandText;") (List.mem_of_getElem? (i := 5) rfl)) (fun _ h9 => h9) rfl dX4_append_51 ?_
        refine va_get (D := D) (ci := 0) (v := .int ((v_X0_add X code) 1 0)) (C := RX0) (T := TX0) (N := 7) hx hb hts hinX0 hown hK.1 hP 1 rfl rfl 1 (by decide) (hts (.fieldLink RX4 166 "SaltShares$CommandText" "length" "I") (List.mem_of_getElem? (i := 6) rfl)) (fun _ h9 => h9) rfl dX4_append_54 ?_
        exact zretw_i hx hb hr hlocks dX4_append_57 hP hS (by with_reducible exact congrArg (fun z9 => z9.1) hq) (by with_reducible exact congrArg (fun z9 => (zB_X4 f h u o x) ++ (zB_X0 (g 0) x z9.2)) hq)
      · have he := (zif_t c_4).symm.trans he
        cases he
    · have c_2 : ¬ (code ≤ 126) := c_2
      have he := (if_neg c_2).symm.trans he
      cases he
set_option maxHeartbeats 400000 in
set_option maxRecDepth 100000 in
theorem t_X4_append (l : Launch) (D : va_G) (g : Nat → ClassId) (f : Nat → Nat) (h : Nat → Nat) (u : Nat → Nat) (o : Nat → Nat) (x : Nat → Nat) (X : Nat → Nat → Int32) (code : Int32) (hst : l.stackTraces = false) (hp : Nat) (E : String) (he : e_X4_append X code = some E) : Tn l D (zT g) hp yX4_append wsX4_append (rmX 6 82) [.ref (f 0), .int code] ((zB_X4 f h u o x) ++ (zB_X0 (g 0) x X)) E := by
  refine Tn.of (cc := cX4_append) (maxL := 2) (ret := (some .int)) (by decide) rfl (Nat.le_of_ble_eq_true rfl) ?_
  intro p e s m below meth c ls hx hb hml hown hts hlocks ht hP hD hK hE hl
  have hown : s.vm.findClass RX4 = some m.cls := hown
  have hinX4 : ∀ w ∈ u_ws RX4 TX4 4, w ∈ wsX4_append := fun _ h9 => (List.mem_cons_of_mem _ (List.mem_append_left _ (List.mem_append_left _ (List.mem_append_left _ (List.mem_append_right _ h9)))))
  unfold e_X4_append at he
  have hl : lv_has ls 2 [(0, .ref (f 0)), (1, .int code)] := hl
  refine lv_iload_n hx hb dX4_append_0 rfl (lv_at hl 1 rfl) ?_
  refine lv_bipush (v := 33) hx hb dX4_append_1 (by decide) ?_
  refine lv_icmp_lt (tgt := 12) hx hb dX4_append_3 (by decide) (fun c_1 => ?_) (fun c_1 => ?_)
  · have c_1 : code < 33 := c_1
    have he := (if_pos c_1).symm.trans he
    cases he
    exact zthr (text := "a code is 33 to 126") hx hb hst hml hl.1 hown hts zfitA (List.mem_of_getElem? (i := 1) rfl) (List.mem_of_getElem? (i := 2) rfl) (fun _ h9 => (List.mem_cons_of_mem _ (List.mem_append_left _ (List.mem_append_right _ h9)))) zbadA zgdA hE (by decide +kernel) (by decide +kernel) rfl ht dX4_append_12 dX4_append_15 dX4_append_16 dX4_append_18 dX4_append_21 ⟨Nat.le_of_ble_eq_true rfl, Nat.le_of_ble_eq_true rfl, Nat.le_of_ble_eq_true rfl, Nat.le_of_ble_eq_true rfl⟩ hlocks
  · have c_1 : ¬ (code < 33) := c_1
    have he := (if_neg c_1).symm.trans he
    refine lv_iload_n hx hb dX4_append_6 rfl (lv_at hl 1 rfl) ?_
    refine lv_bipush (v := 126) hx hb dX4_append_7 (by decide) ?_
    refine lv_icmp_le (tgt := 22) hx hb dX4_append_9 (by decide) (fun c_2 => ?_) (fun c_2 => ?_)
    · have c_2 : code ≤ 126 := c_2
      have he := (if_pos c_2).symm.trans he
      refine lv_aload_n hx hb dX4_append_22 rfl (lv_at hl 0 rfl) ?_
      refine va_get (D := D) (ci := 4) (v := .ref (x 0)) (C := RX4) (T := TX4) (N := 4) hx hb hts hinX4 hown hK.1 hP 0 rfl rfl 3 (by decide) (hts (.fieldLink RX4 33 "SaltShares" "text" "LSaltShares$CommandText;") (List.mem_of_getElem? (i := 5) rfl)) (fun _ h9 => h9) rfl dX4_append_23 ?_
      refine zcV (ci := 0) (n := 0) (c_X0_isFull l D g x X) hx hb hml hown hts gX4_append_X0_isFull rfl ⟨rfl, by decide, by decide, by decide⟩ ⟨Nat.le_of_ble_eq_true rfl, Nat.le_of_ble_eq_true rfl⟩ ⟨rfl, rfl⟩ hK (hP.sub [1, 2] rfl) rfl rfl rfl hl.1 rfl rfl (Nat.le_of_ble_eq_true rfl) ⟨Nat.zero_le _, Nat.zero_le _⟩ dX4_append_26 ?_
      refine zif_eq (tgt := 42) hx hb dX4_append_29 (by decide) (fun c_4 => ?_) (fun c_4 => ?_)
      · have he := (zif_f c_4).symm.trans he
        cases he
      · have he := (zif_t c_4).symm.trans he
        cases he
        exact zthr (text := "the buffer is full") hx hb hst hml hl.1 hown hts zfitS (List.mem_of_getElem? (i := 3) rfl) (List.mem_of_getElem? (i := 4) rfl) (fun _ h9 => (List.mem_cons_of_mem _ (List.mem_append_right _ h9))) zbadS zgdS hE (by decide +kernel) (by decide +kernel) rfl ht dX4_append_32 dX4_append_35 dX4_append_36 dX4_append_38 dX4_append_41 ⟨Nat.le_of_ble_eq_true rfl, Nat.le_of_ble_eq_true rfl, Nat.le_of_ble_eq_true rfl, Nat.le_of_ble_eq_true rfl⟩ hlocks
    · have c_2 : ¬ (code ≤ 126) := c_2
      have he := (if_neg c_2).symm.trans he
      cases he
      exact zthr (text := "a code is 33 to 126") hx hb hst hml hl.1 hown hts zfitA (List.mem_of_getElem? (i := 1) rfl) (List.mem_of_getElem? (i := 2) rfl) (fun _ h9 => (List.mem_cons_of_mem _ (List.mem_append_left _ (List.mem_append_right _ h9)))) zbadA zgdA hE (by decide +kernel) (by decide +kernel) rfl ht dX4_append_12 dX4_append_15 dX4_append_16 dX4_append_18 dX4_append_21 ⟨Nat.le_of_ble_eq_true rfl, Nat.le_of_ble_eq_true rfl, Nat.le_of_ble_eq_true rfl, Nat.le_of_ble_eq_true rfl⟩ hlocks
def e_X4_undo (Z : Nat → Nat → Int32) (T0 : Nat → Nat → Int32) (T1 : Nat → Nat → Int32) (T2 : Nat → Nat → Int32) (T3 : Nat → Nat → Int32) (T4 : Nat → Nat → Int32) (T5 : Nat → Nat → Int32) (T : Nat → Nat → Int32) : Option String := (if (Z 0 0) = 0 then some zIS else none)
def v_X4_undo (Z : Nat → Nat → Int32) (T0 : Nat → Nat → Int32) (T1 : Nat → Nat → Int32) (T2 : Nat → Nat → Int32) (T3 : Nat → Nat → Int32) (T4 : Nat → Nat → Int32) (T5 : Nat → Nat → Int32) (T : Nat → Nat → Int32) : Int32 × (Nat → Nat → Int32) × (Nat → Nat → Int32) := ((((v_X1_restore Z T0 T1 T2 T3 T4 T5 T).1) 0 0), (v_X1_restore Z T0 T1 T2 T3 T4 T5 T).1, (v_X1_restore Z T0 T1 T2 T3 T4 T5 T).2)
set_option maxHeartbeats 400000 in
set_option maxRecDepth 100000 in
theorem c_X4_undo (l : Launch) (D : va_G) (g : Nat → ClassId) (f : Nat → Nat) (h : Nat → Nat) (u : Nat → Nat) (o : Nat → Nat) (x : Nat → Nat) (t0 : Nat → Nat) (t1 : Nat → Nat) (t2 : Nat → Nat) (t3 : Nat → Nat) (t4 : Nat → Nat) (t5 : Nat → Nat) (Z : Nat → Nat → Int32) (T0 : Nat → Nat → Int32) (T1 : Nat → Nat → Int32) (T2 : Nat → Nat → Int32) (T3 : Nat → Nat → Int32) (T4 : Nat → Nat → Int32) (T5 : Nat → Nat → Int32) (T : Nat → Nat → Int32) (z0 : vp_in (Z 0 0) 7) (z1 : vp_in (Z 1 0) 6) (he : e_X4_undo Z T0 T1 T2 T3 T4 T5 T = none) : Wr l D (zT g) yX4_undo wsX4_undo (rmOf 3 61) [.ref (f 0)] (zF [zB_X4 f h u o x, zB_X1 (g 1) u t0 t1 t2 t3 t4 t5 Z, zB_X3 (g 0) t0 T0, zB_X3 (g 0) t1 T1, zB_X3 (g 0) t2 T2, zB_X3 (g 0) t3 T3, zB_X3 (g 0) t4 T4, zB_X3 (g 0) t5 T5, zB_X3 (g 0) h T]) (some (.int ((v_X4_undo Z T0 T1 T2 T3 T4 T5 T).1))) (zF [zB_X4 f h u o x, zB_X1 (g 1) u t0 t1 t2 t3 t4 t5 ((v_X4_undo Z T0 T1 T2 T3 T4 T5 T).2.1), zB_X3 (g 0) t0 T0, zB_X3 (g 0) t1 T1, zB_X3 (g 0) t2 T2, zB_X3 (g 0) t3 T3, zB_X3 (g 0) t4 T4, zB_X3 (g 0) t5 T5, zB_X3 (g 0) h ((v_X4_undo Z T0 T1 T2 T3 T4 T5 T).2.2)]) := by
  refine Wr.of (cc := cX4_undo) (maxL := 1) (ret := (some .int)) (by decide) rfl (Nat.le_of_ble_eq_true rfl) ?_
  intro p e s m below meth c ls hx hb hr hml hown hts hlocks hP hD hS hK hl
  have hown : s.vm.findClass RX4 = some m.cls := hown
  have hinX1 : ∀ w ∈ u_ws RX1 TX1 3, w ∈ wsX4_undo := fun _ h9 => (List.mem_cons_of_mem _ (List.mem_append_left _ (List.mem_append_left _ (List.mem_append_right _ h9))))
  have hinX4 : ∀ w ∈ u_ws RX4 TX4 4, w ∈ wsX4_undo := fun _ h9 => (List.mem_cons_of_mem _ (List.mem_append_left _ (List.mem_append_left _ (List.mem_append_left _ (List.mem_append_right _ h9)))))
  obtain ⟨q, hq⟩ : ∃ q : Int32 × (Nat → Nat → Int32) × (Nat → Nat → Int32), q = v_X4_undo Z T0 T1 T2 T3 T4 T5 T := ⟨_, rfl⟩
  rw [← hq]
  unfold v_X4_undo at hq
  unfold e_X4_undo at he
  have hl : lv_has ls 1 [(0, .ref (f 0))] := hl
  refine lv_aload_n hx hb dX4_undo_0 rfl (lv_at hl 0 rfl) ?_
  refine va_get (D := D) (ci := 4) (v := .ref (u 0)) (C := RX4) (T := TX4) (N := 4) hx hb hts hinX4 hown hK.1 hP 0 rfl rfl 1 (by decide) (hts (.fieldLink RX4 19 "SaltShares" "history" "LSaltShares$History;") (List.mem_of_getElem? (i := 3) rfl)) (fun _ h9 => h9) rfl dX4_undo_1 ?_
  refine va_get (D := D) (ci := 1) (v := .int (Z 0 0)) (C := RX1) (T := TX1) (N := 3) hx hb hts hinX1 hown hK.1 hP 1 rfl rfl 0 (by decide) (hts (.fieldLink RX4 181 "SaltShares$History" "size" "I") (List.mem_of_getElem? (i := 4) rfl)) (fun _ h9 => h9) rfl dX4_undo_4 ?_
  refine lv_if_ne (tgt := 20) hx hb dX4_undo_7 (by decide) (fun c_1 => ?_) (fun c_1 => ?_)
  · have c_1 : ¬ ((Z 0 0) = 0) := c_1
    have he := (if_neg c_1).symm.trans he
    refine lv_aload_n hx hb dX4_undo_20 rfl (lv_at hl 0 rfl) ?_
    refine va_get (D := D) (ci := 4) (v := .ref (u 0)) (C := RX4) (T := TX4) (N := 4) hx hb hts hinX4 hown hK.1 hP 0 rfl rfl 1 (by decide) (hts (.fieldLink RX4 19 "SaltShares" "history" "LSaltShares$History;") (List.mem_of_getElem? (i := 3) rfl)) (fun _ h9 => h9) rfl dX4_undo_21 ?_
    refine lv_aload_n hx hb dX4_undo_24 rfl (lv_at hl 0 rfl) ?_
    refine va_get (D := D) (ci := 4) (v := .ref (h 0)) (C := RX4) (T := TX4) (N := 4) hx hb hts hinX4 hown hK.1 hP 0 rfl rfl 0 (by decide) (hts (.fieldLink RX4 10 "SaltShares" "town" "LSaltShares$Town;") (List.mem_of_getElem? (i := 5) rfl)) (fun _ h9 => h9) rfl dX4_undo_25 ?_
    refine zcVw (ci := 1) (n := 1) (c_X1_restore l D g u t0 t1 t2 t3 t4 t5 h Z T0 T1 T2 T3 T4 T5 T z0 z1) hx hb hml hown hts gX4_undo_X1_restore rfl ⟨rfl, by decide, by decide, by decide⟩ ⟨Nat.le_of_ble_eq_true rfl, Nat.le_of_ble_eq_true rfl⟩ ⟨rfl, rfl⟩ hK (zsubB (cs := [zB_X1 (g 1) u t0 t1 t2 t3 t4 t5 Z, zB_X3 (g 0) t0 T0, zB_X3 (g 0) t1 T1, zB_X3 (g 0) t2 T2, zB_X3 (g 0) t3 T3, zB_X3 (g 0) t4 T4, zB_X3 (g 0) t5 T5, zB_X3 (g 0) h T]) hP [1, 2, 3, 4, 5, 6, 7, 8] rfl rfl) (zDsubB (cs := [zB_X1 (g 1) u t0 t1 t2 t3 t4 t5 Z, zB_X3 (g 0) t0 T0, zB_X3 (g 0) t1 T1, zB_X3 (g 0) t2 T2, zB_X3 (g 0) t3 T3, zB_X3 (g 0) t4 T4, zB_X3 (g 0) t5 T5, zB_X3 (g 0) h T]) hD [1, 2, 3, 4, 5, 6, 7, 8] (by decide) rfl rfl) rfl rfl rfl hS hl.1 rfl rfl (Nat.le_of_ble_eq_true rfl) ⟨Nat.zero_le _, Nat.zero_le _⟩ dX4_undo_28 (fun H1 locs hP1 hk1 hS => ?_)
    obtain ⟨hP, hD⟩ := zjoinB (cs := [zB_X1 (g 1) u t0 t1 t2 t3 t4 t5 Z, zB_X3 (g 0) t0 T0, zB_X3 (g 0) t1 T1, zB_X3 (g 0) t2 T2, zB_X3 (g 0) t3 T3, zB_X3 (g 0) t4 T4, zB_X3 (g 0) t5 T5, zB_X3 (g 0) h T]) (cs' := [zB_X1 (g 1) u t0 t1 t2 t3 t4 t5 ((v_X1_restore Z T0 T1 T2 T3 T4 T5 T).1), zB_X3 (g 0) t0 T0, zB_X3 (g 0) t1 T1, zB_X3 (g 0) t2 T2, zB_X3 (g 0) t3 T3, zB_X3 (g 0) t4 T4, zB_X3 (g 0) t5 T5, zB_X3 (g 0) h ((v_X1_restore Z T0 T1 T2 T3 T4 T5 T).2)]) hP hD [1, 2, 3, 4, 5, 6, 7, 8] (by decide) rfl (by simp only [zF, List.flatten_cons, List.flatten_nil, List.append_nil, List.map_append, List.map_cons, List.map_nil, zad_X0, zad_X1, zad_X2, zad_X3, zad_X4, zad_X5]) rfl rfl hk1 hP1
    clear hP1 hk1
    have hP : va_P D vwCl (zF [zB_X4 f h u o x, zB_X1 (g 1) u t0 t1 t2 t3 t4 t5 ((v_X1_restore Z T0 T1 T2 T3 T4 T5 T).1), zB_X3 (g 0) t0 T0, zB_X3 (g 0) t1 T1, zB_X3 (g 0) t2 T2, zB_X3 (g 0) t3 T3, zB_X3 (g 0) t4 T4, zB_X3 (g 0) t5 T5, zB_X3 (g 0) h ((v_X1_restore Z T0 T1 T2 T3 T4 T5 T).2)]) H1 := hP
    have hD : va_D (zA (zF [zB_X4 f h u o x, zB_X1 (g 1) u t0 t1 t2 t3 t4 t5 Z, zB_X3 (g 0) t0 T0, zB_X3 (g 0) t1 T1, zB_X3 (g 0) t2 T2, zB_X3 (g 0) t3 T3, zB_X3 (g 0) t4 T4, zB_X3 (g 0) t5 T5, zB_X3 (g 0) h T])) (zF [zB_X4 f h u o x, zB_X1 (g 1) u t0 t1 t2 t3 t4 t5 ((v_X1_restore Z T0 T1 T2 T3 T4 T5 T).1), zB_X3 (g 0) t0 T0, zB_X3 (g 0) t1 T1, zB_X3 (g 0) t2 T2, zB_X3 (g 0) t3 T3, zB_X3 (g 0) t4 T4, zB_X3 (g 0) t5 T5, zB_X3 (g 0) h ((v_X1_restore Z T0 T1 T2 T3 T4 T5 T).2)]) := hD
    refine lv_aload_n hx hb dX4_undo_31 rfl (lv_at hl 0 rfl) ?_
    refine va_get (D := D) (ci := 4) (v := .ref (u 0)) (C := RX4) (T := TX4) (N := 4) hx hb hts hinX4 hown hK.1 hP 0 rfl rfl 1 (by decide) (hts (.fieldLink RX4 19 "SaltShares" "history" "LSaltShares$History;") (List.mem_of_getElem? (i := 3) rfl)) (fun _ h9 => h9) rfl dX4_undo_32 ?_
    refine va_get (D := D) (ci := 1) (v := .int (((v_X1_restore Z T0 T1 T2 T3 T4 T5 T).1) 0 0)) (C := RX1) (T := TX1) (N := 3) hx hb hts hinX1 hown hK.1 hP 1 rfl rfl 0 (by decide) (hts (.fieldLink RX4 181 "SaltShares$History" "size" "I") (List.mem_of_getElem? (i := 4) rfl)) (fun _ h9 => h9) rfl dX4_undo_35 ?_
    exact zretw_i hx hb hr hlocks dX4_undo_38 hP hS (by with_reducible exact congrArg (fun z9 => z9.1) hq) (by with_reducible exact congrArg (fun z9 => zF [zB_X4 f h u o x, zB_X1 (g 1) u t0 t1 t2 t3 t4 t5 z9.2.1, zB_X3 (g 0) t0 T0, zB_X3 (g 0) t1 T1, zB_X3 (g 0) t2 T2, zB_X3 (g 0) t3 T3, zB_X3 (g 0) t4 T4, zB_X3 (g 0) t5 T5, zB_X3 (g 0) h z9.2.2]) hq)
  · have c_1 : (Z 0 0) = 0 := c_1
    have he := (if_pos c_1).symm.trans he
    cases he
set_option maxHeartbeats 400000 in
set_option maxRecDepth 100000 in
theorem t_X4_undo (l : Launch) (D : va_G) (g : Nat → ClassId) (f : Nat → Nat) (h : Nat → Nat) (u : Nat → Nat) (o : Nat → Nat) (x : Nat → Nat) (t0 : Nat → Nat) (t1 : Nat → Nat) (t2 : Nat → Nat) (t3 : Nat → Nat) (t4 : Nat → Nat) (t5 : Nat → Nat) (Z : Nat → Nat → Int32) (T0 : Nat → Nat → Int32) (T1 : Nat → Nat → Int32) (T2 : Nat → Nat → Int32) (T3 : Nat → Nat → Int32) (T4 : Nat → Nat → Int32) (T5 : Nat → Nat → Int32) (T : Nat → Nat → Int32) (z0 : vp_in (Z 0 0) 7) (z1 : vp_in (Z 1 0) 6) (hst : l.stackTraces = false) (hp : Nat) (E : String) (he : e_X4_undo Z T0 T1 T2 T3 T4 T5 T = some E) : Tn l D (zT g) hp yX4_undo wsX4_undo (rmX 6 82) [.ref (f 0)] (zF [zB_X4 f h u o x, zB_X1 (g 1) u t0 t1 t2 t3 t4 t5 Z, zB_X3 (g 0) t0 T0, zB_X3 (g 0) t1 T1, zB_X3 (g 0) t2 T2, zB_X3 (g 0) t3 T3, zB_X3 (g 0) t4 T4, zB_X3 (g 0) t5 T5, zB_X3 (g 0) h T]) E := by
  refine Tn.of (cc := cX4_undo) (maxL := 1) (ret := (some .int)) (by decide) rfl (Nat.le_of_ble_eq_true rfl) ?_
  intro p e s m below meth c ls hx hb hml hown hts hlocks ht hP hD hK hE hl
  have hown : s.vm.findClass RX4 = some m.cls := hown
  have hinX1 : ∀ w ∈ u_ws RX1 TX1 3, w ∈ wsX4_undo := fun _ h9 => (List.mem_cons_of_mem _ (List.mem_append_left _ (List.mem_append_left _ (List.mem_append_right _ h9))))
  have hinX4 : ∀ w ∈ u_ws RX4 TX4 4, w ∈ wsX4_undo := fun _ h9 => (List.mem_cons_of_mem _ (List.mem_append_left _ (List.mem_append_left _ (List.mem_append_left _ (List.mem_append_right _ h9)))))
  unfold e_X4_undo at he
  have hl : lv_has ls 1 [(0, .ref (f 0))] := hl
  refine lv_aload_n hx hb dX4_undo_0 rfl (lv_at hl 0 rfl) ?_
  refine va_get (D := D) (ci := 4) (v := .ref (u 0)) (C := RX4) (T := TX4) (N := 4) hx hb hts hinX4 hown hK.1 hP 0 rfl rfl 1 (by decide) (hts (.fieldLink RX4 19 "SaltShares" "history" "LSaltShares$History;") (List.mem_of_getElem? (i := 3) rfl)) (fun _ h9 => h9) rfl dX4_undo_1 ?_
  refine va_get (D := D) (ci := 1) (v := .int (Z 0 0)) (C := RX1) (T := TX1) (N := 3) hx hb hts hinX1 hown hK.1 hP 1 rfl rfl 0 (by decide) (hts (.fieldLink RX4 181 "SaltShares$History" "size" "I") (List.mem_of_getElem? (i := 4) rfl)) (fun _ h9 => h9) rfl dX4_undo_4 ?_
  refine lv_if_ne (tgt := 20) hx hb dX4_undo_7 (by decide) (fun c_1 => ?_) (fun c_1 => ?_)
  · have c_1 : ¬ ((Z 0 0) = 0) := c_1
    have he := (if_neg c_1).symm.trans he
    cases he
  · have c_1 : (Z 0 0) = 0 := c_1
    have he := (if_pos c_1).symm.trans he
    cases he
    exact zthr (text := "no state is saved") hx hb hst hml hl.1 hown hts zfitS (List.mem_of_getElem? (i := 1) rfl) (List.mem_of_getElem? (i := 2) rfl) (fun _ h9 => (List.mem_cons_of_mem _ (List.mem_append_right _ h9))) zbadS zgdS hE (by decide +kernel) (by decide +kernel) rfl ht dX4_undo_10 dX4_undo_13 dX4_undo_14 dX4_undo_16 dX4_undo_19 ⟨Nat.le_of_ble_eq_true rfl, Nat.le_of_ble_eq_true rfl, Nat.le_of_ble_eq_true rfl, Nat.le_of_ble_eq_true rfl⟩ hlocks
