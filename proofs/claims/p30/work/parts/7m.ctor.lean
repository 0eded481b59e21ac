theorem zgs0 : ∀ j, j < 3 → upd (upd (upd (fun _ => (0 : Int32)) 0 11) 1 22) 2 33 j = zT0 9 j := by decide
set_option maxHeartbeats 400000 in
set_option maxRecDepth 100000 in
theorem c_X0_init (l : Launch) (D : va_G) (g : Nat → ClassId) (b sz : Nat) : Ct l D (zT g) yX0_init wsX0_init ({ frames := 1, cells := 1, slots := 60, locals := 12 }) b sz (.inr (0, [.null, .int 0, .int 0, .int 0, .int 0, .int 0, .int 0])) (fun hh => zB_X0 (g 0) (hh 0) zO0) 1 60 := by
  refine Ct.of (cc := cX0_init) (maxL := 1) (by decide) rfl rfl (Nat.le_of_ble_eq_true rfl) ?_
  intro p e s m below meth c ls hx hb hr hml hown hts hlocks hin2 hP hD hS hA hK hAO hsz hl
  have hown : s.vm.findClass RX0 = some m.cls := hown
  have hinX0 : ∀ w ∈ u_ws RX0 TX0 7, w ∈ wsX0_init := fun _ h9 => (List.mem_cons_of_mem _ (List.mem_append_right _ h9))
  have hl : lv_has ls 1 [(0, .ref b)] := hl
  refine lv_aload_n hx hb dX0_init_0 rfl (lv_at hl 0 rfl) ?_
  refine W.objInit hx hb hown (hts (.methodLink RX0 3 objectInit) (List.mem_of_getElem? (i := 1) rfl)) (hts (.instanceMethod objectInit) (List.mem_of_getElem? (i := 2) rfl)) (hts _ (List.mem_of_getElem? (i := 3) rfl)) rfl (by rw [hml]; exact hl.1) rfl dX0_init_1 (Nat.le_of_ble_eq_true rfl) (Nat.le_of_ble_eq_true rfl) ?_
  refine W.eq (g2 := F0 m 4 ls []) rfl ?_
  refine lv_aload_n hx hb dX0_init_4 rfl (lv_at hl 0 rfl) ?_
  refine lv_bipush (v := 60) hx hb dX0_init_5 (by decide) ?_
  refine z_newa (N := 60) hx hb (hts (.arrayClass .int) (List.mem_of_getElem? (i := 4) rfl)) hK hP hD hS hA 0 rfl rfl (Nat.le_of_ble_eq_true rfl) (Nat.le_of_ble_eq_true rfl) (Nat.le_of_ble_eq_true rfl) dX0_init_7 (fun q1 H hP hD hS => ?_)
  have hP : va_P D vwCl ([(b, .inr (0, [.null, .int 0, .int 0, .int 0, .int 0, .int 0, .int 0])), (q1, .inl (g 0, 60, .inl (fun _ => 0)))]) H := hP
  have hD : va_D (zAc b sz) ([(b, .inr (0, [.null, .int 0, .int 0, .int 0, .int 0, .int 0, .int 0])), (q1, .inl (g 0, 60, .inl (fun _ => 0)))]) := hD
  refine va_putF (D := D) (ci := 0) (v := .ref q1) (ty := tyX0 0) (C := RX0) (T := TX0) (N := 7) hx hb hts hinX0 tyX0 tyX0_ok nmX0 hown hK.1 hP hD hS 0 rfl rfl 0 (by decide) (hts (.fieldLink RX0 9 "SaltShares$CommandText" "codes" "[I") (List.mem_of_getElem? (i := 5) rfl)) (fun _ h9 => h9) rfl hin2 rfl (tyX0_ok 0 (by decide)) rfl rfl (Nat.le_of_ble_eq_true rfl) dX0_init_9 (fun H locs hP hD hS => ?_)
  have hP : va_P D vwCl ([(b, .inr (0, [.ref q1, .int 0, .int 0, .int 0, .int 0, .int 0, .int 0])), (q1, .inl (g 0, 60, .inl (fun _ => 0)))]) H := hP
  have hD : va_D (zAc b sz) ([(b, .inr (0, [.ref q1, .int 0, .int 0, .int 0, .int 0, .int 0, .int 0])), (q1, .inl (g 0, 60, .inl (fun _ => 0)))]) := hD
  exact zretC (fun k => if k = 0 then zh [b, q1, 0, 0, 0, 0, 0, 0] else fun _ => 0) hx hb hr hlocks dX0_init_12 rfl hP hD hS hsz
set_option maxHeartbeats 400000 in
set_option maxRecDepth 100000 in
theorem c_X2_init (l : Launch) (D : va_G) (g : Nat → ClassId) (b sz : Nat) : Ct l D (zT g) yX2_init wsX2_init ({ frames := 1, cells := 3, slots := 300, locals := 12 }) b sz (.inr (2, [.null, .int 0, .int 0, .null, .null])) (fun hh => zB_X2 (g 0) (hh 0) zO0) 3 300 := by
  refine Ct.of (cc := cX2_init) (maxL := 1) (by decide) rfl rfl (Nat.le_of_ble_eq_true rfl) ?_
  intro p e s m below meth c ls hx hb hr hml hown hts hlocks hin2 hP hD hS hA hK hAO hsz hl
  have hown : s.vm.findClass RX2 = some m.cls := hown
  have hinX2 : ∀ w ∈ u_ws RX2 TX2 5, w ∈ wsX2_init := fun _ h9 => (List.mem_cons_of_mem _ (List.mem_append_right _ h9))
  have hl : lv_has ls 1 [(0, .ref b)] := hl
  refine lv_aload_n hx hb dX2_init_0 rfl (lv_at hl 0 rfl) ?_
  refine W.objInit hx hb hown (hts (.methodLink RX2 3 objectInit) (List.mem_of_getElem? (i := 1) rfl)) (hts (.instanceMethod objectInit) (List.mem_of_getElem? (i := 2) rfl)) (hts _ (List.mem_of_getElem? (i := 3) rfl)) rfl (by rw [hml]; exact hl.1) rfl dX2_init_1 (Nat.le_of_ble_eq_true rfl) (Nat.le_of_ble_eq_true rfl) ?_
  refine W.eq (g2 := F0 m 4 ls []) rfl ?_
  refine lv_aload_n hx hb dX2_init_4 rfl (lv_at hl 0 rfl) ?_
  refine lv_bipush (v := 100) hx hb dX2_init_5 (by decide) ?_
  refine z_newa (N := 100) hx hb (hts (.arrayClass .int) (List.mem_of_getElem? (i := 4) rfl)) hK hP hD hS hA 0 rfl rfl (Nat.le_of_ble_eq_true rfl) (Nat.le_of_ble_eq_true rfl) (Nat.le_of_ble_eq_true rfl) dX2_init_7 (fun q1 H hP hD hS => ?_)
  have hP : va_P D vwCl ([(b, .inr (2, [.null, .int 0, .int 0, .null, .null])), (q1, .inl (g 0, 100, .inl (fun _ => 0)))]) H := hP
  have hD : va_D (zAc b sz) ([(b, .inr (2, [.null, .int 0, .int 0, .null, .null])), (q1, .inl (g 0, 100, .inl (fun _ => 0)))]) := hD
  refine va_putF (D := D) (ci := 2) (v := .ref q1) (ty := tyX2 0) (C := RX2) (T := TX2) (N := 5) hx hb hts hinX2 tyX2 tyX2_ok nmX2 hown hK.1 hP hD hS 0 rfl rfl 0 (by decide) (hts (.fieldLink RX2 9 "SaltShares$Outlook" "row" "[I") (List.mem_of_getElem? (i := 5) rfl)) (fun _ h9 => h9) rfl hin2 rfl (tyX2_ok 0 (by decide)) rfl rfl (Nat.le_of_ble_eq_true rfl) dX2_init_9 (fun H locs hP hD hS => ?_)
  have hP : va_P D vwCl ([(b, .inr (2, [.ref q1, .int 0, .int 0, .null, .null])), (q1, .inl (g 0, 100, .inl (fun _ => 0)))]) H := hP
  have hD : va_D (zAc b sz) ([(b, .inr (2, [.ref q1, .int 0, .int 0, .null, .null])), (q1, .inl (g 0, 100, .inl (fun _ => 0)))]) := hD
  refine lv_aload_n hx hb dX2_init_12 rfl (lv_at hl 0 rfl) ?_
  refine lv_bipush (v := 100) hx hb dX2_init_13 (by decide) ?_
  refine z_newa (N := 100) hx hb (hts (.arrayClass .int) (List.mem_of_getElem? (i := 4) rfl)) hK hP hD hS hA 0 rfl rfl (Nat.le_of_ble_eq_true rfl) (Nat.le_of_ble_eq_true rfl) (Nat.le_of_ble_eq_true rfl) dX2_init_15 (fun q2 H hP hD hS => ?_)
  have hP : va_P D vwCl ([(b, .inr (2, [.ref q1, .int 0, .int 0, .null, .null])), (q1, .inl (g 0, 100, .inl (fun _ => 0))), (q2, .inl (g 0, 100, .inl (fun _ => 0)))]) H := hP
  have hD : va_D (zAc b sz) ([(b, .inr (2, [.ref q1, .int 0, .int 0, .null, .null])), (q1, .inl (g 0, 100, .inl (fun _ => 0))), (q2, .inl (g 0, 100, .inl (fun _ => 0)))]) := hD
  refine va_putF (D := D) (ci := 2) (v := .ref q2) (ty := tyX2 3) (C := RX2) (T := TX2) (N := 5) hx hb hts hinX2 tyX2 tyX2_ok nmX2 hown hK.1 hP hD hS 0 rfl rfl 3 (by decide) (hts (.fieldLink RX2 15 "SaltShares$Outlook" "newcomers" "[I") (List.mem_of_getElem? (i := 6) rfl)) (fun _ h9 => h9) rfl hin2 rfl (tyX2_ok 3 (by decide)) rfl rfl (Nat.le_of_ble_eq_true rfl) dX2_init_17 (fun H locs hP hD hS => ?_)
  have hP : va_P D vwCl ([(b, .inr (2, [.ref q1, .int 0, .int 0, .ref q2, .null])), (q1, .inl (g 0, 100, .inl (fun _ => 0))), (q2, .inl (g 0, 100, .inl (fun _ => 0)))]) H := hP
  have hD : va_D (zAc b sz) ([(b, .inr (2, [.ref q1, .int 0, .int 0, .ref q2, .null])), (q1, .inl (g 0, 100, .inl (fun _ => 0))), (q2, .inl (g 0, 100, .inl (fun _ => 0)))]) := hD
  refine lv_aload_n hx hb dX2_init_20 rfl (lv_at hl 0 rfl) ?_
  refine lv_bipush (v := 100) hx hb dX2_init_21 (by decide) ?_
  refine z_newa (N := 100) hx hb (hts (.arrayClass .int) (List.mem_of_getElem? (i := 4) rfl)) hK hP hD hS hA 0 rfl rfl (Nat.le_of_ble_eq_true rfl) (Nat.le_of_ble_eq_true rfl) (Nat.le_of_ble_eq_true rfl) dX2_init_23 (fun q3 H hP hD hS => ?_)
  have hP : va_P D vwCl ([(b, .inr (2, [.ref q1, .int 0, .int 0, .ref q2, .null])), (q1, .inl (g 0, 100, .inl (fun _ => 0))), (q2, .inl (g 0, 100, .inl (fun _ => 0))), (q3, .inl (g 0, 100, .inl (fun _ => 0)))]) H := hP
  have hD : va_D (zAc b sz) ([(b, .inr (2, [.ref q1, .int 0, .int 0, .ref q2, .null])), (q1, .inl (g 0, 100, .inl (fun _ => 0))), (q2, .inl (g 0, 100, .inl (fun _ => 0))), (q3, .inl (g 0, 100, .inl (fun _ => 0)))]) := hD
  refine va_putF (D := D) (ci := 2) (v := .ref q3) (ty := tyX2 4) (C := RX2) (T := TX2) (N := 5) hx hb hts hinX2 tyX2 tyX2_ok nmX2 hown hK.1 hP hD hS 0 rfl rfl 4 (by decide) (hts (.fieldLink RX2 18 "SaltShares$Outlook" "first" "[I") (List.mem_of_getElem? (i := 7) rfl)) (fun _ h9 => h9) rfl hin2 rfl (tyX2_ok 4 (by decide)) rfl rfl (Nat.le_of_ble_eq_true rfl) dX2_init_25 (fun H locs hP hD hS => ?_)
  have hP : va_P D vwCl ([(b, .inr (2, [.ref q1, .int 0, .int 0, .ref q2, .ref q3])), (q1, .inl (g 0, 100, .inl (fun _ => 0))), (q2, .inl (g 0, 100, .inl (fun _ => 0))), (q3, .inl (g 0, 100, .inl (fun _ => 0)))]) H := hP
  have hD : va_D (zAc b sz) ([(b, .inr (2, [.ref q1, .int 0, .int 0, .ref q2, .ref q3])), (q1, .inl (g 0, 100, .inl (fun _ => 0))), (q2, .inl (g 0, 100, .inl (fun _ => 0))), (q3, .inl (g 0, 100, .inl (fun _ => 0)))]) := hD
  exact zretC (fun k => if k = 0 then zh [b, q1, 0, 0, q2, q3] else fun _ => 0) hx hb hr hlocks dX2_init_28 rfl hP hD hS hsz
set_option maxHeartbeats 400000 in
set_option maxRecDepth 100000 in
theorem c_X3_init (l : Launch) (D : va_G) (g : Nat → ClassId) (b sz : Nat) : Ct l D (zT g) yX3_init wsX3_init ({ frames := 1, cells := 10, slots := 935, locals := 12 }) b sz (.inr (3, [.int 0, .int 0, .int 0, .int 0, .int 0, .null, .null, .null, .null, .null, .null, .null, .null, .null, .null])) (fun hh => zB_X3 (g 0) (hh 0) zT0) 10 935 := by
  refine Ct.of (cc := cX3_init) (maxL := 2) (by decide) rfl rfl (Nat.le_of_ble_eq_true rfl) ?_
  intro p e s m below meth c ls hx hb hr hml hown hts hlocks hin2 hP hD hS hA hK hAO hsz hl
  have hown : s.vm.findClass RX3 = some m.cls := hown
  have hinX3 : ∀ w ∈ u_ws RX3 TX3 15, w ∈ wsX3_init := fun _ h9 => (List.mem_cons_of_mem _ (List.mem_append_right _ h9))
  have hl : lv_has ls 2 [(0, .ref b)] := hl
  refine lv_aload_n hx hb dX3_init_0 rfl (lv_at hl 0 rfl) ?_
  refine W.objInit hx hb hown (hts (.methodLink RX3 3 objectInit) (List.mem_of_getElem? (i := 1) rfl)) (hts (.instanceMethod objectInit) (List.mem_of_getElem? (i := 2) rfl)) (hts _ (List.mem_of_getElem? (i := 3) rfl)) rfl (by rw [hml]; exact hl.1) rfl dX3_init_1 (Nat.le_of_ble_eq_true rfl) (Nat.le_of_ble_eq_true rfl) ?_
  refine W.eq (g2 := F0 m 4 ls []) rfl ?_
  refine lv_aload_n hx hb dX3_init_4 rfl (lv_at hl 0 rfl) ?_
  refine lv_bipush (v := 8) hx hb dX3_init_5 (by decide) ?_
  refine z_newa (N := 8) hx hb (hts (.arrayClass .int) (List.mem_of_getElem? (i := 4) rfl)) hK hP hD hS hA 0 rfl rfl (Nat.le_of_ble_eq_true rfl) (Nat.le_of_ble_eq_true rfl) (Nat.le_of_ble_eq_true rfl) dX3_init_7 (fun q1 H hP hD hS => ?_)
  have hP : va_P D vwCl ([(b, .inr (3, [.int 0, .int 0, .int 0, .int 0, .int 0, .null, .null, .null, .null, .null, .null, .null, .null, .null, .null])), (q1, .inl (g 0, 8, .inl (fun _ => 0)))]) H := hP
  have hD : va_D (zAc b sz) ([(b, .inr (3, [.int 0, .int 0, .int 0, .int 0, .int 0, .null, .null, .null, .null, .null, .null, .null, .null, .null, .null])), (q1, .inl (g 0, 8, .inl (fun _ => 0)))]) := hD
  refine va_putF (D := D) (ci := 3) (v := .ref q1) (ty := tyX3 5) (C := RX3) (T := TX3) (N := 15) hx hb hts hinX3 tyX3 tyX3_ok nmX3 hown hK.1 hP hD hS 0 rfl rfl 5 (by decide) (hts (.fieldLink RX3 9 "SaltShares$Town" "groupOf" "[I") (List.mem_of_getElem? (i := 5) rfl)) (fun _ h9 => h9) rfl hin2 rfl (tyX3_ok 5 (by decide)) rfl rfl (Nat.le_of_ble_eq_true rfl) dX3_init_9 (fun H locs hP hD hS => ?_)
  have hP : va_P D vwCl ([(b, .inr (3, [.int 0, .int 0, .int 0, .int 0, .int 0, .ref q1, .null, .null, .null, .null, .null, .null, .null, .null, .null])), (q1, .inl (g 0, 8, .inl (fun _ => 0)))]) H := hP
  have hD : va_D (zAc b sz) ([(b, .inr (3, [.int 0, .int 0, .int 0, .int 0, .int 0, .ref q1, .null, .null, .null, .null, .null, .null, .null, .null, .null])), (q1, .inl (g 0, 8, .inl (fun _ => 0)))]) := hD
  refine lv_aload_n hx hb dX3_init_12 rfl (lv_at hl 0 rfl) ?_
  refine lv_bipush (v := 8) hx hb dX3_init_13 (by decide) ?_
  refine z_newa (N := 8) hx hb (hts (.arrayClass .int) (List.mem_of_getElem? (i := 4) rfl)) hK hP hD hS hA 0 rfl rfl (Nat.le_of_ble_eq_true rfl) (Nat.le_of_ble_eq_true rfl) (Nat.le_of_ble_eq_true rfl) dX3_init_15 (fun q2 H hP hD hS => ?_)
  have hP : va_P D vwCl ([(b, .inr (3, [.int 0, .int 0, .int 0, .int 0, .int 0, .ref q1, .null, .null, .null, .null, .null, .null, .null, .null, .null])), (q1, .inl (g 0, 8, .inl (fun _ => 0))), (q2, .inl (g 0, 8, .inl (fun _ => 0)))]) H := hP
  have hD : va_D (zAc b sz) ([(b, .inr (3, [.int 0, .int 0, .int 0, .int 0, .int 0, .ref q1, .null, .null, .null, .null, .null, .null, .null, .null, .null])), (q1, .inl (g 0, 8, .inl (fun _ => 0))), (q2, .inl (g 0, 8, .inl (fun _ => 0)))]) := hD
  refine va_putF (D := D) (ci := 3) (v := .ref q2) (ty := tyX3 6) (C := RX3) (T := TX3) (N := 15) hx hb hts hinX3 tyX3 tyX3_ok nmX3 hown hK.1 hP hD hS 0 rfl rfl 6 (by decide) (hts (.fieldLink RX3 15 "SaltShares$Town" "salt" "[I") (List.mem_of_getElem? (i := 6) rfl)) (fun _ h9 => h9) rfl hin2 rfl (tyX3_ok 6 (by decide)) rfl rfl (Nat.le_of_ble_eq_true rfl) dX3_init_17 (fun H locs hP hD hS => ?_)
  have hP : va_P D vwCl ([(b, .inr (3, [.int 0, .int 0, .int 0, .int 0, .int 0, .ref q1, .ref q2, .null, .null, .null, .null, .null, .null, .null, .null])), (q1, .inl (g 0, 8, .inl (fun _ => 0))), (q2, .inl (g 0, 8, .inl (fun _ => 0)))]) H := hP
  have hD : va_D (zAc b sz) ([(b, .inr (3, [.int 0, .int 0, .int 0, .int 0, .int 0, .ref q1, .ref q2, .null, .null, .null, .null, .null, .null, .null, .null])), (q1, .inl (g 0, 8, .inl (fun _ => 0))), (q2, .inl (g 0, 8, .inl (fun _ => 0)))]) := hD
  refine lv_aload_n hx hb dX3_init_20 rfl (lv_at hl 0 rfl) ?_
  refine lv_bipush (v := 8) hx hb dX3_init_21 (by decide) ?_
  refine z_newa (N := 8) hx hb (hts (.arrayClass .int) (List.mem_of_getElem? (i := 4) rfl)) hK hP hD hS hA 0 rfl rfl (Nat.le_of_ble_eq_true rfl) (Nat.le_of_ble_eq_true rfl) (Nat.le_of_ble_eq_true rfl) dX3_init_23 (fun q3 H hP hD hS => ?_)
  have hP : va_P D vwCl ([(b, .inr (3, [.int 0, .int 0, .int 0, .int 0, .int 0, .ref q1, .ref q2, .null, .null, .null, .null, .null, .null, .null, .null])), (q1, .inl (g 0, 8, .inl (fun _ => 0))), (q2, .inl (g 0, 8, .inl (fun _ => 0))), (q3, .inl (g 0, 8, .inl (fun _ => 0)))]) H := hP
  have hD : va_D (zAc b sz) ([(b, .inr (3, [.int 0, .int 0, .int 0, .int 0, .int 0, .ref q1, .ref q2, .null, .null, .null, .null, .null, .null, .null, .null])), (q1, .inl (g 0, 8, .inl (fun _ => 0))), (q2, .inl (g 0, 8, .inl (fun _ => 0))), (q3, .inl (g 0, 8, .inl (fun _ => 0)))]) := hD
  refine va_putF (D := D) (ci := 3) (v := .ref q3) (ty := tyX3 7) (C := RX3) (T := TX3) (N := 15) hx hb hts hinX3 tyX3 tyX3_ok nmX3 hown hK.1 hP hD hS 0 rfl rfl 7 (by decide) (hts (.fieldLink RX3 18 "SaltShares$Town" "share" "[I") (List.mem_of_getElem? (i := 7) rfl)) (fun _ h9 => h9) rfl hin2 rfl (tyX3_ok 7 (by decide)) rfl rfl (Nat.le_of_ble_eq_true rfl) dX3_init_25 (fun H locs hP hD hS => ?_)
  have hP : va_P D vwCl ([(b, .inr (3, [.int 0, .int 0, .int 0, .int 0, .int 0, .ref q1, .ref q2, .ref q3, .null, .null, .null, .null, .null, .null, .null])), (q1, .inl (g 0, 8, .inl (fun _ => 0))), (q2, .inl (g 0, 8, .inl (fun _ => 0))), (q3, .inl (g 0, 8, .inl (fun _ => 0)))]) H := hP
  have hD : va_D (zAc b sz) ([(b, .inr (3, [.int 0, .int 0, .int 0, .int 0, .int 0, .ref q1, .ref q2, .ref q3, .null, .null, .null, .null, .null, .null, .null])), (q1, .inl (g 0, 8, .inl (fun _ => 0))), (q2, .inl (g 0, 8, .inl (fun _ => 0))), (q3, .inl (g 0, 8, .inl (fun _ => 0)))]) := hD
  refine lv_aload_n hx hb dX3_init_28 rfl (lv_at hl 0 rfl) ?_
  refine lv_bipush (v := 8) hx hb dX3_init_29 (by decide) ?_
  refine z_newa (N := 8) hx hb (hts (.arrayClass .int) (List.mem_of_getElem? (i := 4) rfl)) hK hP hD hS hA 0 rfl rfl (Nat.le_of_ble_eq_true rfl) (Nat.le_of_ble_eq_true rfl) (Nat.le_of_ble_eq_true rfl) dX3_init_31 (fun q4 H hP hD hS => ?_)
  have hP : va_P D vwCl ([(b, .inr (3, [.int 0, .int 0, .int 0, .int 0, .int 0, .ref q1, .ref q2, .ref q3, .null, .null, .null, .null, .null, .null, .null])), (q1, .inl (g 0, 8, .inl (fun _ => 0))), (q2, .inl (g 0, 8, .inl (fun _ => 0))), (q3, .inl (g 0, 8, .inl (fun _ => 0))), (q4, .inl (g 0, 8, .inl (fun _ => 0)))]) H := hP
  have hD : va_D (zAc b sz) ([(b, .inr (3, [.int 0, .int 0, .int 0, .int 0, .int 0, .ref q1, .ref q2, .ref q3, .null, .null, .null, .null, .null, .null, .null])), (q1, .inl (g 0, 8, .inl (fun _ => 0))), (q2, .inl (g 0, 8, .inl (fun _ => 0))), (q3, .inl (g 0, 8, .inl (fun _ => 0))), (q4, .inl (g 0, 8, .inl (fun _ => 0)))]) := hD
  refine va_putF (D := D) (ci := 3) (v := .ref q4) (ty := tyX3 8) (C := RX3) (T := TX3) (N := 15) hx hb hts hinX3 tyX3 tyX3_ok nmX3 hown hK.1 hP hD hS 0 rfl rfl 8 (by decide) (hts (.fieldLink RX3 21 "SaltShares$Town" "servingsOf" "[I") (List.mem_of_getElem? (i := 8) rfl)) (fun _ h9 => h9) rfl hin2 rfl (tyX3_ok 8 (by decide)) rfl rfl (Nat.le_of_ble_eq_true rfl) dX3_init_33 (fun H locs hP hD hS => ?_)
  have hP : va_P D vwCl ([(b, .inr (3, [.int 0, .int 0, .int 0, .int 0, .int 0, .ref q1, .ref q2, .ref q3, .ref q4, .null, .null, .null, .null, .null, .null])), (q1, .inl (g 0, 8, .inl (fun _ => 0))), (q2, .inl (g 0, 8, .inl (fun _ => 0))), (q3, .inl (g 0, 8, .inl (fun _ => 0))), (q4, .inl (g 0, 8, .inl (fun _ => 0)))]) H := hP
  have hD : va_D (zAc b sz) ([(b, .inr (3, [.int 0, .int 0, .int 0, .int 0, .int 0, .ref q1, .ref q2, .ref q3, .ref q4, .null, .null, .null, .null, .null, .null])), (q1, .inl (g 0, 8, .inl (fun _ => 0))), (q2, .inl (g 0, 8, .inl (fun _ => 0))), (q3, .inl (g 0, 8, .inl (fun _ => 0))), (q4, .inl (g 0, 8, .inl (fun _ => 0)))]) := hD
  refine lv_aload_n hx hb dX3_init_36 rfl (lv_at hl 0 rfl) ?_
  refine lv_iconst (v := 3) hx hb dX3_init_37 (by decide) ?_
  refine z_newa (N := 3) hx hb (hts (.arrayClass .int) (List.mem_of_getElem? (i := 4) rfl)) hK hP hD hS hA 0 rfl rfl (Nat.le_of_ble_eq_true rfl) (Nat.le_of_ble_eq_true rfl) (Nat.le_of_ble_eq_true rfl) dX3_init_38 (fun q5 H hP hD hS => ?_)
  have hP : va_P D vwCl ([(b, .inr (3, [.int 0, .int 0, .int 0, .int 0, .int 0, .ref q1, .ref q2, .ref q3, .ref q4, .null, .null, .null, .null, .null, .null])), (q1, .inl (g 0, 8, .inl (fun _ => 0))), (q2, .inl (g 0, 8, .inl (fun _ => 0))), (q3, .inl (g 0, 8, .inl (fun _ => 0))), (q4, .inl (g 0, 8, .inl (fun _ => 0))), (q5, .inl (g 0, 3, .inl (fun _ => 0)))]) H := hP
  have hD : va_D (zAc b sz) ([(b, .inr (3, [.int 0, .int 0, .int 0, .int 0, .int 0, .ref q1, .ref q2, .ref q3, .ref q4, .null, .null, .null, .null, .null, .null])), (q1, .inl (g 0, 8, .inl (fun _ => 0))), (q2, .inl (g 0, 8, .inl (fun _ => 0))), (q3, .inl (g 0, 8, .inl (fun _ => 0))), (q4, .inl (g 0, 8, .inl (fun _ => 0))), (q5, .inl (g 0, 3, .inl (fun _ => 0)))]) := hD
  refine va_putF (D := D) (ci := 3) (v := .ref q5) (ty := tyX3 9) (C := RX3) (T := TX3) (N := 15) hx hb hts hinX3 tyX3 tyX3_ok nmX3 hown hK.1 hP hD hS 0 rfl rfl 9 (by decide) (hts (.fieldLink RX3 24 "SaltShares$Town" "groupSalt" "[I") (List.mem_of_getElem? (i := 9) rfl)) (fun _ h9 => h9) rfl hin2 rfl (tyX3_ok 9 (by decide)) rfl rfl (Nat.le_of_ble_eq_true rfl) dX3_init_40 (fun H locs hP hD hS => ?_)
  have hP : va_P D vwCl ([(b, .inr (3, [.int 0, .int 0, .int 0, .int 0, .int 0, .ref q1, .ref q2, .ref q3, .ref q4, .ref q5, .null, .null, .null, .null, .null])), (q1, .inl (g 0, 8, .inl (fun _ => 0))), (q2, .inl (g 0, 8, .inl (fun _ => 0))), (q3, .inl (g 0, 8, .inl (fun _ => 0))), (q4, .inl (g 0, 8, .inl (fun _ => 0))), (q5, .inl (g 0, 3, .inl (fun _ => 0)))]) H := hP
  have hD : va_D (zAc b sz) ([(b, .inr (3, [.int 0, .int 0, .int 0, .int 0, .int 0, .ref q1, .ref q2, .ref q3, .ref q4, .ref q5, .null, .null, .null, .null, .null])), (q1, .inl (g 0, 8, .inl (fun _ => 0))), (q2, .inl (g 0, 8, .inl (fun _ => 0))), (q3, .inl (g 0, 8, .inl (fun _ => 0))), (q4, .inl (g 0, 8, .inl (fun _ => 0))), (q5, .inl (g 0, 3, .inl (fun _ => 0)))]) := hD
  refine lv_aload_n hx hb dX3_init_43 rfl (lv_at hl 0 rfl) ?_
  refine lv_sipush (v := 300) hx hb dX3_init_44 (by decide) ?_
  refine z_newa (N := 300) hx hb (hts (.arrayClass .int) (List.mem_of_getElem? (i := 4) rfl)) hK hP hD hS hA 0 rfl rfl (Nat.le_of_ble_eq_true rfl) (Nat.le_of_ble_eq_true rfl) (Nat.le_of_ble_eq_true rfl) dX3_init_47 (fun q6 H hP hD hS => ?_)
  have hP : va_P D vwCl ([(b, .inr (3, [.int 0, .int 0, .int 0, .int 0, .int 0, .ref q1, .ref q2, .ref q3, .ref q4, .ref q5, .null, .null, .null, .null, .null])), (q1, .inl (g 0, 8, .inl (fun _ => 0))), (q2, .inl (g 0, 8, .inl (fun _ => 0))), (q3, .inl (g 0, 8, .inl (fun _ => 0))), (q4, .inl (g 0, 8, .inl (fun _ => 0))), (q5, .inl (g 0, 3, .inl (fun _ => 0))), (q6, .inl (g 0, 300, .inl (fun _ => 0)))]) H := hP
  have hD : va_D (zAc b sz) ([(b, .inr (3, [.int 0, .int 0, .int 0, .int 0, .int 0, .ref q1, .ref q2, .ref q3, .ref q4, .ref q5, .null, .null, .null, .null, .null])), (q1, .inl (g 0, 8, .inl (fun _ => 0))), (q2, .inl (g 0, 8, .inl (fun _ => 0))), (q3, .inl (g 0, 8, .inl (fun _ => 0))), (q4, .inl (g 0, 8, .inl (fun _ => 0))), (q5, .inl (g 0, 3, .inl (fun _ => 0))), (q6, .inl (g 0, 300, .inl (fun _ => 0)))]) := hD
  refine va_putF (D := D) (ci := 3) (v := .ref q6) (ty := tyX3 10) (C := RX3) (T := TX3) (N := 15) hx hb hts hinX3 tyX3 tyX3_ok nmX3 hown hK.1 hP hD hS 0 rfl rfl 10 (by decide) (hts (.fieldLink RX3 27 "SaltShares$Town" "ownerOf" "[I") (List.mem_of_getElem? (i := 10) rfl)) (fun _ h9 => h9) rfl hin2 rfl (tyX3_ok 10 (by decide)) rfl rfl (Nat.le_of_ble_eq_true rfl) dX3_init_49 (fun H locs hP hD hS => ?_)
  have hP : va_P D vwCl ([(b, .inr (3, [.int 0, .int 0, .int 0, .int 0, .int 0, .ref q1, .ref q2, .ref q3, .ref q4, .ref q5, .ref q6, .null, .null, .null, .null])), (q1, .inl (g 0, 8, .inl (fun _ => 0))), (q2, .inl (g 0, 8, .inl (fun _ => 0))), (q3, .inl (g 0, 8, .inl (fun _ => 0))), (q4, .inl (g 0, 8, .inl (fun _ => 0))), (q5, .inl (g 0, 3, .inl (fun _ => 0))), (q6, .inl (g 0, 300, .inl (fun _ => 0)))]) H := hP
  have hD : va_D (zAc b sz) ([(b, .inr (3, [.int 0, .int 0, .int 0, .int 0, .int 0, .ref q1, .ref q2, .ref q3, .ref q4, .ref q5, .ref q6, .null, .null, .null, .null])), (q1, .inl (g 0, 8, .inl (fun _ => 0))), (q2, .inl (g 0, 8, .inl (fun _ => 0))), (q3, .inl (g 0, 8, .inl (fun _ => 0))), (q4, .inl (g 0, 8, .inl (fun _ => 0))), (q5, .inl (g 0, 3, .inl (fun _ => 0))), (q6, .inl (g 0, 300, .inl (fun _ => 0)))]) := hD
  refine lv_aload_n hx hb dX3_init_52 rfl (lv_at hl 0 rfl) ?_
  refine lv_sipush (v := 150) hx hb dX3_init_53 (by decide) ?_
  refine z_newa (N := 150) hx hb (hts (.arrayClass .int) (List.mem_of_getElem? (i := 4) rfl)) hK hP hD hS hA 0 rfl rfl (Nat.le_of_ble_eq_true rfl) (Nat.le_of_ble_eq_true rfl) (Nat.le_of_ble_eq_true rfl) dX3_init_56 (fun q7 H hP hD hS => ?_)
  have hP : va_P D vwCl ([(b, .inr (3, [.int 0, .int 0, .int 0, .int 0, .int 0, .ref q1, .ref q2, .ref q3, .ref q4, .ref q5, .ref q6, .null, .null, .null, .null])), (q1, .inl (g 0, 8, .inl (fun _ => 0))), (q2, .inl (g 0, 8, .inl (fun _ => 0))), (q3, .inl (g 0, 8, .inl (fun _ => 0))), (q4, .inl (g 0, 8, .inl (fun _ => 0))), (q5, .inl (g 0, 3, .inl (fun _ => 0))), (q6, .inl (g 0, 300, .inl (fun _ => 0))), (q7, .inl (g 0, 150, .inl (fun _ => 0)))]) H := hP
  have hD : va_D (zAc b sz) ([(b, .inr (3, [.int 0, .int 0, .int 0, .int 0, .int 0, .ref q1, .ref q2, .ref q3, .ref q4, .ref q5, .ref q6, .null, .null, .null, .null])), (q1, .inl (g 0, 8, .inl (fun _ => 0))), (q2, .inl (g 0, 8, .inl (fun _ => 0))), (q3, .inl (g 0, 8, .inl (fun _ => 0))), (q4, .inl (g 0, 8, .inl (fun _ => 0))), (q5, .inl (g 0, 3, .inl (fun _ => 0))), (q6, .inl (g 0, 300, .inl (fun _ => 0))), (q7, .inl (g 0, 150, .inl (fun _ => 0)))]) := hD
  refine va_putF (D := D) (ci := 3) (v := .ref q7) (ty := tyX3 11) (C := RX3) (T := TX3) (N := 15) hx hb hts hinX3 tyX3 tyX3_ok nmX3 hown hK.1 hP hD hS 0 rfl rfl 11 (by decide) (hts (.fieldLink RX3 30 "SaltShares$Town" "heldIn" "[I") (List.mem_of_getElem? (i := 11) rfl)) (fun _ h9 => h9) rfl hin2 rfl (tyX3_ok 11 (by decide)) rfl rfl (Nat.le_of_ble_eq_true rfl) dX3_init_58 (fun H locs hP hD hS => ?_)
  have hP : va_P D vwCl ([(b, .inr (3, [.int 0, .int 0, .int 0, .int 0, .int 0, .ref q1, .ref q2, .ref q3, .ref q4, .ref q5, .ref q6, .ref q7, .null, .null, .null])), (q1, .inl (g 0, 8, .inl (fun _ => 0))), (q2, .inl (g 0, 8, .inl (fun _ => 0))), (q3, .inl (g 0, 8, .inl (fun _ => 0))), (q4, .inl (g 0, 8, .inl (fun _ => 0))), (q5, .inl (g 0, 3, .inl (fun _ => 0))), (q6, .inl (g 0, 300, .inl (fun _ => 0))), (q7, .inl (g 0, 150, .inl (fun _ => 0)))]) H := hP
  have hD : va_D (zAc b sz) ([(b, .inr (3, [.int 0, .int 0, .int 0, .int 0, .int 0, .ref q1, .ref q2, .ref q3, .ref q4, .ref q5, .ref q6, .ref q7, .null, .null, .null])), (q1, .inl (g 0, 8, .inl (fun _ => 0))), (q2, .inl (g 0, 8, .inl (fun _ => 0))), (q3, .inl (g 0, 8, .inl (fun _ => 0))), (q4, .inl (g 0, 8, .inl (fun _ => 0))), (q5, .inl (g 0, 3, .inl (fun _ => 0))), (q6, .inl (g 0, 300, .inl (fun _ => 0))), (q7, .inl (g 0, 150, .inl (fun _ => 0)))]) := hD
  refine lv_aload_n hx hb dX3_init_61 rfl (lv_at hl 0 rfl) ?_
  refine lv_sipush (v := 150) hx hb dX3_init_62 (by decide) ?_
  refine z_newa (N := 150) hx hb (hts (.arrayClass .int) (List.mem_of_getElem? (i := 4) rfl)) hK hP hD hS hA 0 rfl rfl (Nat.le_of_ble_eq_true rfl) (Nat.le_of_ble_eq_true rfl) (Nat.le_of_ble_eq_true rfl) dX3_init_65 (fun q8 H hP hD hS => ?_)
  have hP : va_P D vwCl ([(b, .inr (3, [.int 0, .int 0, .int 0, .int 0, .int 0, .ref q1, .ref q2, .ref q3, .ref q4, .ref q5, .ref q6, .ref q7, .null, .null, .null])), (q1, .inl (g 0, 8, .inl (fun _ => 0))), (q2, .inl (g 0, 8, .inl (fun _ => 0))), (q3, .inl (g 0, 8, .inl (fun _ => 0))), (q4, .inl (g 0, 8, .inl (fun _ => 0))), (q5, .inl (g 0, 3, .inl (fun _ => 0))), (q6, .inl (g 0, 300, .inl (fun _ => 0))), (q7, .inl (g 0, 150, .inl (fun _ => 0))), (q8, .inl (g 0, 150, .inl (fun _ => 0)))]) H := hP
  have hD : va_D (zAc b sz) ([(b, .inr (3, [.int 0, .int 0, .int 0, .int 0, .int 0, .ref q1, .ref q2, .ref q3, .ref q4, .ref q5, .ref q6, .ref q7, .null, .null, .null])), (q1, .inl (g 0, 8, .inl (fun _ => 0))), (q2, .inl (g 0, 8, .inl (fun _ => 0))), (q3, .inl (g 0, 8, .inl (fun _ => 0))), (q4, .inl (g 0, 8, .inl (fun _ => 0))), (q5, .inl (g 0, 3, .inl (fun _ => 0))), (q6, .inl (g 0, 300, .inl (fun _ => 0))), (q7, .inl (g 0, 150, .inl (fun _ => 0))), (q8, .inl (g 0, 150, .inl (fun _ => 0)))]) := hD
  refine va_putF (D := D) (ci := 3) (v := .ref q8) (ty := tyX3 12) (C := RX3) (T := TX3) (N := 15) hx hb hts hinX3 tyX3 tyX3_ok nmX3 hown hK.1 hP hD hS 0 rfl rfl 12 (by decide) (hts (.fieldLink RX3 33 "SaltShares$Town" "heldOut" "[I") (List.mem_of_getElem? (i := 12) rfl)) (fun _ h9 => h9) rfl hin2 rfl (tyX3_ok 12 (by decide)) rfl rfl (Nat.le_of_ble_eq_true rfl) dX3_init_67 (fun H locs hP hD hS => ?_)
  have hP : va_P D vwCl ([(b, .inr (3, [.int 0, .int 0, .int 0, .int 0, .int 0, .ref q1, .ref q2, .ref q3, .ref q4, .ref q5, .ref q6, .ref q7, .ref q8, .null, .null])), (q1, .inl (g 0, 8, .inl (fun _ => 0))), (q2, .inl (g 0, 8, .inl (fun _ => 0))), (q3, .inl (g 0, 8, .inl (fun _ => 0))), (q4, .inl (g 0, 8, .inl (fun _ => 0))), (q5, .inl (g 0, 3, .inl (fun _ => 0))), (q6, .inl (g 0, 300, .inl (fun _ => 0))), (q7, .inl (g 0, 150, .inl (fun _ => 0))), (q8, .inl (g 0, 150, .inl (fun _ => 0)))]) H := hP
  have hD : va_D (zAc b sz) ([(b, .inr (3, [.int 0, .int 0, .int 0, .int 0, .int 0, .ref q1, .ref q2, .ref q3, .ref q4, .ref q5, .ref q6, .ref q7, .ref q8, .null, .null])), (q1, .inl (g 0, 8, .inl (fun _ => 0))), (q2, .inl (g 0, 8, .inl (fun _ => 0))), (q3, .inl (g 0, 8, .inl (fun _ => 0))), (q4, .inl (g 0, 8, .inl (fun _ => 0))), (q5, .inl (g 0, 3, .inl (fun _ => 0))), (q6, .inl (g 0, 300, .inl (fun _ => 0))), (q7, .inl (g 0, 150, .inl (fun _ => 0))), (q8, .inl (g 0, 150, .inl (fun _ => 0)))]) := hD
  refine lv_aload_n hx hb dX3_init_70 rfl (lv_at hl 0 rfl) ?_
  refine lv_sipush (v := 150) hx hb dX3_init_71 (by decide) ?_
  refine z_newa (N := 150) hx hb (hts (.arrayClass .int) (List.mem_of_getElem? (i := 4) rfl)) hK hP hD hS hA 0 rfl rfl (Nat.le_of_ble_eq_true rfl) (Nat.le_of_ble_eq_true rfl) (Nat.le_of_ble_eq_true rfl) dX3_init_74 (fun q9 H hP hD hS => ?_)
  have hP : va_P D vwCl ([(b, .inr (3, [.int 0, .int 0, .int 0, .int 0, .int 0, .ref q1, .ref q2, .ref q3, .ref q4, .ref q5, .ref q6, .ref q7, .ref q8, .null, .null])), (q1, .inl (g 0, 8, .inl (fun _ => 0))), (q2, .inl (g 0, 8, .inl (fun _ => 0))), (q3, .inl (g 0, 8, .inl (fun _ => 0))), (q4, .inl (g 0, 8, .inl (fun _ => 0))), (q5, .inl (g 0, 3, .inl (fun _ => 0))), (q6, .inl (g 0, 300, .inl (fun _ => 0))), (q7, .inl (g 0, 150, .inl (fun _ => 0))), (q8, .inl (g 0, 150, .inl (fun _ => 0))), (q9, .inl (g 0, 150, .inl (fun _ => 0)))]) H := hP
  have hD : va_D (zAc b sz) ([(b, .inr (3, [.int 0, .int 0, .int 0, .int 0, .int 0, .ref q1, .ref q2, .ref q3, .ref q4, .ref q5, .ref q6, .ref q7, .ref q8, .null, .null])), (q1, .inl (g 0, 8, .inl (fun _ => 0))), (q2, .inl (g 0, 8, .inl (fun _ => 0))), (q3, .inl (g 0, 8, .inl (fun _ => 0))), (q4, .inl (g 0, 8, .inl (fun _ => 0))), (q5, .inl (g 0, 3, .inl (fun _ => 0))), (q6, .inl (g 0, 300, .inl (fun _ => 0))), (q7, .inl (g 0, 150, .inl (fun _ => 0))), (q8, .inl (g 0, 150, .inl (fun _ => 0))), (q9, .inl (g 0, 150, .inl (fun _ => 0)))]) := hD
  refine va_putF (D := D) (ci := 3) (v := .ref q9) (ty := tyX3 13) (C := RX3) (T := TX3) (N := 15) hx hb hts hinX3 tyX3 tyX3_ok nmX3 hown hK.1 hP hD hS 0 rfl rfl 13 (by decide) (hts (.fieldLink RX3 36 "SaltShares$Town" "ate" "[I") (List.mem_of_getElem? (i := 13) rfl)) (fun _ h9 => h9) rfl hin2 rfl (tyX3_ok 13 (by decide)) rfl rfl (Nat.le_of_ble_eq_true rfl) dX3_init_76 (fun H locs hP hD hS => ?_)
  have hP : va_P D vwCl ([(b, .inr (3, [.int 0, .int 0, .int 0, .int 0, .int 0, .ref q1, .ref q2, .ref q3, .ref q4, .ref q5, .ref q6, .ref q7, .ref q8, .ref q9, .null])), (q1, .inl (g 0, 8, .inl (fun _ => 0))), (q2, .inl (g 0, 8, .inl (fun _ => 0))), (q3, .inl (g 0, 8, .inl (fun _ => 0))), (q4, .inl (g 0, 8, .inl (fun _ => 0))), (q5, .inl (g 0, 3, .inl (fun _ => 0))), (q6, .inl (g 0, 300, .inl (fun _ => 0))), (q7, .inl (g 0, 150, .inl (fun _ => 0))), (q8, .inl (g 0, 150, .inl (fun _ => 0))), (q9, .inl (g 0, 150, .inl (fun _ => 0)))]) H := hP
  have hD : va_D (zAc b sz) ([(b, .inr (3, [.int 0, .int 0, .int 0, .int 0, .int 0, .ref q1, .ref q2, .ref q3, .ref q4, .ref q5, .ref q6, .ref q7, .ref q8, .ref q9, .null])), (q1, .inl (g 0, 8, .inl (fun _ => 0))), (q2, .inl (g 0, 8, .inl (fun _ => 0))), (q3, .inl (g 0, 8, .inl (fun _ => 0))), (q4, .inl (g 0, 8, .inl (fun _ => 0))), (q5, .inl (g 0, 3, .inl (fun _ => 0))), (q6, .inl (g 0, 300, .inl (fun _ => 0))), (q7, .inl (g 0, 150, .inl (fun _ => 0))), (q8, .inl (g 0, 150, .inl (fun _ => 0))), (q9, .inl (g 0, 150, .inl (fun _ => 0)))]) := hD
  refine lv_aload_n hx hb dX3_init_79 rfl (lv_at hl 0 rfl) ?_
  refine lv_sipush (v := 150) hx hb dX3_init_80 (by decide) ?_
  refine z_newa (N := 150) hx hb (hts (.arrayClass .int) (List.mem_of_getElem? (i := 4) rfl)) hK hP hD hS hA 0 rfl rfl (Nat.le_of_ble_eq_true rfl) (Nat.le_of_ble_eq_true rfl) (Nat.le_of_ble_eq_true rfl) dX3_init_83 (fun q10 H hP hD hS => ?_)
  have hP : va_P D vwCl ([(b, .inr (3, [.int 0, .int 0, .int 0, .int 0, .int 0, .ref q1, .ref q2, .ref q3, .ref q4, .ref q5, .ref q6, .ref q7, .ref q8, .ref q9, .null])), (q1, .inl (g 0, 8, .inl (fun _ => 0))), (q2, .inl (g 0, 8, .inl (fun _ => 0))), (q3, .inl (g 0, 8, .inl (fun _ => 0))), (q4, .inl (g 0, 8, .inl (fun _ => 0))), (q5, .inl (g 0, 3, .inl (fun _ => 0))), (q6, .inl (g 0, 300, .inl (fun _ => 0))), (q7, .inl (g 0, 150, .inl (fun _ => 0))), (q8, .inl (g 0, 150, .inl (fun _ => 0))), (q9, .inl (g 0, 150, .inl (fun _ => 0))), (q10, .inl (g 0, 150, .inl (fun _ => 0)))]) H := hP
  have hD : va_D (zAc b sz) ([(b, .inr (3, [.int 0, .int 0, .int 0, .int 0, .int 0, .ref q1, .ref q2, .ref q3, .ref q4, .ref q5, .ref q6, .ref q7, .ref q8, .ref q9, .null])), (q1, .inl (g 0, 8, .inl (fun _ => 0))), (q2, .inl (g 0, 8, .inl (fun _ => 0))), (q3, .inl (g 0, 8, .inl (fun _ => 0))), (q4, .inl (g 0, 8, .inl (fun _ => 0))), (q5, .inl (g 0, 3, .inl (fun _ => 0))), (q6, .inl (g 0, 300, .inl (fun _ => 0))), (q7, .inl (g 0, 150, .inl (fun _ => 0))), (q8, .inl (g 0, 150, .inl (fun _ => 0))), (q9, .inl (g 0, 150, .inl (fun _ => 0))), (q10, .inl (g 0, 150, .inl (fun _ => 0)))]) := hD
  refine va_putF (D := D) (ci := 3) (v := .ref q10) (ty := tyX3 14) (C := RX3) (T := TX3) (N := 15) hx hb hts hinX3 tyX3 tyX3_ok nmX3 hown hK.1 hP hD hS 0 rfl rfl 14 (by decide) (hts (.fieldLink RX3 39 "SaltShares$Town" "servingsTo" "[I") (List.mem_of_getElem? (i := 14) rfl)) (fun _ h9 => h9) rfl hin2 rfl (tyX3_ok 14 (by decide)) rfl rfl (Nat.le_of_ble_eq_true rfl) dX3_init_85 (fun H locs hP hD hS => ?_)
  have hP : va_P D vwCl ([(b, .inr (3, [.int 0, .int 0, .int 0, .int 0, .int 0, .ref q1, .ref q2, .ref q3, .ref q4, .ref q5, .ref q6, .ref q7, .ref q8, .ref q9, .ref q10])), (q1, .inl (g 0, 8, .inl (fun _ => 0))), (q2, .inl (g 0, 8, .inl (fun _ => 0))), (q3, .inl (g 0, 8, .inl (fun _ => 0))), (q4, .inl (g 0, 8, .inl (fun _ => 0))), (q5, .inl (g 0, 3, .inl (fun _ => 0))), (q6, .inl (g 0, 300, .inl (fun _ => 0))), (q7, .inl (g 0, 150, .inl (fun _ => 0))), (q8, .inl (g 0, 150, .inl (fun _ => 0))), (q9, .inl (g 0, 150, .inl (fun _ => 0))), (q10, .inl (g 0, 150, .inl (fun _ => 0)))]) H := hP
  have hD : va_D (zAc b sz) ([(b, .inr (3, [.int 0, .int 0, .int 0, .int 0, .int 0, .ref q1, .ref q2, .ref q3, .ref q4, .ref q5, .ref q6, .ref q7, .ref q8, .ref q9, .ref q10])), (q1, .inl (g 0, 8, .inl (fun _ => 0))), (q2, .inl (g 0, 8, .inl (fun _ => 0))), (q3, .inl (g 0, 8, .inl (fun _ => 0))), (q4, .inl (g 0, 8, .inl (fun _ => 0))), (q5, .inl (g 0, 3, .inl (fun _ => 0))), (q6, .inl (g 0, 300, .inl (fun _ => 0))), (q7, .inl (g 0, 150, .inl (fun _ => 0))), (q8, .inl (g 0, 150, .inl (fun _ => 0))), (q9, .inl (g 0, 150, .inl (fun _ => 0))), (q10, .inl (g 0, 150, .inl (fun _ => 0)))]) := hD
  refine lv_iconst (v := 0) hx hb dX3_init_88 (by decide) ?_
  refine lv_istore_n (lv' := [(1, .int 0), (0, .ref b)]) hx hb dX3_init_89 rfl hl (by decide) rfl (fun ls hl => ?_)
  refine lv_iload_n hx hb dX3_init_90 rfl (lv_at hl 0 rfl) ?_
  refine lv_iconst (v := 3) hx hb dX3_init_91 (by decide) ?_
  refine lv_icmp_ge (tgt := 113) hx hb dX3_init_92 (by decide) (fun c9 => ?_) (fun c9 => ?_)
  · exact absurd c9 (by decide)
  refine lv_aload_n hx hb dX3_init_95 rfl (lv_at hl 1 rfl) ?_
  refine va_get (D := D) (ci := 3) (v := .ref q5) (C := RX3) (T := TX3) (N := 15) hx hb hts hinX3 hown hK.1 hP 0 rfl rfl 9 (by decide) (hts (.fieldLink RX3 24 "SaltShares$Town" "groupSalt" "[I") (List.mem_of_getElem? (i := 9) rfl)) (fun _ h9 => h9) rfl dX3_init_96 ?_
  refine lv_iload_n hx hb dX3_init_99 rfl (lv_at hl 0 rfl) ?_
  refine lv_bipush (v := 11) hx hb dX3_init_100 (by decide) ?_
  refine lv_iload_n hx hb dX3_init_102 rfl (lv_at hl 0 rfl) ?_
  refine lv_iconst (v := 1) hx hb dX3_init_103 (by decide) ?_
  refine lv_iadd hx hb dX3_init_104 ?_
  refine lv_is (show ((0 : Int32) + 1) = 1 by decide) ?_
  refine lv_imul hx hb dX3_init_105 ?_
  refine lv_is (show ((11 : Int32) * 1) = 11 by decide) ?_
  refine z_iast (i := 0) (x := 11) hx hb hK hP hD hS 5 0 rfl rfl (by decide) (by decide) dX3_init_106 (fun H locs hP hD hS => ?_)
  have hP : va_P D vwCl ([(b, .inr (3, [.int 0, .int 0, .int 0, .int 0, .int 0, .ref q1, .ref q2, .ref q3, .ref q4, .ref q5, .ref q6, .ref q7, .ref q8, .ref q9, .ref q10])), (q1, .inl (g 0, 8, .inl (fun _ => 0))), (q2, .inl (g 0, 8, .inl (fun _ => 0))), (q3, .inl (g 0, 8, .inl (fun _ => 0))), (q4, .inl (g 0, 8, .inl (fun _ => 0))), (q5, .inl (g 0, 3, .inl (upd (fun _ => 0) 0 11))), (q6, .inl (g 0, 300, .inl (fun _ => 0))), (q7, .inl (g 0, 150, .inl (fun _ => 0))), (q8, .inl (g 0, 150, .inl (fun _ => 0))), (q9, .inl (g 0, 150, .inl (fun _ => 0))), (q10, .inl (g 0, 150, .inl (fun _ => 0)))]) H := hP
  have hD : va_D (zAc b sz) ([(b, .inr (3, [.int 0, .int 0, .int 0, .int 0, .int 0, .ref q1, .ref q2, .ref q3, .ref q4, .ref q5, .ref q6, .ref q7, .ref q8, .ref q9, .ref q10])), (q1, .inl (g 0, 8, .inl (fun _ => 0))), (q2, .inl (g 0, 8, .inl (fun _ => 0))), (q3, .inl (g 0, 8, .inl (fun _ => 0))), (q4, .inl (g 0, 8, .inl (fun _ => 0))), (q5, .inl (g 0, 3, .inl (upd (fun _ => 0) 0 11))), (q6, .inl (g 0, 300, .inl (fun _ => 0))), (q7, .inl (g 0, 150, .inl (fun _ => 0))), (q8, .inl (g 0, 150, .inl (fun _ => 0))), (q9, .inl (g 0, 150, .inl (fun _ => 0))), (q10, .inl (g 0, 150, .inl (fun _ => 0)))]) := hD
  refine lv_iinc (v := 1) (lv' := [(1, .int 1), (0, .ref b)]) hx hb dX3_init_107 hl (k := 0) rfl (by decide) (by decide) rfl (fun ls hl => ?_)
  refine lv_goto (tgt := 90) hx hb dX3_init_110 (by decide) ?_
  refine lv_iload_n hx hb dX3_init_90 rfl (lv_at hl 0 rfl) ?_
  refine lv_iconst (v := 3) hx hb dX3_init_91 (by decide) ?_
  refine lv_icmp_ge (tgt := 113) hx hb dX3_init_92 (by decide) (fun c9 => ?_) (fun c9 => ?_)
  · exact absurd c9 (by decide)
  refine lv_aload_n hx hb dX3_init_95 rfl (lv_at hl 1 rfl) ?_
  refine va_get (D := D) (ci := 3) (v := .ref q5) (C := RX3) (T := TX3) (N := 15) hx hb hts hinX3 hown hK.1 hP 0 rfl rfl 9 (by decide) (hts (.fieldLink RX3 24 "SaltShares$Town" "groupSalt" "[I") (List.mem_of_getElem? (i := 9) rfl)) (fun _ h9 => h9) rfl dX3_init_96 ?_
  refine lv_iload_n hx hb dX3_init_99 rfl (lv_at hl 0 rfl) ?_
  refine lv_bipush (v := 11) hx hb dX3_init_100 (by decide) ?_
  refine lv_iload_n hx hb dX3_init_102 rfl (lv_at hl 0 rfl) ?_
  refine lv_iconst (v := 1) hx hb dX3_init_103 (by decide) ?_
  refine lv_iadd hx hb dX3_init_104 ?_
  refine lv_is (show ((1 : Int32) + 1) = 2 by decide) ?_
  refine lv_imul hx hb dX3_init_105 ?_
  refine lv_is (show ((11 : Int32) * 2) = 22 by decide) ?_
  refine z_iast (i := 1) (x := 22) hx hb hK hP hD hS 5 0 rfl rfl (by decide) (by decide) dX3_init_106 (fun H locs hP hD hS => ?_)
  have hP : va_P D vwCl ([(b, .inr (3, [.int 0, .int 0, .int 0, .int 0, .int 0, .ref q1, .ref q2, .ref q3, .ref q4, .ref q5, .ref q6, .ref q7, .ref q8, .ref q9, .ref q10])), (q1, .inl (g 0, 8, .inl (fun _ => 0))), (q2, .inl (g 0, 8, .inl (fun _ => 0))), (q3, .inl (g 0, 8, .inl (fun _ => 0))), (q4, .inl (g 0, 8, .inl (fun _ => 0))), (q5, .inl (g 0, 3, .inl (upd (upd (fun _ => 0) 0 11) 1 22))), (q6, .inl (g 0, 300, .inl (fun _ => 0))), (q7, .inl (g 0, 150, .inl (fun _ => 0))), (q8, .inl (g 0, 150, .inl (fun _ => 0))), (q9, .inl (g 0, 150, .inl (fun _ => 0))), (q10, .inl (g 0, 150, .inl (fun _ => 0)))]) H := hP
  have hD : va_D (zAc b sz) ([(b, .inr (3, [.int 0, .int 0, .int 0, .int 0, .int 0, .ref q1, .ref q2, .ref q3, .ref q4, .ref q5, .ref q6, .ref q7, .ref q8, .ref q9, .ref q10])), (q1, .inl (g 0, 8, .inl (fun _ => 0))), (q2, .inl (g 0, 8, .inl (fun _ => 0))), (q3, .inl (g 0, 8, .inl (fun _ => 0))), (q4, .inl (g 0, 8, .inl (fun _ => 0))), (q5, .inl (g 0, 3, .inl (upd (upd (fun _ => 0) 0 11) 1 22))), (q6, .inl (g 0, 300, .inl (fun _ => 0))), (q7, .inl (g 0, 150, .inl (fun _ => 0))), (q8, .inl (g 0, 150, .inl (fun _ => 0))), (q9, .inl (g 0, 150, .inl (fun _ => 0))), (q10, .inl (g 0, 150, .inl (fun _ => 0)))]) := hD
  refine lv_iinc (v := 2) (lv' := [(1, .int 2), (0, .ref b)]) hx hb dX3_init_107 hl (k := 0) rfl (by decide) (by decide) rfl (fun ls hl => ?_)
  refine lv_goto (tgt := 90) hx hb dX3_init_110 (by decide) ?_
  refine lv_iload_n hx hb dX3_init_90 rfl (lv_at hl 0 rfl) ?_
  refine lv_iconst (v := 3) hx hb dX3_init_91 (by decide) ?_
  refine lv_icmp_ge (tgt := 113) hx hb dX3_init_92 (by decide) (fun c9 => ?_) (fun c9 => ?_)
  · exact absurd c9 (by decide)
  refine lv_aload_n hx hb dX3_init_95 rfl (lv_at hl 1 rfl) ?_
  refine va_get (D := D) (ci := 3) (v := .ref q5) (C := RX3) (T := TX3) (N := 15) hx hb hts hinX3 hown hK.1 hP 0 rfl rfl 9 (by decide) (hts (.fieldLink RX3 24 "SaltShares$Town" "groupSalt" "[I") (List.mem_of_getElem? (i := 9) rfl)) (fun _ h9 => h9) rfl dX3_init_96 ?_
  refine lv_iload_n hx hb dX3_init_99 rfl (lv_at hl 0 rfl) ?_
  refine lv_bipush (v := 11) hx hb dX3_init_100 (by decide) ?_
  refine lv_iload_n hx hb dX3_init_102 rfl (lv_at hl 0 rfl) ?_
  refine lv_iconst (v := 1) hx hb dX3_init_103 (by decide) ?_
  refine lv_iadd hx hb dX3_init_104 ?_
  refine lv_is (show ((2 : Int32) + 1) = 3 by decide) ?_
  refine lv_imul hx hb dX3_init_105 ?_
  refine lv_is (show ((11 : Int32) * 3) = 33 by decide) ?_
  refine z_iast (i := 2) (x := 33) hx hb hK hP hD hS 5 0 rfl rfl (by decide) (by decide) dX3_init_106 (fun H locs hP hD hS => ?_)
  have hP : va_P D vwCl ([(b, .inr (3, [.int 0, .int 0, .int 0, .int 0, .int 0, .ref q1, .ref q2, .ref q3, .ref q4, .ref q5, .ref q6, .ref q7, .ref q8, .ref q9, .ref q10])), (q1, .inl (g 0, 8, .inl (fun _ => 0))), (q2, .inl (g 0, 8, .inl (fun _ => 0))), (q3, .inl (g 0, 8, .inl (fun _ => 0))), (q4, .inl (g 0, 8, .inl (fun _ => 0))), (q5, .inl (g 0, 3, .inl (upd (upd (upd (fun _ => 0) 0 11) 1 22) 2 33))), (q6, .inl (g 0, 300, .inl (fun _ => 0))), (q7, .inl (g 0, 150, .inl (fun _ => 0))), (q8, .inl (g 0, 150, .inl (fun _ => 0))), (q9, .inl (g 0, 150, .inl (fun _ => 0))), (q10, .inl (g 0, 150, .inl (fun _ => 0)))]) H := hP
  have hD : va_D (zAc b sz) ([(b, .inr (3, [.int 0, .int 0, .int 0, .int 0, .int 0, .ref q1, .ref q2, .ref q3, .ref q4, .ref q5, .ref q6, .ref q7, .ref q8, .ref q9, .ref q10])), (q1, .inl (g 0, 8, .inl (fun _ => 0))), (q2, .inl (g 0, 8, .inl (fun _ => 0))), (q3, .inl (g 0, 8, .inl (fun _ => 0))), (q4, .inl (g 0, 8, .inl (fun _ => 0))), (q5, .inl (g 0, 3, .inl (upd (upd (upd (fun _ => 0) 0 11) 1 22) 2 33))), (q6, .inl (g 0, 300, .inl (fun _ => 0))), (q7, .inl (g 0, 150, .inl (fun _ => 0))), (q8, .inl (g 0, 150, .inl (fun _ => 0))), (q9, .inl (g 0, 150, .inl (fun _ => 0))), (q10, .inl (g 0, 150, .inl (fun _ => 0)))]) := hD
  refine lv_iinc (v := 3) (lv' := [(1, .int 3), (0, .ref b)]) hx hb dX3_init_107 hl (k := 0) rfl (by decide) (by decide) rfl (fun ls hl => ?_)
  refine lv_goto (tgt := 90) hx hb dX3_init_110 (by decide) ?_
  refine lv_iload_n hx hb dX3_init_90 rfl (lv_at hl 0 rfl) ?_
  refine lv_iconst (v := 3) hx hb dX3_init_91 (by decide) ?_
  refine lv_icmp_ge (tgt := 113) hx hb dX3_init_92 (by decide) (fun c9 => ?_) (fun c9 => ?_)
  rotate_left
  · exact absurd (show (3 : Int32) ≤ 3 by decide) c9
  refine lv_iconst (v := 0) hx hb dX3_init_113 (by decide) ?_
  refine lv_istore_n (lv' := [(1, .int 0), (0, .ref b)]) hx hb dX3_init_114 rfl hl (by decide) rfl (fun ls hl => ?_)
  refine W.widen (k := 10) (n := 935) (Nat.le_of_ble_eq_true rfl) (Nat.le_of_ble_eq_true rfl) ?_
  have L : ∀ (n i : Nat) (F : Nat → Int32) (H : Heap) (locs : List Loc) (ls : Array Slot), 300 - i < n → i ≤ 300 → (∀ j, j < i → F j = -1) → va_P D vwCl ([(b, .inr (3, [.int 0, .int 0, .int 0, .int 0, .int 0, .ref q1, .ref q2, .ref q3, .ref q4, .ref q5, .ref q6, .ref q7, .ref q8, .ref q9, .ref q10])), (q1, .inl (g 0, 8, .inl (fun _ => 0))), (q2, .inl (g 0, 8, .inl (fun _ => 0))), (q3, .inl (g 0, 8, .inl (fun _ => 0))), (q4, .inl (g 0, 8, .inl (fun _ => 0))), (q5, .inl (g 0, 3, .inl (upd (upd (upd (fun _ => 0) 0 11) 1 22) 2 33))), (q6, .inl (g 0, 300, .inl F)), (q7, .inl (g 0, 150, .inl (fun _ => 0))), (q8, .inl (g 0, 150, .inl (fun _ => 0))), (q9, .inl (g 0, 150, .inl (fun _ => 0))), (q10, .inl (g 0, 150, .inl (fun _ => 0)))]) H → va_D (zAc b sz) ([(b, .inr (3, [.int 0, .int 0, .int 0, .int 0, .int 0, .ref q1, .ref q2, .ref q3, .ref q4, .ref q5, .ref q6, .ref q7, .ref q8, .ref q9, .ref q10])), (q1, .inl (g 0, 8, .inl (fun _ => 0))), (q2, .inl (g 0, 8, .inl (fun _ => 0))), (q3, .inl (g 0, 8, .inl (fun _ => 0))), (q4, .inl (g 0, 8, .inl (fun _ => 0))), (q5, .inl (g 0, 3, .inl (upd (upd (upd (fun _ => 0) 0 11) 1 22) 2 33))), (q6, .inl (g 0, 300, .inl F)), (q7, .inl (g 0, 150, .inl (fun _ => 0))), (q8, .inl (g 0, 150, .inl (fun _ => 0))), (q9, .inl (g 0, 150, .inl (fun _ => 0))), (q10, .inl (g 0, 150, .inl (fun _ => 0)))]) → va_S (zAc b sz) s.heap H locs → lv_has ls 2 [(1, .int (nI i)), (0, .ref b)] → W p l e ({ frames := 1, cells := 10, slots := 935, locals := 12 }) s m [Value.ref b].toArray below meth c H locs 10 935 (MQ below (zQc D b sz (fun hh => zB_X3 (g 0) (hh 0) zT0)) [Value.ref b].toArray s 10 935 (zAc b sz)) (F0 m 115 ls []) := by
    intro n
    induction n with
    | zero => intro i F H locs ls h; exact absurd h (Nat.not_lt_zero _)
    | succ n ih =>
      intro i F H locs ls hn hi hF hP hD hS hl
      refine lv_iload_n hx hb dX3_init_115 rfl (lv_at hl 0 rfl) ?_
      refine lv_sipush (v := 300) hx hb dX3_init_116 (by decide) ?_
      refine lv_icmp_ge (tgt := 135) hx hb dX3_init_119 (by decide) (fun c1 => ?_) (fun c1 => ?_)
      · have c1 : 300 ≤ i := (nI_leI (a := 300) (b := i) (by omega) (by omega)).mp c1
        refine zretC (fun k => if k = 0 then zh [b, 0, 0, 0, 0, 0, q1, q2, q3, q4, q5, q6, q7, q8, q9, q10] else fun _ => 0) hx hb hr hlocks dX3_init_135 rfl ?_ (zD_addr hD rfl) hS hsz
        obtain ⟨a0, hP⟩ := zP_cons.mp hP
        obtain ⟨a1, hP⟩ := zP_cons.mp hP
        obtain ⟨a2, hP⟩ := zP_cons.mp hP
        obtain ⟨a3, hP⟩ := zP_cons.mp hP
        obtain ⟨a4, hP⟩ := zP_cons.mp hP
        obtain ⟨a5, hP⟩ := zP_cons.mp hP
        obtain ⟨a6, hP⟩ := zP_cons.mp hP
        obtain ⟨a7, hP⟩ := zP_cons.mp hP
        obtain ⟨a8, hP⟩ := zP_cons.mp hP
        obtain ⟨a9, hP⟩ := zP_cons.mp hP
        obtain ⟨a10, hP⟩ := zP_cons.mp hP
        refine zP_cons.mpr ⟨a0, ?_⟩
        refine zP_cons.mpr ⟨a1, ?_⟩
        refine zP_cons.mpr ⟨a2, ?_⟩
        refine zP_cons.mpr ⟨a3, ?_⟩
        refine zP_cons.mpr ⟨a4, ?_⟩
        refine zP_cons.mpr ⟨(zarr (n := 3) (fun j hj => zgs0 j hj) a5), ?_⟩
        refine zP_cons.mpr ⟨(zarr (n := 300) (fun j hj => hF j (by omega)) a6), ?_⟩
        refine zP_cons.mpr ⟨a7, ?_⟩
        refine zP_cons.mpr ⟨a8, ?_⟩
        refine zP_cons.mpr ⟨a9, ?_⟩
        refine zP_cons.mpr ⟨a10, ?_⟩
        exact hP
      · have c1 : ¬ (300 ≤ i) := fun h9 => c1 ((nI_leI (a := 300) (b := i) (by omega) (by omega)).mpr h9)
        refine lv_aload_n hx hb dX3_init_122 rfl (lv_at hl 1 rfl) ?_
        refine va_get (D := D) (ci := 3) (v := .ref q6) (C := RX3) (T := TX3) (N := 15) hx hb hts hinX3 hown hK.1 hP 0 rfl rfl 10 (by decide) (hts (.fieldLink RX3 27 "SaltShares$Town" "ownerOf" "[I") (List.mem_of_getElem? (i := 10) rfl)) (fun _ h9 => h9) rfl dX3_init_123 ?_
        refine lv_iload_n hx hb dX3_init_126 rfl (lv_at hl 0 rfl) ?_
        refine lv_iconst (v := (-1)) hx hb dX3_init_127 (by decide) ?_
        refine z_iast (i := i) (x := (-1)) hx hb hK hP hD hS 6 0 rfl rfl (by omega) (by decide) dX3_init_128 (fun H locs hP hD hS => ?_)
        refine lv_iinc (v := nI (i + 1)) (lv' := [(1, .int (nI (i + 1))), (0, .ref b)]) hx hb dX3_init_129 hl (k := 0) rfl (nI_add _ 1) (by decide) rfl (fun ls hl => ?_)
        refine lv_goto (tgt := 115) hx hb dX3_init_132 (by decide) ?_
        exact ih (i + 1) (upd F i (-1)) _ _ ls (by omega) (by omega) (fun j hj => by
          by_cases q : j = i
          · subst q; exact zupd_s _ _ _
          · rw [zupd_n _ _ q]; exact hF j (by omega)) hP hD hS hl
  exact L 301 0 (fun _ => 0) _ _ ls (by decide) (by decide) (fun _ h9 => absurd h9 (Nat.not_lt_zero _)) hP hD hS hl
