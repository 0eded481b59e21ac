theorem zdfX0 : ∀ j, j < 7 → defaultValue (tyX0 j) = vp_V [.null, .int 0, .int 0, .int 0, .int 0, .int 0, .int 0] j
  | 0, _ => rfl
  | 1, _ => rfl
  | 2, _ => rfl
  | 3, _ => rfl
  | 4, _ => rfl
  | 5, _ => rfl
  | 6, _ => rfl
  | j + 7, h => absurd h (by omega)
theorem zdfX1 : ∀ j, j < 3 → defaultValue (tyX1 j) = vp_V [.int 0, .int 0, .null] j
  | 0, _ => rfl
  | 1, _ => rfl
  | 2, _ => rfl
  | j + 3, h => absurd h (by omega)
theorem zdfX2 : ∀ j, j < 5 → defaultValue (tyX2 j) = vp_V [.null, .int 0, .int 0, .null, .null] j
  | 0, _ => rfl
  | 1, _ => rfl
  | 2, _ => rfl
  | 3, _ => rfl
  | 4, _ => rfl
  | j + 5, h => absurd h (by omega)
theorem zdfX3 : ∀ j, j < 15 → defaultValue (tyX3 j) = vp_V [.int 0, .int 0, .int 0, .int 0, .int 0, .null, .null, .null, .null, .null, .null, .null, .null, .null, .null] j
  | 0, _ => rfl
  | 1, _ => rfl
  | 2, _ => rfl
  | 3, _ => rfl
  | 4, _ => rfl
  | 5, _ => rfl
  | 6, _ => rfl
  | 7, _ => rfl
  | 8, _ => rfl
  | 9, _ => rfl
  | 10, _ => rfl
  | 11, _ => rfl
  | 12, _ => rfl
  | 13, _ => rfl
  | 14, _ => rfl
  | j + 15, h => absurd h (by omega)
set_option maxHeartbeats 400000 in
set_option maxRecDepth 100000 in
theorem c_X1_init (l : Launch) (D : va_G) (g : Nat → ClassId) (b sz : Nat) : Ct l D (zT g) yX1_init wsX1_init ({ frames := 2, cells := 67, slots := 5706, locals := 33 }) b sz (.inr (1, [.int 0, .int 0, .null])) (fun hh => zF [zB_X1 (g 1) (hh 0) (hh 1) (hh 2) (hh 3) (hh 4) (hh 5) (hh 6) zO0, zB_X3 (g 0) (hh 1) zT0, zB_X3 (g 0) (hh 2) zT0, zB_X3 (g 0) (hh 3) zT0, zB_X3 (g 0) (hh 4) zT0, zB_X3 (g 0) (hh 5) zT0, zB_X3 (g 0) (hh 6) zT0]) 67 5706 := by
  refine Ct.of (cc := cX1_init) (maxL := 2) (by decide) rfl rfl (Nat.le_of_ble_eq_true rfl) ?_
  intro p e s m below meth c ls hx hb hr hml hown hts hlocks hin2 hP hD hS hA hK hAO hsz hl
  have hown : s.vm.findClass RX1 = some m.cls := hown
  have hinX1 : ∀ w ∈ u_ws RX1 TX1 3, w ∈ wsX1_init := fun _ h9 => (List.mem_cons_of_mem _ (List.mem_append_left _ (List.mem_append_right _ h9)))
  have hl : lv_has ls 2 [(0, .ref b)] := hl
  refine lv_aload_n hx hb dX1_init_0 rfl (lv_at hl 0 rfl) ?_
  refine W.objInit hx hb hown (hts (.methodLink RX1 3 objectInit) (List.mem_of_getElem? (i := 1) rfl)) (hts (.instanceMethod objectInit) (List.mem_of_getElem? (i := 2) rfl)) (hts _ (List.mem_of_getElem? (i := 3) rfl)) rfl (by rw [hml]; exact hl.1) rfl dX1_init_1 (Nat.le_of_ble_eq_true rfl) (Nat.le_of_ble_eq_true rfl) ?_
  refine W.eq (g2 := F0 m 4 ls []) rfl ?_
  refine lv_aload_n hx hb dX1_init_4 rfl (lv_at hl 0 rfl) ?_
  refine lv_bipush (v := 6) hx hb dX1_init_5 (by decide) ?_
  refine z_newT (N := 6) hx hb hown (hts (.classLink RX1 9 RX3) (List.mem_of_getElem? (i := 4) rfl)) hAO hK hP hD hS hA 1 rfl rfl (Nat.le_of_ble_eq_true rfl) (Nat.le_of_ble_eq_true rfl) (Nat.le_of_ble_eq_true rfl) dX1_init_7 (fun q1 H hP hD hS => ?_)
  have hP : va_P D vwCl ([(b, .inr (1, [.int 0, .int 0, .null])), (q1, .inl (g 1, 6, .inr (.inr (.inr (.inr (fun _ => none))))))]) H := hP
  have hD : va_D (zAc b sz) ([(b, .inr (1, [.int 0, .int 0, .null])), (q1, .inl (g 1, 6, .inr (.inr (.inr (.inr (fun _ => none))))))]) := hD
  refine va_putF (D := D) (ci := 1) (v := .ref q1) (ty := tyX1 2) (C := RX1) (T := TX1) (N := 3) hx hb hts hinX1 tyX1 tyX1_ok nmX1 hown hK.1 hP hD hS 0 rfl rfl 2 (by decide) (hts (.fieldLink RX1 11 "SaltShares$History" "towns" "[LSaltShares$Town;") (List.mem_of_getElem? (i := 5) rfl)) (fun _ h9 => h9) rfl hin2 rfl (tyX1_ok 2 (by decide)) rfl rfl (Nat.le_of_ble_eq_true rfl) dX1_init_10 (fun H locs hP hD hS => ?_)
  have hP : va_P D vwCl ([(b, .inr (1, [.int 0, .int 0, .ref q1])), (q1, .inl (g 1, 6, .inr (.inr (.inr (.inr (fun _ => none))))))]) H := hP
  have hD : va_D (zAc b sz) ([(b, .inr (1, [.int 0, .int 0, .ref q1])), (q1, .inl (g 1, 6, .inr (.inr (.inr (.inr (fun _ => none))))))]) := hD
  refine lv_iconst (v := 0) hx hb dX1_init_13 (by decide) ?_
  refine lv_istore_n (lv' := [(1, .int 0), (0, .ref b)]) hx hb dX1_init_14 rfl hl (by decide) rfl (fun ls hl => ?_)
  refine lv_iload_n hx hb dX1_init_15 rfl (lv_at hl 0 rfl) ?_
  refine lv_bipush (v := 6) hx hb dX1_init_16 (by decide) ?_
  refine lv_icmp_ge (tgt := 40) hx hb dX1_init_18 (by decide) (fun c9 => ?_) (fun c9 => ?_)
  · exact absurd c9 (by decide)
  refine lv_aload_n hx hb dX1_init_21 rfl (lv_at hl 1 rfl) ?_
  refine va_get (D := D) (ci := 1) (v := .ref q1) (C := RX1) (T := TX1) (N := 3) hx hb hts hinX1 hown hK.1 hP 0 rfl rfl 2 (by decide) (hts (.fieldLink RX1 11 "SaltShares$History" "towns" "[LSaltShares$Town;") (List.mem_of_getElem? (i := 5) rfl)) (fun _ h9 => h9) rfl dX1_init_22 ?_
  refine lv_iload_n hx hb dX1_init_25 rfl (lv_at hl 0 rfl) ?_
  refine va_new (ci := 3) (T := TX3) (N := 15) (fs := [.int 0, .int 0, .int 0, .int 0, .int 0, .null, .null, .null, .null, .null, .null, .null, .null, .null, .null]) hx hb hts (fun _ h9 => (List.mem_cons_of_mem _ (List.mem_append_right _ h9))) tyX3 tyX3_ok hown (hts (.classLink RX1 9 RX3) (List.mem_of_getElem? (i := 4) rfl)) (hts (.instantiable RX3 15) (List.mem_of_getElem? (i := 6) rfl)) (hts (.initialized RX3) (List.mem_of_getElem? (i := 7) rfl)) hK.1 hP hD hS hA rfl zdfX3 (Nat.le_of_ble_eq_true rfl) (Nat.le_of_ble_eq_true rfl) dX1_init_26 (fun n2 H hP hD hS => ?_)
  refine lv_dup hx hb dX1_init_29 rfl ?_
  refine zcC (wr := [(b, .inr (1, [.int 0, .int 0, .ref q1])), (q1, .inl (g 1, 6, .inr (.inr (.inr (.inr (fun _ => none))))))]) (c_X3_init l D g n2 H.size) hx hb hml hown hts gX1_init_X3_init rfl (List.mem_of_getElem? (i := 7) rfl) (List.mem_of_getElem? (i := 8) rfl) (List.mem_of_getElem? (i := 9) rfl) rfl ⟨by decide, by decide, by decide⟩ ⟨Nat.le_of_ble_eq_true rfl, Nat.le_of_ble_eq_true rfl⟩ ⟨rfl, rfl⟩ hK hAO hP hD hS hA hl.1 (Nat.le_of_ble_eq_true rfl) ⟨Nat.le_of_ble_eq_true rfl, Nat.le_of_ble_eq_true rfl⟩ dX1_init_30 (fun h3 H9 locs9 h9 hP9 hD9 hS9 => ?_)
  subst h9
  have hP := hP9; have hD := hD9; have hS := hS9
  clear hP9 hD9 hS9
  have hP : va_P D vwCl ([(b, .inr (1, [.int 0, .int 0, .ref q1])), (q1, .inl (g 1, 6, .inr (.inr (.inr (.inr (fun _ => none))))))] ++ zB_X3 (g 0) (h3 0) zT0) H9 := hP
  have hD : va_D (zAc b sz) ([(b, .inr (1, [.int 0, .int 0, .ref q1])), (q1, .inl (g 1, 6, .inr (.inr (.inr (.inr (fun _ => none))))))] ++ zB_X3 (g 0) (h3 0) zT0) := hD
  refine va_astq (i := 0) hx hb hK.1 hP hD hS 1 1 2 3 rfl rfl rfl rfl (vp_in_nI (n := 0) (N := 6) (by decide) (by decide)) dX1_init_33 (fun H locs hP hD hS => ?_)
  have hP : va_P D vwCl ([(b, .inr (1, [.int 0, .int 0, .ref q1])), (q1, .inl (g 1, 6, .inr (.inr (.inr (.inr (va_up (fun _ => none) 0 (some (h3 0 0))))))))] ++ zB_X3 (g 0) (h3 0) zT0) H := hP
  have hD : va_D (zAc b sz) ([(b, .inr (1, [.int 0, .int 0, .ref q1])), (q1, .inl (g 1, 6, .inr (.inr (.inr (.inr (va_up (fun _ => none) 0 (some (h3 0 0))))))))] ++ zB_X3 (g 0) (h3 0) zT0) := hD
  refine lv_iinc (v := 1) (lv' := [(1, .int 1), (0, .ref b)]) hx hb dX1_init_34 hl (k := 0) rfl (by decide) (by decide) rfl (fun ls hl => ?_)
  refine lv_goto (tgt := 15) hx hb dX1_init_37 (by decide) ?_
  refine lv_iload_n hx hb dX1_init_15 rfl (lv_at hl 0 rfl) ?_
  refine lv_bipush (v := 6) hx hb dX1_init_16 (by decide) ?_
  refine lv_icmp_ge (tgt := 40) hx hb dX1_init_18 (by decide) (fun c9 => ?_) (fun c9 => ?_)
  · exact absurd c9 (by decide)
  refine lv_aload_n hx hb dX1_init_21 rfl (lv_at hl 1 rfl) ?_
  refine va_get (D := D) (ci := 1) (v := .ref q1) (C := RX1) (T := TX1) (N := 3) hx hb hts hinX1 hown hK.1 hP 0 rfl rfl 2 (by decide) (hts (.fieldLink RX1 11 "SaltShares$History" "towns" "[LSaltShares$Town;") (List.mem_of_getElem? (i := 5) rfl)) (fun _ h9 => h9) rfl dX1_init_22 ?_
  refine lv_iload_n hx hb dX1_init_25 rfl (lv_at hl 0 rfl) ?_
  refine va_new (ci := 3) (T := TX3) (N := 15) (fs := [.int 0, .int 0, .int 0, .int 0, .int 0, .null, .null, .null, .null, .null, .null, .null, .null, .null, .null]) hx hb hts (fun _ h9 => (List.mem_cons_of_mem _ (List.mem_append_right _ h9))) tyX3 tyX3_ok hown (hts (.classLink RX1 9 RX3) (List.mem_of_getElem? (i := 4) rfl)) (hts (.instantiable RX3 15) (List.mem_of_getElem? (i := 6) rfl)) (hts (.initialized RX3) (List.mem_of_getElem? (i := 7) rfl)) hK.1 hP hD hS hA rfl zdfX3 (Nat.le_of_ble_eq_true rfl) (Nat.le_of_ble_eq_true rfl) dX1_init_26 (fun n4 H hP hD hS => ?_)
  refine lv_dup hx hb dX1_init_29 rfl ?_
  refine zcC (wr := [(b, .inr (1, [.int 0, .int 0, .ref q1])), (q1, .inl (g 1, 6, .inr (.inr (.inr (.inr (va_up (fun _ => none) 0 (some (h3 0 0))))))))] ++ zB_X3 (g 0) (h3 0) zT0) (c_X3_init l D g n4 H.size) hx hb hml hown hts gX1_init_X3_init rfl (List.mem_of_getElem? (i := 7) rfl) (List.mem_of_getElem? (i := 8) rfl) (List.mem_of_getElem? (i := 9) rfl) rfl ⟨by decide, by decide, by decide⟩ ⟨Nat.le_of_ble_eq_true rfl, Nat.le_of_ble_eq_true rfl⟩ ⟨rfl, rfl⟩ hK hAO hP hD hS hA hl.1 (Nat.le_of_ble_eq_true rfl) ⟨Nat.le_of_ble_eq_true rfl, Nat.le_of_ble_eq_true rfl⟩ dX1_init_30 (fun h5 H9 locs9 h9 hP9 hD9 hS9 => ?_)
  subst h9
  have hP := hP9; have hD := hD9; have hS := hS9
  clear hP9 hD9 hS9
  have hP : va_P D vwCl (([(b, .inr (1, [.int 0, .int 0, .ref q1])), (q1, .inl (g 1, 6, .inr (.inr (.inr (.inr (va_up (fun _ => none) 0 (some (h3 0 0))))))))] ++ zB_X3 (g 0) (h3 0) zT0) ++ zB_X3 (g 0) (h5 0) zT0) H9 := hP
  have hD : va_D (zAc b sz) (([(b, .inr (1, [.int 0, .int 0, .ref q1])), (q1, .inl (g 1, 6, .inr (.inr (.inr (.inr (va_up (fun _ => none) 0 (some (h3 0 0))))))))] ++ zB_X3 (g 0) (h3 0) zT0) ++ zB_X3 (g 0) (h5 0) zT0) := hD
  refine va_astq (i := 1) hx hb hK.1 hP hD hS 1 1 13 3 rfl rfl rfl rfl (vp_in_nI (n := 1) (N := 6) (by decide) (by decide)) dX1_init_33 (fun H locs hP hD hS => ?_)
  have hP : va_P D vwCl (([(b, .inr (1, [.int 0, .int 0, .ref q1])), (q1, .inl (g 1, 6, .inr (.inr (.inr (.inr (va_up (va_up (fun _ => none) 0 (some (h3 0 0))) 1 (some (h5 0 0))))))))] ++ zB_X3 (g 0) (h3 0) zT0) ++ zB_X3 (g 0) (h5 0) zT0) H := hP
  have hD : va_D (zAc b sz) (([(b, .inr (1, [.int 0, .int 0, .ref q1])), (q1, .inl (g 1, 6, .inr (.inr (.inr (.inr (va_up (va_up (fun _ => none) 0 (some (h3 0 0))) 1 (some (h5 0 0))))))))] ++ zB_X3 (g 0) (h3 0) zT0) ++ zB_X3 (g 0) (h5 0) zT0) := hD
  refine lv_iinc (v := 2) (lv' := [(1, .int 2), (0, .ref b)]) hx hb dX1_init_34 hl (k := 0) rfl (by decide) (by decide) rfl (fun ls hl => ?_)
  refine lv_goto (tgt := 15) hx hb dX1_init_37 (by decide) ?_
  refine lv_iload_n hx hb dX1_init_15 rfl (lv_at hl 0 rfl) ?_
  refine lv_bipush (v := 6) hx hb dX1_init_16 (by decide) ?_
  refine lv_icmp_ge (tgt := 40) hx hb dX1_init_18 (by decide) (fun c9 => ?_) (fun c9 => ?_)
  · exact absurd c9 (by decide)
  refine lv_aload_n hx hb dX1_init_21 rfl (lv_at hl 1 rfl) ?_
  refine va_get (D := D) (ci := 1) (v := .ref q1) (C := RX1) (T := TX1) (N := 3) hx hb hts hinX1 hown hK.1 hP 0 rfl rfl 2 (by decide) (hts (.fieldLink RX1 11 "SaltShares$History" "towns" "[LSaltShares$Town;") (List.mem_of_getElem? (i := 5) rfl)) (fun _ h9 => h9) rfl dX1_init_22 ?_
  refine lv_iload_n hx hb dX1_init_25 rfl (lv_at hl 0 rfl) ?_
  refine va_new (ci := 3) (T := TX3) (N := 15) (fs := [.int 0, .int 0, .int 0, .int 0, .int 0, .null, .null, .null, .null, .null, .null, .null, .null, .null, .null]) hx hb hts (fun _ h9 => (List.mem_cons_of_mem _ (List.mem_append_right _ h9))) tyX3 tyX3_ok hown (hts (.classLink RX1 9 RX3) (List.mem_of_getElem? (i := 4) rfl)) (hts (.instantiable RX3 15) (List.mem_of_getElem? (i := 6) rfl)) (hts (.initialized RX3) (List.mem_of_getElem? (i := 7) rfl)) hK.1 hP hD hS hA rfl zdfX3 (Nat.le_of_ble_eq_true rfl) (Nat.le_of_ble_eq_true rfl) dX1_init_26 (fun n6 H hP hD hS => ?_)
  refine lv_dup hx hb dX1_init_29 rfl ?_
  refine zcC (wr := ([(b, .inr (1, [.int 0, .int 0, .ref q1])), (q1, .inl (g 1, 6, .inr (.inr (.inr (.inr (va_up (va_up (fun _ => none) 0 (some (h3 0 0))) 1 (some (h5 0 0))))))))] ++ zB_X3 (g 0) (h3 0) zT0) ++ zB_X3 (g 0) (h5 0) zT0) (c_X3_init l D g n6 H.size) hx hb hml hown hts gX1_init_X3_init rfl (List.mem_of_getElem? (i := 7) rfl) (List.mem_of_getElem? (i := 8) rfl) (List.mem_of_getElem? (i := 9) rfl) rfl ⟨by decide, by decide, by decide⟩ ⟨Nat.le_of_ble_eq_true rfl, Nat.le_of_ble_eq_true rfl⟩ ⟨rfl, rfl⟩ hK hAO hP hD hS hA hl.1 (Nat.le_of_ble_eq_true rfl) ⟨Nat.le_of_ble_eq_true rfl, Nat.le_of_ble_eq_true rfl⟩ dX1_init_30 (fun h7 H9 locs9 h9 hP9 hD9 hS9 => ?_)
  subst h9
  have hP := hP9; have hD := hD9; have hS := hS9
  clear hP9 hD9 hS9
  have hP : va_P D vwCl ((([(b, .inr (1, [.int 0, .int 0, .ref q1])), (q1, .inl (g 1, 6, .inr (.inr (.inr (.inr (va_up (va_up (fun _ => none) 0 (some (h3 0 0))) 1 (some (h5 0 0))))))))] ++ zB_X3 (g 0) (h3 0) zT0) ++ zB_X3 (g 0) (h5 0) zT0) ++ zB_X3 (g 0) (h7 0) zT0) H9 := hP
  have hD : va_D (zAc b sz) ((([(b, .inr (1, [.int 0, .int 0, .ref q1])), (q1, .inl (g 1, 6, .inr (.inr (.inr (.inr (va_up (va_up (fun _ => none) 0 (some (h3 0 0))) 1 (some (h5 0 0))))))))] ++ zB_X3 (g 0) (h3 0) zT0) ++ zB_X3 (g 0) (h5 0) zT0) ++ zB_X3 (g 0) (h7 0) zT0) := hD
  refine va_astq (i := 2) hx hb hK.1 hP hD hS 1 1 24 3 rfl rfl rfl rfl (vp_in_nI (n := 2) (N := 6) (by decide) (by decide)) dX1_init_33 (fun H locs hP hD hS => ?_)
  have hP : va_P D vwCl ((([(b, .inr (1, [.int 0, .int 0, .ref q1])), (q1, .inl (g 1, 6, .inr (.inr (.inr (.inr (va_up (va_up (va_up (fun _ => none) 0 (some (h3 0 0))) 1 (some (h5 0 0))) 2 (some (h7 0 0))))))))] ++ zB_X3 (g 0) (h3 0) zT0) ++ zB_X3 (g 0) (h5 0) zT0) ++ zB_X3 (g 0) (h7 0) zT0) H := hP
  have hD : va_D (zAc b sz) ((([(b, .inr (1, [.int 0, .int 0, .ref q1])), (q1, .inl (g 1, 6, .inr (.inr (.inr (.inr (va_up (va_up (va_up (fun _ => none) 0 (some (h3 0 0))) 1 (some (h5 0 0))) 2 (some (h7 0 0))))))))] ++ zB_X3 (g 0) (h3 0) zT0) ++ zB_X3 (g 0) (h5 0) zT0) ++ zB_X3 (g 0) (h7 0) zT0) := hD
  refine lv_iinc (v := 3) (lv' := [(1, .int 3), (0, .ref b)]) hx hb dX1_init_34 hl (k := 0) rfl (by decide) (by decide) rfl (fun ls hl => ?_)
  refine lv_goto (tgt := 15) hx hb dX1_init_37 (by decide) ?_
  refine lv_iload_n hx hb dX1_init_15 rfl (lv_at hl 0 rfl) ?_
  refine lv_bipush (v := 6) hx hb dX1_init_16 (by decide) ?_
  refine lv_icmp_ge (tgt := 40) hx hb dX1_init_18 (by decide) (fun c9 => ?_) (fun c9 => ?_)
  · exact absurd c9 (by decide)
  refine lv_aload_n hx hb dX1_init_21 rfl (lv_at hl 1 rfl) ?_
  refine va_get (D := D) (ci := 1) (v := .ref q1) (C := RX1) (T := TX1) (N := 3) hx hb hts hinX1 hown hK.1 hP 0 rfl rfl 2 (by decide) (hts (.fieldLink RX1 11 "SaltShares$History" "towns" "[LSaltShares$Town;") (List.mem_of_getElem? (i := 5) rfl)) (fun _ h9 => h9) rfl dX1_init_22 ?_
  refine lv_iload_n hx hb dX1_init_25 rfl (lv_at hl 0 rfl) ?_
  refine va_new (ci := 3) (T := TX3) (N := 15) (fs := [.int 0, .int 0, .int 0, .int 0, .int 0, .null, .null, .null, .null, .null, .null, .null, .null, .null, .null]) hx hb hts (fun _ h9 => (List.mem_cons_of_mem _ (List.mem_append_right _ h9))) tyX3 tyX3_ok hown (hts (.classLink RX1 9 RX3) (List.mem_of_getElem? (i := 4) rfl)) (hts (.instantiable RX3 15) (List.mem_of_getElem? (i := 6) rfl)) (hts (.initialized RX3) (List.mem_of_getElem? (i := 7) rfl)) hK.1 hP hD hS hA rfl zdfX3 (Nat.le_of_ble_eq_true rfl) (Nat.le_of_ble_eq_true rfl) dX1_init_26 (fun n8 H hP hD hS => ?_)
  refine lv_dup hx hb dX1_init_29 rfl ?_
  refine zcC (wr := (([(b, .inr (1, [.int 0, .int 0, .ref q1])), (q1, .inl (g 1, 6, .inr (.inr (.inr (.inr (va_up (va_up (va_up (fun _ => none) 0 (some (h3 0 0))) 1 (some (h5 0 0))) 2 (some (h7 0 0))))))))] ++ zB_X3 (g 0) (h3 0) zT0) ++ zB_X3 (g 0) (h5 0) zT0) ++ zB_X3 (g 0) (h7 0) zT0) (c_X3_init l D g n8 H.size) hx hb hml hown hts gX1_init_X3_init rfl (List.mem_of_getElem? (i := 7) rfl) (List.mem_of_getElem? (i := 8) rfl) (List.mem_of_getElem? (i := 9) rfl) rfl ⟨by decide, by decide, by decide⟩ ⟨Nat.le_of_ble_eq_true rfl, Nat.le_of_ble_eq_true rfl⟩ ⟨rfl, rfl⟩ hK hAO hP hD hS hA hl.1 (Nat.le_of_ble_eq_true rfl) ⟨Nat.le_of_ble_eq_true rfl, Nat.le_of_ble_eq_true rfl⟩ dX1_init_30 (fun h9 H9 locs9 h9 hP9 hD9 hS9 => ?_)
  subst h9
  have hP := hP9; have hD := hD9; have hS := hS9
  clear hP9 hD9 hS9
  have hP : va_P D vwCl (((([(b, .inr (1, [.int 0, .int 0, .ref q1])), (q1, .inl (g 1, 6, .inr (.inr (.inr (.inr (va_up (va_up (va_up (fun _ => none) 0 (some (h3 0 0))) 1 (some (h5 0 0))) 2 (some (h7 0 0))))))))] ++ zB_X3 (g 0) (h3 0) zT0) ++ zB_X3 (g 0) (h5 0) zT0) ++ zB_X3 (g 0) (h7 0) zT0) ++ zB_X3 (g 0) (h9 0) zT0) H9 := hP
  have hD : va_D (zAc b sz) (((([(b, .inr (1, [.int 0, .int 0, .ref q1])), (q1, .inl (g 1, 6, .inr (.inr (.inr (.inr (va_up (va_up (va_up (fun _ => none) 0 (some (h3 0 0))) 1 (some (h5 0 0))) 2 (some (h7 0 0))))))))] ++ zB_X3 (g 0) (h3 0) zT0) ++ zB_X3 (g 0) (h5 0) zT0) ++ zB_X3 (g 0) (h7 0) zT0) ++ zB_X3 (g 0) (h9 0) zT0) := hD
  refine va_astq (i := 3) hx hb hK.1 hP hD hS 1 1 35 3 rfl rfl rfl rfl (vp_in_nI (n := 3) (N := 6) (by decide) (by decide)) dX1_init_33 (fun H locs hP hD hS => ?_)
  have hP : va_P D vwCl (((([(b, .inr (1, [.int 0, .int 0, .ref q1])), (q1, .inl (g 1, 6, .inr (.inr (.inr (.inr (va_up (va_up (va_up (va_up (fun _ => none) 0 (some (h3 0 0))) 1 (some (h5 0 0))) 2 (some (h7 0 0))) 3 (some (h9 0 0))))))))] ++ zB_X3 (g 0) (h3 0) zT0) ++ zB_X3 (g 0) (h5 0) zT0) ++ zB_X3 (g 0) (h7 0) zT0) ++ zB_X3 (g 0) (h9 0) zT0) H := hP
  have hD : va_D (zAc b sz) (((([(b, .inr (1, [.int 0, .int 0, .ref q1])), (q1, .inl (g 1, 6, .inr (.inr (.inr (.inr (va_up (va_up (va_up (va_up (fun _ => none) 0 (some (h3 0 0))) 1 (some (h5 0 0))) 2 (some (h7 0 0))) 3 (some (h9 0 0))))))))] ++ zB_X3 (g 0) (h3 0) zT0) ++ zB_X3 (g 0) (h5 0) zT0) ++ zB_X3 (g 0) (h7 0) zT0) ++ zB_X3 (g 0) (h9 0) zT0) := hD
  refine lv_iinc (v := 4) (lv' := [(1, .int 4), (0, .ref b)]) hx hb dX1_init_34 hl (k := 0) rfl (by decide) (by decide) rfl (fun ls hl => ?_)
  refine lv_goto (tgt := 15) hx hb dX1_init_37 (by decide) ?_
  refine lv_iload_n hx hb dX1_init_15 rfl (lv_at hl 0 rfl) ?_
  refine lv_bipush (v := 6) hx hb dX1_init_16 (by decide) ?_
  refine lv_icmp_ge (tgt := 40) hx hb dX1_init_18 (by decide) (fun c9 => ?_) (fun c9 => ?_)
  · exact absurd c9 (by decide)
  refine lv_aload_n hx hb dX1_init_21 rfl (lv_at hl 1 rfl) ?_
  refine va_get (D := D) (ci := 1) (v := .ref q1) (C := RX1) (T := TX1) (N := 3) hx hb hts hinX1 hown hK.1 hP 0 rfl rfl 2 (by decide) (hts (.fieldLink RX1 11 "SaltShares$History" "towns" "[LSaltShares$Town;") (List.mem_of_getElem? (i := 5) rfl)) (fun _ h9 => h9) rfl dX1_init_22 ?_
  refine lv_iload_n hx hb dX1_init_25 rfl (lv_at hl 0 rfl) ?_
  refine va_new (ci := 3) (T := TX3) (N := 15) (fs := [.int 0, .int 0, .int 0, .int 0, .int 0, .null, .null, .null, .null, .null, .null, .null, .null, .null, .null]) hx hb hts (fun _ h9 => (List.mem_cons_of_mem _ (List.mem_append_right _ h9))) tyX3 tyX3_ok hown (hts (.classLink RX1 9 RX3) (List.mem_of_getElem? (i := 4) rfl)) (hts (.instantiable RX3 15) (List.mem_of_getElem? (i := 6) rfl)) (hts (.initialized RX3) (List.mem_of_getElem? (i := 7) rfl)) hK.1 hP hD hS hA rfl zdfX3 (Nat.le_of_ble_eq_true rfl) (Nat.le_of_ble_eq_true rfl) dX1_init_26 (fun n10 H hP hD hS => ?_)
  refine lv_dup hx hb dX1_init_29 rfl ?_
  refine zcC (wr := ((([(b, .inr (1, [.int 0, .int 0, .ref q1])), (q1, .inl (g 1, 6, .inr (.inr (.inr (.inr (va_up (va_up (va_up (va_up (fun _ => none) 0 (some (h3 0 0))) 1 (some (h5 0 0))) 2 (some (h7 0 0))) 3 (some (h9 0 0))))))))] ++ zB_X3 (g 0) (h3 0) zT0) ++ zB_X3 (g 0) (h5 0) zT0) ++ zB_X3 (g 0) (h7 0) zT0) ++ zB_X3 (g 0) (h9 0) zT0) (c_X3_init l D g n10 H.size) hx hb hml hown hts gX1_init_X3_init rfl (List.mem_of_getElem? (i := 7) rfl) (List.mem_of_getElem? (i := 8) rfl) (List.mem_of_getElem? (i := 9) rfl) rfl ⟨by decide, by decide, by decide⟩ ⟨Nat.le_of_ble_eq_true rfl, Nat.le_of_ble_eq_true rfl⟩ ⟨rfl, rfl⟩ hK hAO hP hD hS hA hl.1 (Nat.le_of_ble_eq_true rfl) ⟨Nat.le_of_ble_eq_true rfl, Nat.le_of_ble_eq_true rfl⟩ dX1_init_30 (fun h11 H9 locs9 h9 hP9 hD9 hS9 => ?_)
  subst h9
  have hP := hP9; have hD := hD9; have hS := hS9
  clear hP9 hD9 hS9
  have hP : va_P D vwCl ((((([(b, .inr (1, [.int 0, .int 0, .ref q1])), (q1, .inl (g 1, 6, .inr (.inr (.inr (.inr (va_up (va_up (va_up (va_up (fun _ => none) 0 (some (h3 0 0))) 1 (some (h5 0 0))) 2 (some (h7 0 0))) 3 (some (h9 0 0))))))))] ++ zB_X3 (g 0) (h3 0) zT0) ++ zB_X3 (g 0) (h5 0) zT0) ++ zB_X3 (g 0) (h7 0) zT0) ++ zB_X3 (g 0) (h9 0) zT0) ++ zB_X3 (g 0) (h11 0) zT0) H9 := hP
  have hD : va_D (zAc b sz) ((((([(b, .inr (1, [.int 0, .int 0, .ref q1])), (q1, .inl (g 1, 6, .inr (.inr (.inr (.inr (va_up (va_up (va_up (va_up (fun _ => none) 0 (some (h3 0 0))) 1 (some (h5 0 0))) 2 (some (h7 0 0))) 3 (some (h9 0 0))))))))] ++ zB_X3 (g 0) (h3 0) zT0) ++ zB_X3 (g 0) (h5 0) zT0) ++ zB_X3 (g 0) (h7 0) zT0) ++ zB_X3 (g 0) (h9 0) zT0) ++ zB_X3 (g 0) (h11 0) zT0) := hD
  refine va_astq (i := 4) hx hb hK.1 hP hD hS 1 1 46 3 rfl rfl rfl rfl (vp_in_nI (n := 4) (N := 6) (by decide) (by decide)) dX1_init_33 (fun H locs hP hD hS => ?_)
  have hP : va_P D vwCl ((((([(b, .inr (1, [.int 0, .int 0, .ref q1])), (q1, .inl (g 1, 6, .inr (.inr (.inr (.inr (va_up (va_up (va_up (va_up (va_up (fun _ => none) 0 (some (h3 0 0))) 1 (some (h5 0 0))) 2 (some (h7 0 0))) 3 (some (h9 0 0))) 4 (some (h11 0 0))))))))] ++ zB_X3 (g 0) (h3 0) zT0) ++ zB_X3 (g 0) (h5 0) zT0) ++ zB_X3 (g 0) (h7 0) zT0) ++ zB_X3 (g 0) (h9 0) zT0) ++ zB_X3 (g 0) (h11 0) zT0) H := hP
  have hD : va_D (zAc b sz) ((((([(b, .inr (1, [.int 0, .int 0, .ref q1])), (q1, .inl (g 1, 6, .inr (.inr (.inr (.inr (va_up (va_up (va_up (va_up (va_up (fun _ => none) 0 (some (h3 0 0))) 1 (some (h5 0 0))) 2 (some (h7 0 0))) 3 (some (h9 0 0))) 4 (some (h11 0 0))))))))] ++ zB_X3 (g 0) (h3 0) zT0) ++ zB_X3 (g 0) (h5 0) zT0) ++ zB_X3 (g 0) (h7 0) zT0) ++ zB_X3 (g 0) (h9 0) zT0) ++ zB_X3 (g 0) (h11 0) zT0) := hD
  refine lv_iinc (v := 5) (lv' := [(1, .int 5), (0, .ref b)]) hx hb dX1_init_34 hl (k := 0) rfl (by decide) (by decide) rfl (fun ls hl => ?_)
  refine lv_goto (tgt := 15) hx hb dX1_init_37 (by decide) ?_
  refine lv_iload_n hx hb dX1_init_15 rfl (lv_at hl 0 rfl) ?_
  refine lv_bipush (v := 6) hx hb dX1_init_16 (by decide) ?_
  refine lv_icmp_ge (tgt := 40) hx hb dX1_init_18 (by decide) (fun c9 => ?_) (fun c9 => ?_)
  · exact absurd c9 (by decide)
  refine lv_aload_n hx hb dX1_init_21 rfl (lv_at hl 1 rfl) ?_
  refine va_get (D := D) (ci := 1) (v := .ref q1) (C := RX1) (T := TX1) (N := 3) hx hb hts hinX1 hown hK.1 hP 0 rfl rfl 2 (by decide) (hts (.fieldLink RX1 11 "SaltShares$History" "towns" "[LSaltShares$Town;") (List.mem_of_getElem? (i := 5) rfl)) (fun _ h9 => h9) rfl dX1_init_22 ?_
  refine lv_iload_n hx hb dX1_init_25 rfl (lv_at hl 0 rfl) ?_
  refine va_new (ci := 3) (T := TX3) (N := 15) (fs := [.int 0, .int 0, .int 0, .int 0, .int 0, .null, .null, .null, .null, .null, .null, .null, .null, .null, .null]) hx hb hts (fun _ h9 => (List.mem_cons_of_mem _ (List.mem_append_right _ h9))) tyX3 tyX3_ok hown (hts (.classLink RX1 9 RX3) (List.mem_of_getElem? (i := 4) rfl)) (hts (.instantiable RX3 15) (List.mem_of_getElem? (i := 6) rfl)) (hts (.initialized RX3) (List.mem_of_getElem? (i := 7) rfl)) hK.1 hP hD hS hA rfl zdfX3 (Nat.le_of_ble_eq_true rfl) (Nat.le_of_ble_eq_true rfl) dX1_init_26 (fun n12 H hP hD hS => ?_)
  refine lv_dup hx hb dX1_init_29 rfl ?_
  refine zcC (wr := (((([(b, .inr (1, [.int 0, .int 0, .ref q1])), (q1, .inl (g 1, 6, .inr (.inr (.inr (.inr (va_up (va_up (va_up (va_up (va_up (fun _ => none) 0 (some (h3 0 0))) 1 (some (h5 0 0))) 2 (some (h7 0 0))) 3 (some (h9 0 0))) 4 (some (h11 0 0))))))))] ++ zB_X3 (g 0) (h3 0) zT0) ++ zB_X3 (g 0) (h5 0) zT0) ++ zB_X3 (g 0) (h7 0) zT0) ++ zB_X3 (g 0) (h9 0) zT0) ++ zB_X3 (g 0) (h11 0) zT0) (c_X3_init l D g n12 H.size) hx hb hml hown hts gX1_init_X3_init rfl (List.mem_of_getElem? (i := 7) rfl) (List.mem_of_getElem? (i := 8) rfl) (List.mem_of_getElem? (i := 9) rfl) rfl ⟨by decide, by decide, by decide⟩ ⟨Nat.le_of_ble_eq_true rfl, Nat.le_of_ble_eq_true rfl⟩ ⟨rfl, rfl⟩ hK hAO hP hD hS hA hl.1 (Nat.le_of_ble_eq_true rfl) ⟨Nat.le_of_ble_eq_true rfl, Nat.le_of_ble_eq_true rfl⟩ dX1_init_30 (fun h13 H9 locs9 h9 hP9 hD9 hS9 => ?_)
  subst h9
  have hP := hP9; have hD := hD9; have hS := hS9
  clear hP9 hD9 hS9
  have hP : va_P D vwCl (((((([(b, .inr (1, [.int 0, .int 0, .ref q1])), (q1, .inl (g 1, 6, .inr (.inr (.inr (.inr (va_up (va_up (va_up (va_up (va_up (fun _ => none) 0 (some (h3 0 0))) 1 (some (h5 0 0))) 2 (some (h7 0 0))) 3 (some (h9 0 0))) 4 (some (h11 0 0))))))))] ++ zB_X3 (g 0) (h3 0) zT0) ++ zB_X3 (g 0) (h5 0) zT0) ++ zB_X3 (g 0) (h7 0) zT0) ++ zB_X3 (g 0) (h9 0) zT0) ++ zB_X3 (g 0) (h11 0) zT0) ++ zB_X3 (g 0) (h13 0) zT0) H9 := hP
  have hD : va_D (zAc b sz) (((((([(b, .inr (1, [.int 0, .int 0, .ref q1])), (q1, .inl (g 1, 6, .inr (.inr (.inr (.inr (va_up (va_up (va_up (va_up (va_up (fun _ => none) 0 (some (h3 0 0))) 1 (some (h5 0 0))) 2 (some (h7 0 0))) 3 (some (h9 0 0))) 4 (some (h11 0 0))))))))] ++ zB_X3 (g 0) (h3 0) zT0) ++ zB_X3 (g 0) (h5 0) zT0) ++ zB_X3 (g 0) (h7 0) zT0) ++ zB_X3 (g 0) (h9 0) zT0) ++ zB_X3 (g 0) (h11 0) zT0) ++ zB_X3 (g 0) (h13 0) zT0) := hD
  refine va_astq (i := 5) hx hb hK.1 hP hD hS 1 1 57 3 rfl rfl rfl rfl (vp_in_nI (n := 5) (N := 6) (by decide) (by decide)) dX1_init_33 (fun H locs hP hD hS => ?_)
  have hP : va_P D vwCl (((((([(b, .inr (1, [.int 0, .int 0, .ref q1])), (q1, .inl (g 1, 6, .inr (.inr (.inr (.inr (va_up (va_up (va_up (va_up (va_up (va_up (fun _ => none) 0 (some (h3 0 0))) 1 (some (h5 0 0))) 2 (some (h7 0 0))) 3 (some (h9 0 0))) 4 (some (h11 0 0))) 5 (some (h13 0 0))))))))] ++ zB_X3 (g 0) (h3 0) zT0) ++ zB_X3 (g 0) (h5 0) zT0) ++ zB_X3 (g 0) (h7 0) zT0) ++ zB_X3 (g 0) (h9 0) zT0) ++ zB_X3 (g 0) (h11 0) zT0) ++ zB_X3 (g 0) (h13 0) zT0) H := hP
  have hD : va_D (zAc b sz) (((((([(b, .inr (1, [.int 0, .int 0, .ref q1])), (q1, .inl (g 1, 6, .inr (.inr (.inr (.inr (va_up (va_up (va_up (va_up (va_up (va_up (fun _ => none) 0 (some (h3 0 0))) 1 (some (h5 0 0))) 2 (some (h7 0 0))) 3 (some (h9 0 0))) 4 (some (h11 0 0))) 5 (some (h13 0 0))))))))] ++ zB_X3 (g 0) (h3 0) zT0) ++ zB_X3 (g 0) (h5 0) zT0) ++ zB_X3 (g 0) (h7 0) zT0) ++ zB_X3 (g 0) (h9 0) zT0) ++ zB_X3 (g 0) (h11 0) zT0) ++ zB_X3 (g 0) (h13 0) zT0) := hD
  refine lv_iinc (v := 6) (lv' := [(1, .int 6), (0, .ref b)]) hx hb dX1_init_34 hl (k := 0) rfl (by decide) (by decide) rfl (fun ls hl => ?_)
  refine lv_goto (tgt := 15) hx hb dX1_init_37 (by decide) ?_
  refine lv_iload_n hx hb dX1_init_15 rfl (lv_at hl 0 rfl) ?_
  refine lv_bipush (v := 6) hx hb dX1_init_16 (by decide) ?_
  refine lv_icmp_ge (tgt := 40) hx hb dX1_init_18 (by decide) (fun c9 => ?_) (fun c9 => ?_)
  rotate_left
  · exact absurd (show (6 : Int32) ≤ 6 by decide) c9
  refine zretC (fun k => if k = 0 then zh [b, 0, 0, q1] else if k = 1 then h3 0 else if k = 2 then h5 0 else if k = 3 then h7 0 else if k = 4 then h9 0 else if k = 5 then h11 0 else h13 0) hx hb hr hlocks dX1_init_40 rfl ?_ ?_ hS hsz
  · have a := zP_mem.mp hP
    refine zP_mem.mpr (fun x hx9 => ?_)
    rcases List.mem_cons.mp hx9 with rfl | hx9
    · exact a _ (List.mem_append_left _ (List.mem_append_left _ (List.mem_append_left _ (List.mem_append_left _ (List.mem_append_left _ (List.mem_append_left _ List.mem_cons_self))))))
    rcases List.mem_cons.mp hx9 with rfl | hx9
    · exact zarrR (n := 6) (f := (va_up (va_up (va_up (va_up (va_up (va_up (fun _ => none) 0 (some (h3 0 0))) 1 (some (h5 0 0))) 2 (some (h7 0 0))) 3 (some (h9 0 0))) 4 (some (h11 0 0))) 5 (some (h13 0 0)))) (fun j hj => by rcases j with _ | _ | _ | _ | _ | _ | j <;> first | rfl | omega) (a _ (List.mem_append_left _ (List.mem_append_left _ (List.mem_append_left _ (List.mem_append_left _ (List.mem_append_left _ (List.mem_append_left _ (List.mem_cons_of_mem _ List.mem_cons_self))))))))
    · refine a _ ?_
      have hx9 : x ∈ zB_X3 (g 0) (h3 0) zT0 ++ (zB_X3 (g 0) (h5 0) zT0 ++ (zB_X3 (g 0) (h7 0) zT0 ++ (zB_X3 (g 0) (h9 0) zT0 ++ (zB_X3 (g 0) (h11 0) zT0 ++ (zB_X3 (g 0) (h13 0) zT0 ++ []))))) := hx9
      simp only [List.mem_append, List.append_nil, List.not_mem_nil, or_false] at hx9 ⊢
      rcases hx9 with q | q | q | q | q | q <;> simp only [q, true_or, or_true]
  · exact zD_addr hD (by simp only [zF, List.flatten_cons, List.flatten_nil, List.append_nil, List.map_append, List.map_cons, List.map_nil, List.append_assoc, zad_X1, zad_X3]; rfl)
