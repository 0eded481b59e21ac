def v_X1_save (Z : Nat → Nat → Int32) (T0 : Nat → Nat → Int32) (T1 : Nat → Nat → Int32) (T2 : Nat → Nat → Int32) (T3 : Nat → Nat → Int32) (T4 : Nat → Nat → Int32) (T5 : Nat → Nat → Int32) (T : Nat → Nat → Int32) : (Nat → Nat → Int32) × (Nat → Nat → Int32) × (Nat → Nat → Int32) × (Nat → Nat → Int32) × (Nat → Nat → Int32) × (Nat → Nat → Int32) × (Nat → Nat → Int32) := (if (Z 0 0) = 6 then (if v_X1_latestAfter (zU (zU Z 1 (fun _ => (nI ((Int32.toNatClampNeg (Z 1 0) + 1) % 6)))) 0 (fun _ => (nI ((Int32.toNatClampNeg (Z 0 0)) - 1)))) ((Int32.toNatClampNeg (Z 0 0)) - 1) = 0 then (zU (zU Z 1 (fun _ => (nI ((Int32.toNatClampNeg (Z 1 0) + 1) % 6)))) 0 (fun _ => (nI ((Int32.toNatClampNeg (Z 0 0)) - 1 + 1))), v_X3_copy T0 T, T1, T2, T3, T4, T5) else (if v_X1_latestAfter (zU (zU Z 1 (fun _ => (nI ((Int32.toNatClampNeg (Z 1 0) + 1) % 6)))) 0 (fun _ => (nI ((Int32.toNatClampNeg (Z 0 0)) - 1)))) ((Int32.toNatClampNeg (Z 0 0)) - 1) = 1 then (zU (zU Z 1 (fun _ => (nI ((Int32.toNatClampNeg (Z 1 0) + 1) % 6)))) 0 (fun _ => (nI ((Int32.toNatClampNeg (Z 0 0)) - 1 + 1))), T0, v_X3_copy T1 T, T2, T3, T4, T5) else (if v_X1_latestAfter (zU (zU Z 1 (fun _ => (nI ((Int32.toNatClampNeg (Z 1 0) + 1) % 6)))) 0 (fun _ => (nI ((Int32.toNatClampNeg (Z 0 0)) - 1)))) ((Int32.toNatClampNeg (Z 0 0)) - 1) = 2 then (zU (zU Z 1 (fun _ => (nI ((Int32.toNatClampNeg (Z 1 0) + 1) % 6)))) 0 (fun _ => (nI ((Int32.toNatClampNeg (Z 0 0)) - 1 + 1))), T0, T1, v_X3_copy T2 T, T3, T4, T5) else (if v_X1_latestAfter (zU (zU Z 1 (fun _ => (nI ((Int32.toNatClampNeg (Z 1 0) + 1) % 6)))) 0 (fun _ => (nI ((Int32.toNatClampNeg (Z 0 0)) - 1)))) ((Int32.toNatClampNeg (Z 0 0)) - 1) = 3 then (zU (zU Z 1 (fun _ => (nI ((Int32.toNatClampNeg (Z 1 0) + 1) % 6)))) 0 (fun _ => (nI ((Int32.toNatClampNeg (Z 0 0)) - 1 + 1))), T0, T1, T2, v_X3_copy T3 T, T4, T5) else (if v_X1_latestAfter (zU (zU Z 1 (fun _ => (nI ((Int32.toNatClampNeg (Z 1 0) + 1) % 6)))) 0 (fun _ => (nI ((Int32.toNatClampNeg (Z 0 0)) - 1)))) ((Int32.toNatClampNeg (Z 0 0)) - 1) = 4 then (zU (zU Z 1 (fun _ => (nI ((Int32.toNatClampNeg (Z 1 0) + 1) % 6)))) 0 (fun _ => (nI ((Int32.toNatClampNeg (Z 0 0)) - 1 + 1))), T0, T1, T2, T3, v_X3_copy T4 T, T5) else (zU (zU Z 1 (fun _ => (nI ((Int32.toNatClampNeg (Z 1 0) + 1) % 6)))) 0 (fun _ => (nI ((Int32.toNatClampNeg (Z 0 0)) - 1 + 1))), T0, T1, T2, T3, T4, v_X3_copy T5 T)))))) else (if v_X1_latestAfter Z (Int32.toNatClampNeg (Z 0 0)) = 0 then (zU Z 0 (fun _ => ((Z 0 0) + 1)), v_X3_copy T0 T, T1, T2, T3, T4, T5) else (if v_X1_latestAfter Z (Int32.toNatClampNeg (Z 0 0)) = 1 then (zU Z 0 (fun _ => ((Z 0 0) + 1)), T0, v_X3_copy T1 T, T2, T3, T4, T5) else (if v_X1_latestAfter Z (Int32.toNatClampNeg (Z 0 0)) = 2 then (zU Z 0 (fun _ => ((Z 0 0) + 1)), T0, T1, v_X3_copy T2 T, T3, T4, T5) else (if v_X1_latestAfter Z (Int32.toNatClampNeg (Z 0 0)) = 3 then (zU Z 0 (fun _ => ((Z 0 0) + 1)), T0, T1, T2, v_X3_copy T3 T, T4, T5) else (if v_X1_latestAfter Z (Int32.toNatClampNeg (Z 0 0)) = 4 then (zU Z 0 (fun _ => ((Z 0 0) + 1)), T0, T1, T2, T3, v_X3_copy T4 T, T5) else (zU Z 0 (fun _ => ((Z 0 0) + 1)), T0, T1, T2, T3, T4, v_X3_copy T5 T)))))))
set_option maxHeartbeats 400000 in
set_option maxRecDepth 100000 in
theorem c_X1_save (l : Launch) (D : va_G) (g : Nat → ClassId) (u : Nat → Nat) (t0 : Nat → Nat) (t1 : Nat → Nat) (t2 : Nat → Nat) (t3 : Nat → Nat) (t4 : Nat → Nat) (t5 : Nat → Nat) (h : Nat → Nat) (Z : Nat → Nat → Int32) (T0 : Nat → Nat → Int32) (T1 : Nat → Nat → Int32) (T2 : Nat → Nat → Int32) (T3 : Nat → Nat → Int32) (T4 : Nat → Nat → Int32) (T5 : Nat → Nat → Int32) (T : Nat → Nat → Int32) (z0 : vp_in (Z 0 0) 7) (z1 : vp_in (Z 1 0) 6) : Wr l D (zT g) yX1_save wsX1_save (rmOf 2 39) [.ref (u 0), .ref (h 0)] (zF [zB_X1 (g 1) u t0 t1 t2 t3 t4 t5 Z, zB_X3 (g 0) t0 T0, zB_X3 (g 0) t1 T1, zB_X3 (g 0) t2 T2, zB_X3 (g 0) t3 T3, zB_X3 (g 0) t4 T4, zB_X3 (g 0) t5 T5, zB_X3 (g 0) h T]) (none) (zF [zB_X1 (g 1) u t0 t1 t2 t3 t4 t5 ((v_X1_save Z T0 T1 T2 T3 T4 T5 T).1), zB_X3 (g 0) t0 ((v_X1_save Z T0 T1 T2 T3 T4 T5 T).2.1), zB_X3 (g 0) t1 ((v_X1_save Z T0 T1 T2 T3 T4 T5 T).2.2.1), zB_X3 (g 0) t2 ((v_X1_save Z T0 T1 T2 T3 T4 T5 T).2.2.2.1), zB_X3 (g 0) t3 ((v_X1_save Z T0 T1 T2 T3 T4 T5 T).2.2.2.2.1), zB_X3 (g 0) t4 ((v_X1_save Z T0 T1 T2 T3 T4 T5 T).2.2.2.2.2.1), zB_X3 (g 0) t5 ((v_X1_save Z T0 T1 T2 T3 T4 T5 T).2.2.2.2.2.2), zB_X3 (g 0) h T]) := by
  refine Wr.of (cc := cX1_save) (maxL := 3) (ret := none) (by decide) rfl (Nat.le_of_ble_eq_true rfl) ?_
  intro p e s m below meth c ls hx hb hr hml hown hts hlocks hP hD hS hK hl
  have hown : s.vm.findClass RX1 = some m.cls := hown
  have hinX1 : ∀ w ∈ u_ws RX1 TX1 3, w ∈ wsX1_save := fun _ h9 => (List.mem_cons_of_mem _ (List.mem_append_left _ (List.mem_append_right _ h9)))
  obtain ⟨q, hq⟩ : ∃ q : (Nat → Nat → Int32) × (Nat → Nat → Int32) × (Nat → Nat → Int32) × (Nat → Nat → Int32) × (Nat → Nat → Int32) × (Nat → Nat → Int32) × (Nat → Nat → Int32), q = v_X1_save Z T0 T1 T2 T3 T4 T5 T := ⟨_, rfl⟩
  rw [← hq]
  unfold v_X1_save at hq
  have hl : lv_has ls 3 [(0, .ref (u 0)), (1, .ref (h 0))] := hl
  refine lv_aload_n hx hb dX1_save_0 rfl (lv_at hl 0 rfl) ?_
  refine va_get (D := D) (ci := 1) (v := .int (Z 0 0)) (C := RX1) (T := TX1) (N := 3) hx hb hts hinX1 hown hK.1 hP 0 rfl rfl 0 (by decide) (hts (.fieldLink RX1 18 "SaltShares$History" "size" "I") (List.mem_of_getElem? (i := 1) rfl)) (fun _ h9 => h9) rfl dX1_save_1 ?_
  refine lv_bipush (v := 6) hx hb dX1_save_4 (by decide) ?_
  refine lv_icmp_ne (tgt := 32) hx hb dX1_save_6 (by decide) (fun c_1 => ?_) (fun c_1 => ?_)
  · have c_1 : ¬ ((Z 0 0) = 6) := c_1
    have hq := hq.trans (if_neg c_1)
    refine lv_aload_n hx hb dX1_save_32 rfl (lv_at hl 0 rfl) ?_
    refine lv_aload_n hx hb dX1_save_33 rfl (lv_at hl 0 rfl) ?_
    refine va_get (D := D) (ci := 1) (v := .int (Z 0 0)) (C := RX1) (T := TX1) (N := 3) hx hb hts hinX1 hown hK.1 hP 0 rfl rfl 0 (by decide) (hts (.fieldLink RX1 18 "SaltShares$History" "size" "I") (List.mem_of_getElem? (i := 1) rfl)) (fun _ h9 => h9) rfl dX1_save_34 ?_
    have w_2 := znat (zst6 z0 (by with_reducible assumption))
    have w_2b := w_2.2
    refine lv_is w_2.1 ?_
    refine zcV (ci := 1) (n := 1) (c_X1_latestAfter l D g u t0 t1 t2 t3 t4 t5 Z (Int32.toNatClampNeg (Z 0 0)) (by omega) (by first | with_reducible exact z1 | (rw [zU_n _ _ (by decide), zU_s]; exact vp_in_nI (Nat.mod_lt _ (by decide)) (by decide)))) hx hb hml hown hts gX1_save_X1_latestAfter rfl ⟨rfl, by decide, by decide, by decide⟩ ⟨Nat.le_of_ble_eq_true rfl, Nat.le_of_ble_eq_true rfl⟩ ⟨rfl, rfl⟩ hK (zsubB (cs := [zB_X1 (g 1) u t0 t1 t2 t3 t4 t5 Z]) hP [0] rfl (zF1 _)) rfl rfl rfl hl.1 rfl rfl (Nat.le_of_ble_eq_true rfl) ⟨Nat.zero_le _, Nat.zero_le _⟩ dX1_save_37 ?_
    refine lv_astore_n (lv' := [(2, .ref (zsel6 (v_X1_latestAfter Z (Int32.toNatClampNeg (Z 0 0))) t0 t1 t2 t3 t4 t5 0)), (0, .ref (u 0)), (1, .ref (h 0))]) hx hb dX1_save_40 rfl hl (by decide) rfl (fun ls hl => ?_)
    have j6 : v_X1_latestAfter Z (Int32.toNatClampNeg (Z 0 0)) < 6 := v_X1_latestAfter_lt _ _
    by_cases j_4 : v_X1_latestAfter Z (Int32.toNatClampNeg (Z 0 0)) = 0
    · have hq := hq.trans (if_pos j_4)
      have hl : lv_has ls 3 [(2, .ref (t0 0)), (0, .ref (u 0)), (1, .ref (h 0))] := by rw [j_4] at hl; exact hl
      refine lv_aload_n hx hb dX1_save_41 rfl (lv_at hl 0 rfl) ?_
      refine lv_ifnull hx hb dX1_save_42 ?_
      refine lv_aload_n hx hb dX1_save_45 rfl (lv_at hl 0 rfl) ?_
      refine lv_aload_n hx hb dX1_save_46 rfl (lv_at hl 2 rfl) ?_
      refine zcVw (ci := 3) (n := 1) (c_X3_copy l D g t0 h T0 T) hx hb hml hown hts gX1_save_X3_copyFrom rfl ⟨rfl, by decide, by decide, by decide⟩ ⟨Nat.le_of_ble_eq_true rfl, Nat.le_of_ble_eq_true rfl⟩ ⟨rfl, rfl⟩ hK (zsubB (cs := [zB_X3 (g 0) t0 T0, zB_X3 (g 0) h T]) hP [1, 7] rfl (zF2 _ _)) (zDsubB (cs := [zB_X3 (g 0) t0 T0, zB_X3 (g 0) h T]) hD [1, 7] (by decide) rfl (zF2 _ _)) rfl rfl rfl hS hl.1 rfl rfl (Nat.le_of_ble_eq_true rfl) ⟨Nat.zero_le _, Nat.zero_le _⟩ dX1_save_47 (fun H1 locs hP1 hk1 hS => ?_)
      obtain ⟨hP, hD⟩ := zjoinB (cs := [zB_X3 (g 0) t0 T0, zB_X3 (g 0) h T]) (cs' := [zB_X3 (g 0) t0 (v_X3_copy T0 T), zB_X3 (g 0) h T]) hP hD [1, 7] (by decide) rfl rfl (zF2 _ _) (zF2 _ _) hk1 hP1
      clear hP1 hk1
      have hP : va_P D vwCl (zF [zB_X1 (g 1) u t0 t1 t2 t3 t4 t5 Z, zB_X3 (g 0) t0 (v_X3_copy T0 T), zB_X3 (g 0) t1 T1, zB_X3 (g 0) t2 T2, zB_X3 (g 0) t3 T3, zB_X3 (g 0) t4 T4, zB_X3 (g 0) t5 T5, zB_X3 (g 0) h T]) H1 := hP
      have hD : va_D (zA (zF [zB_X1 (g 1) u t0 t1 t2 t3 t4 t5 Z, zB_X3 (g 0) t0 T0, zB_X3 (g 0) t1 T1, zB_X3 (g 0) t2 T2, zB_X3 (g 0) t3 T3, zB_X3 (g 0) t4 T4, zB_X3 (g 0) t5 T5, zB_X3 (g 0) h T])) (zF [zB_X1 (g 1) u t0 t1 t2 t3 t4 t5 Z, zB_X3 (g 0) t0 (v_X3_copy T0 T), zB_X3 (g 0) t1 T1, zB_X3 (g 0) t2 T2, zB_X3 (g 0) t3 T3, zB_X3 (g 0) t4 T4, zB_X3 (g 0) t5 T5, zB_X3 (g 0) h T]) := hD
      refine lv_aload_n hx hb dX1_save_50 rfl (lv_at hl 1 rfl) ?_
      refine lv_dup hx hb dX1_save_51 rfl ?_
      refine va_get (D := D) (ci := 1) (v := .int (Z 0 0)) (C := RX1) (T := TX1) (N := 3) hx hb hts hinX1 hown hK.1 hP 0 rfl rfl 0 (by decide) (hts (.fieldLink RX1 18 "SaltShares$History" "size" "I") (List.mem_of_getElem? (i := 1) rfl)) (fun _ h9 => h9) rfl dX1_save_52 ?_
      refine lv_iconst (v := 1) hx hb dX1_save_55 (by decide) ?_
      refine lv_iadd hx hb dX1_save_56 ?_
      refine va_put (D := D) (ci := 1) (v := .int ((Z 0 0) + 1)) (ty := .int) (C := RX1) (T := TX1) (N := 3) hx hb hts hinX1 tyX1 tyX1_ok nmX1 hown hK.1 hP hD hS 0 rfl rfl 0 (by decide) (hts (.fieldLink RX1 18 "SaltShares$History" "size" "I") (List.mem_of_getElem? (i := 1) rfl)) (fun _ h9 => h9) rfl (by decide +kernel) rfl rfl (Nat.le_of_ble_eq_true rfl) dX1_save_57 (fun H locs hP hD hS => ?_)
      have hP : va_P D vwCl (zF [zB_X1 (g 1) u t0 t1 t2 t3 t4 t5 (zU Z 0 (fun _ => ((Z 0 0) + 1))), zB_X3 (g 0) t0 (v_X3_copy T0 T), zB_X3 (g 0) t1 T1, zB_X3 (g 0) t2 T2, zB_X3 (g 0) t3 T3, zB_X3 (g 0) t4 T4, zB_X3 (g 0) t5 T5, zB_X3 (g 0) h T]) H := hP
      have hD : va_D (zA (zF [zB_X1 (g 1) u t0 t1 t2 t3 t4 t5 Z, zB_X3 (g 0) t0 T0, zB_X3 (g 0) t1 T1, zB_X3 (g 0) t2 T2, zB_X3 (g 0) t3 T3, zB_X3 (g 0) t4 T4, zB_X3 (g 0) t5 T5, zB_X3 (g 0) h T])) (zF [zB_X1 (g 1) u t0 t1 t2 t3 t4 t5 (zU Z 0 (fun _ => ((Z 0 0) + 1))), zB_X3 (g 0) t0 (v_X3_copy T0 T), zB_X3 (g 0) t1 T1, zB_X3 (g 0) t2 T2, zB_X3 (g 0) t3 T3, zB_X3 (g 0) t4 T4, zB_X3 (g 0) t5 T5, zB_X3 (g 0) h T]) := hD
      exact zretw_v hx hb hr hlocks dX1_save_60 hP hS (congrArg (fun z9 => zF [zB_X1 (g 1) u t0 t1 t2 t3 t4 t5 z9.1, zB_X3 (g 0) t0 z9.2.1, zB_X3 (g 0) t1 z9.2.2.1, zB_X3 (g 0) t2 z9.2.2.2.1, zB_X3 (g 0) t3 z9.2.2.2.2.1, zB_X3 (g 0) t4 z9.2.2.2.2.2.1, zB_X3 (g 0) t5 z9.2.2.2.2.2.2, zB_X3 (g 0) h T]) hq)
    · have hq := hq.trans (if_neg j_4)
      by_cases j_6 : v_X1_latestAfter Z (Int32.toNatClampNeg (Z 0 0)) = 1
      · have hq := hq.trans (if_pos j_6)
        have hl : lv_has ls 3 [(2, .ref (t1 0)), (0, .ref (u 0)), (1, .ref (h 0))] := by rw [j_6] at hl; exact hl
        refine lv_aload_n hx hb dX1_save_41 rfl (lv_at hl 0 rfl) ?_
        refine lv_ifnull hx hb dX1_save_42 ?_
        refine lv_aload_n hx hb dX1_save_45 rfl (lv_at hl 0 rfl) ?_
        refine lv_aload_n hx hb dX1_save_46 rfl (lv_at hl 2 rfl) ?_
        refine zcVw (ci := 3) (n := 1) (c_X3_copy l D g t1 h T1 T) hx hb hml hown hts gX1_save_X3_copyFrom rfl ⟨rfl, by decide, by decide, by decide⟩ ⟨Nat.le_of_ble_eq_true rfl, Nat.le_of_ble_eq_true rfl⟩ ⟨rfl, rfl⟩ hK (zsubB (cs := [zB_X3 (g 0) t1 T1, zB_X3 (g 0) h T]) hP [2, 7] rfl (zF2 _ _)) (zDsubB (cs := [zB_X3 (g 0) t1 T1, zB_X3 (g 0) h T]) hD [2, 7] (by decide) rfl (zF2 _ _)) rfl rfl rfl hS hl.1 rfl rfl (Nat.le_of_ble_eq_true rfl) ⟨Nat.zero_le _, Nat.zero_le _⟩ dX1_save_47 (fun H1 locs hP1 hk1 hS => ?_)
        obtain ⟨hP, hD⟩ := zjoinB (cs := [zB_X3 (g 0) t1 T1, zB_X3 (g 0) h T]) (cs' := [zB_X3 (g 0) t1 (v_X3_copy T1 T), zB_X3 (g 0) h T]) hP hD [2, 7] (by decide) rfl rfl (zF2 _ _) (zF2 _ _) hk1 hP1
        clear hP1 hk1
        have hP : va_P D vwCl (zF [zB_X1 (g 1) u t0 t1 t2 t3 t4 t5 Z, zB_X3 (g 0) t0 T0, zB_X3 (g 0) t1 (v_X3_copy T1 T), zB_X3 (g 0) t2 T2, zB_X3 (g 0) t3 T3, zB_X3 (g 0) t4 T4, zB_X3 (g 0) t5 T5, zB_X3 (g 0) h T]) H1 := hP
        have hD : va_D (zA (zF [zB_X1 (g 1) u t0 t1 t2 t3 t4 t5 Z, zB_X3 (g 0) t0 T0, zB_X3 (g 0) t1 T1, zB_X3 (g 0) t2 T2, zB_X3 (g 0) t3 T3, zB_X3 (g 0) t4 T4, zB_X3 (g 0) t5 T5, zB_X3 (g 0) h T])) (zF [zB_X1 (g 1) u t0 t1 t2 t3 t4 t5 Z, zB_X3 (g 0) t0 T0, zB_X3 (g 0) t1 (v_X3_copy T1 T), zB_X3 (g 0) t2 T2, zB_X3 (g 0) t3 T3, zB_X3 (g 0) t4 T4, zB_X3 (g 0) t5 T5, zB_X3 (g 0) h T]) := hD
        refine lv_aload_n hx hb dX1_save_50 rfl (lv_at hl 1 rfl) ?_
        refine lv_dup hx hb dX1_save_51 rfl ?_
        refine va_get (D := D) (ci := 1) (v := .int (Z 0 0)) (C := RX1) (T := TX1) (N := 3) hx hb hts hinX1 hown hK.1 hP 0 rfl rfl 0 (by decide) (hts (.fieldLink RX1 18 "SaltShares$History" "size" "I") (List.mem_of_getElem? (i := 1) rfl)) (fun _ h9 => h9) rfl dX1_save_52 ?_
        refine lv_iconst (v := 1) hx hb dX1_save_55 (by decide) ?_
        refine lv_iadd hx hb dX1_save_56 ?_
        refine va_put (D := D) (ci := 1) (v := .int ((Z 0 0) + 1)) (ty := .int) (C := RX1) (T := TX1) (N := 3) hx hb hts hinX1 tyX1 tyX1_ok nmX1 hown hK.1 hP hD hS 0 rfl rfl 0 (by decide) (hts (.fieldLink RX1 18 "SaltShares$History" "size" "I") (List.mem_of_getElem? (i := 1) rfl)) (fun _ h9 => h9) rfl (by decide +kernel) rfl rfl (Nat.le_of_ble_eq_true rfl) dX1_save_57 (fun H locs hP hD hS => ?_)
        have hP : va_P D vwCl (zF [zB_X1 (g 1) u t0 t1 t2 t3 t4 t5 (zU Z 0 (fun _ => ((Z 0 0) + 1))), zB_X3 (g 0) t0 T0, zB_X3 (g 0) t1 (v_X3_copy T1 T), zB_X3 (g 0) t2 T2, zB_X3 (g 0) t3 T3, zB_X3 (g 0) t4 T4, zB_X3 (g 0) t5 T5, zB_X3 (g 0) h T]) H := hP
        have hD : va_D (zA (zF [zB_X1 (g 1) u t0 t1 t2 t3 t4 t5 Z, zB_X3 (g 0) t0 T0, zB_X3 (g 0) t1 T1, zB_X3 (g 0) t2 T2, zB_X3 (g 0) t3 T3, zB_X3 (g 0) t4 T4, zB_X3 (g 0) t5 T5, zB_X3 (g 0) h T])) (zF [zB_X1 (g 1) u t0 t1 t2 t3 t4 t5 (zU Z 0 (fun _ => ((Z 0 0) + 1))), zB_X3 (g 0) t0 T0, zB_X3 (g 0) t1 (v_X3_copy T1 T), zB_X3 (g 0) t2 T2, zB_X3 (g 0) t3 T3, zB_X3 (g 0) t4 T4, zB_X3 (g 0) t5 T5, zB_X3 (g 0) h T]) := hD
        exact zretw_v hx hb hr hlocks dX1_save_60 hP hS (congrArg (fun z9 => zF [zB_X1 (g 1) u t0 t1 t2 t3 t4 t5 z9.1, zB_X3 (g 0) t0 z9.2.1, zB_X3 (g 0) t1 z9.2.2.1, zB_X3 (g 0) t2 z9.2.2.2.1, zB_X3 (g 0) t3 z9.2.2.2.2.1, zB_X3 (g 0) t4 z9.2.2.2.2.2.1, zB_X3 (g 0) t5 z9.2.2.2.2.2.2, zB_X3 (g 0) h T]) hq)
      · have hq := hq.trans (if_neg j_6)
        by_cases j_8 : v_X1_latestAfter Z (Int32.toNatClampNeg (Z 0 0)) = 2
        · have hq := hq.trans (if_pos j_8)
          have hl : lv_has ls 3 [(2, .ref (t2 0)), (0, .ref (u 0)), (1, .ref (h 0))] := by rw [j_8] at hl; exact hl
          refine lv_aload_n hx hb dX1_save_41 rfl (lv_at hl 0 rfl) ?_
          refine lv_ifnull hx hb dX1_save_42 ?_
          refine lv_aload_n hx hb dX1_save_45 rfl (lv_at hl 0 rfl) ?_
          refine lv_aload_n hx hb dX1_save_46 rfl (lv_at hl 2 rfl) ?_
          refine zcVw (ci := 3) (n := 1) (c_X3_copy l D g t2 h T2 T) hx hb hml hown hts gX1_save_X3_copyFrom rfl ⟨rfl, by decide, by decide, by decide⟩ ⟨Nat.le_of_ble_eq_true rfl, Nat.le_of_ble_eq_true rfl⟩ ⟨rfl, rfl⟩ hK (zsubB (cs := [zB_X3 (g 0) t2 T2, zB_X3 (g 0) h T]) hP [3, 7] rfl (zF2 _ _)) (zDsubB (cs := [zB_X3 (g 0) t2 T2, zB_X3 (g 0) h T]) hD [3, 7] (by decide) rfl (zF2 _ _)) rfl rfl rfl hS hl.1 rfl rfl (Nat.le_of_ble_eq_true rfl) ⟨Nat.zero_le _, Nat.zero_le _⟩ dX1_save_47 (fun H1 locs hP1 hk1 hS => ?_)
          obtain ⟨hP, hD⟩ := zjoinB (cs := [zB_X3 (g 0) t2 T2, zB_X3 (g 0) h T]) (cs' := [zB_X3 (g 0) t2 (v_X3_copy T2 T), zB_X3 (g 0) h T]) hP hD [3, 7] (by decide) rfl rfl (zF2 _ _) (zF2 _ _) hk1 hP1
          clear hP1 hk1
          have hP : va_P D vwCl (zF [zB_X1 (g 1) u t0 t1 t2 t3 t4 t5 Z, zB_X3 (g 0) t0 T0, zB_X3 (g 0) t1 T1, zB_X3 (g 0) t2 (v_X3_copy T2 T), zB_X3 (g 0) t3 T3, zB_X3 (g 0) t4 T4, zB_X3 (g 0) t5 T5, zB_X3 (g 0) h T]) H1 := hP
          have hD : va_D (zA (zF [zB_X1 (g 1) u t0 t1 t2 t3 t4 t5 Z, zB_X3 (g 0) t0 T0, zB_X3 (g 0) t1 T1, zB_X3 (g 0) t2 T2, zB_X3 (g 0) t3 T3, zB_X3 (g 0) t4 T4, zB_X3 (g 0) t5 T5, zB_X3 (g 0) h T])) (zF [zB_X1 (g 1) u t0 t1 t2 t3 t4 t5 Z, zB_X3 (g 0) t0 T0, zB_X3 (g 0) t1 T1, zB_X3 (g 0) t2 (v_X3_copy T2 T), zB_X3 (g 0) t3 T3, zB_X3 (g 0) t4 T4, zB_X3 (g 0) t5 T5, zB_X3 (g 0) h T]) := hD
          refine lv_aload_n hx hb dX1_save_50 rfl (lv_at hl 1 rfl) ?_
          refine lv_dup hx hb dX1_save_51 rfl ?_
          refine va_get (D := D) (ci := 1) (v := .int (Z 0 0)) (C := RX1) (T := TX1) (N := 3) hx hb hts hinX1 hown hK.1 hP 0 rfl rfl 0 (by decide) (hts (.fieldLink RX1 18 "SaltShares$History" "size" "I") (List.mem_of_getElem? (i := 1) rfl)) (fun _ h9 => h9) rfl dX1_save_52 ?_
          refine lv_iconst (v := 1) hx hb dX1_save_55 (by decide) ?_
          refine lv_iadd hx hb dX1_save_56 ?_
          refine va_put (D := D) (ci := 1) (v := .int ((Z 0 0) + 1)) (ty := .int) (C := RX1) (T := TX1) (N := 3) hx hb hts hinX1 tyX1 tyX1_ok nmX1 hown hK.1 hP hD hS 0 rfl rfl 0 (by decide) (hts (.fieldLink RX1 18 "SaltShares$History" "size" "I") (List.mem_of_getElem? (i := 1) rfl)) (fun _ h9 => h9) rfl (by decide +kernel) rfl rfl (Nat.le_of_ble_eq_true rfl) dX1_save_57 (fun H locs hP hD hS => ?_)
          have hP : va_P D vwCl (zF [zB_X1 (g 1) u t0 t1 t2 t3 t4 t5 (zU Z 0 (fun _ => ((Z 0 0) + 1))), zB_X3 (g 0) t0 T0, zB_X3 (g 0) t1 T1, zB_X3 (g 0) t2 (v_X3_copy T2 T), zB_X3 (g 0) t3 T3, zB_X3 (g 0) t4 T4, zB_X3 (g 0) t5 T5, zB_X3 (g 0) h T]) H := hP
          have hD : va_D (zA (zF [zB_X1 (g 1) u t0 t1 t2 t3 t4 t5 Z, zB_X3 (g 0) t0 T0, zB_X3 (g 0) t1 T1, zB_X3 (g 0) t2 T2, zB_X3 (g 0) t3 T3, zB_X3 (g 0) t4 T4, zB_X3 (g 0) t5 T5, zB_X3 (g 0) h T])) (zF [zB_X1 (g 1) u t0 t1 t2 t3 t4 t5 (zU Z 0 (fun _ => ((Z 0 0) + 1))), zB_X3 (g 0) t0 T0, zB_X3 (g 0) t1 T1, zB_X3 (g 0) t2 (v_X3_copy T2 T), zB_X3 (g 0) t3 T3, zB_X3 (g 0) t4 T4, zB_X3 (g 0) t5 T5, zB_X3 (g 0) h T]) := hD
          exact zretw_v hx hb hr hlocks dX1_save_60 hP hS (congrArg (fun z9 => zF [zB_X1 (g 1) u t0 t1 t2 t3 t4 t5 z9.1, zB_X3 (g 0) t0 z9.2.1, zB_X3 (g 0) t1 z9.2.2.1, zB_X3 (g 0) t2 z9.2.2.2.1, zB_X3 (g 0) t3 z9.2.2.2.2.1, zB_X3 (g 0) t4 z9.2.2.2.2.2.1, zB_X3 (g 0) t5 z9.2.2.2.2.2.2, zB_X3 (g 0) h T]) hq)
        · have hq := hq.trans (if_neg j_8)
          by_cases j_10 : v_X1_latestAfter Z (Int32.toNatClampNeg (Z 0 0)) = 3
          · have hq := hq.trans (if_pos j_10)
            have hl : lv_has ls 3 [(2, .ref (t3 0)), (0, .ref (u 0)), (1, .ref (h 0))] := by rw [j_10] at hl; exact hl
            refine lv_aload_n hx hb dX1_save_41 rfl (lv_at hl 0 rfl) ?_
            refine lv_ifnull hx hb dX1_save_42 ?_
            refine lv_aload_n hx hb dX1_save_45 rfl (lv_at hl 0 rfl) ?_
            refine lv_aload_n hx hb dX1_save_46 rfl (lv_at hl 2 rfl) ?_
            refine zcVw (ci := 3) (n := 1) (c_X3_copy l D g t3 h T3 T) hx hb hml hown hts gX1_save_X3_copyFrom rfl ⟨rfl, by decide, by decide, by decide⟩ ⟨Nat.le_of_ble_eq_true rfl, Nat.le_of_ble_eq_true rfl⟩ ⟨rfl, rfl⟩ hK (zsubB (cs := [zB_X3 (g 0) t3 T3, zB_X3 (g 0) h T]) hP [4, 7] rfl (zF2 _ _)) (zDsubB (cs := [zB_X3 (g 0) t3 T3, zB_X3 (g 0) h T]) hD [4, 7] (by decide) rfl (zF2 _ _)) rfl rfl rfl hS hl.1 rfl rfl (Nat.le_of_ble_eq_true rfl) ⟨Nat.zero_le _, Nat.zero_le _⟩ dX1_save_47 (fun H1 locs hP1 hk1 hS => ?_)
            obtain ⟨hP, hD⟩ := zjoinB (cs := [zB_X3 (g 0) t3 T3, zB_X3 (g 0) h T]) (cs' := [zB_X3 (g 0) t3 (v_X3_copy T3 T), zB_X3 (g 0) h T]) hP hD [4, 7] (by decide) rfl rfl (zF2 _ _) (zF2 _ _) hk1 hP1
            clear hP1 hk1
            have hP : va_P D vwCl (zF [zB_X1 (g 1) u t0 t1 t2 t3 t4 t5 Z, zB_X3 (g 0) t0 T0, zB_X3 (g 0) t1 T1, zB_X3 (g 0) t2 T2, zB_X3 (g 0) t3 (v_X3_copy T3 T), zB_X3 (g 0) t4 T4, zB_X3 (g 0) t5 T5, zB_X3 (g 0) h T]) H1 := hP
            have hD : va_D (zA (zF [zB_X1 (g 1) u t0 t1 t2 t3 t4 t5 Z, zB_X3 (g 0) t0 T0, zB_X3 (g 0) t1 T1, zB_X3 (g 0) t2 T2, zB_X3 (g 0) t3 T3, zB_X3 (g 0) t4 T4, zB_X3 (g 0) t5 T5, zB_X3 (g 0) h T])) (zF [zB_X1 (g 1) u t0 t1 t2 t3 t4 t5 Z, zB_X3 (g 0) t0 T0, zB_X3 (g 0) t1 T1, zB_X3 (g 0) t2 T2, zB_X3 (g 0) t3 (v_X3_copy T3 T), zB_X3 (g 0) t4 T4, zB_X3 (g 0) t5 T5, zB_X3 (g 0) h T]) := hD
            refine lv_aload_n hx hb dX1_save_50 rfl (lv_at hl 1 rfl) ?_
            refine lv_dup hx hb dX1_save_51 rfl ?_
            refine va_get (D := D) (ci := 1) (v := .int (Z 0 0)) (C := RX1) (T := TX1) (N := 3) hx hb hts hinX1 hown hK.1 hP 0 rfl rfl 0 (by decide) (hts (.fieldLink RX1 18 "SaltShares$History" "size" "I") (List.mem_of_getElem? (i := 1) rfl)) (fun _ h9 => h9) rfl dX1_save_52 ?_
            refine lv_iconst (v := 1) hx hb dX1_save_55 (by decide) ?_
            refine lv_iadd hx hb dX1_save_56 ?_
            refine va_put (D := D) (ci := 1) (v := .int ((Z 0 0) + 1)) (ty := .int) (C := RX1) (T := TX1) (N := 3) hx hb hts hinX1 tyX1 tyX1_ok nmX1 hown hK.1 hP hD hS 0 rfl rfl 0 (by decide) (hts (.fieldLink RX1 18 "SaltShares$History" "size" "I") (List.mem_of_getElem? (i := 1) rfl)) (fun _ h9 => h9) rfl (by decide +kernel) rfl rfl (Nat.le_of_ble_eq_true rfl) dX1_save_57 (fun H locs hP hD hS => ?_)
            have hP : va_P D vwCl (zF [zB_X1 (g 1) u t0 t1 t2 t3 t4 t5 (zU Z 0 (fun _ => ((Z 0 0) + 1))), zB_X3 (g 0) t0 T0, zB_X3 (g 0) t1 T1, zB_X3 (g 0) t2 T2, zB_X3 (g 0) t3 (v_X3_copy T3 T), zB_X3 (g 0) t4 T4, zB_X3 (g 0) t5 T5, zB_X3 (g 0) h T]) H := hP
            have hD : va_D (zA (zF [zB_X1 (g 1) u t0 t1 t2 t3 t4 t5 Z, zB_X3 (g 0) t0 T0, zB_X3 (g 0) t1 T1, zB_X3 (g 0) t2 T2, zB_X3 (g 0) t3 T3, zB_X3 (g 0) t4 T4, zB_X3 (g 0) t5 T5, zB_X3 (g 0) h T])) (zF [zB_X1 (g 1) u t0 t1 t2 t3 t4 t5 (zU Z 0 (fun _ => ((Z 0 0) + 1))), zB_X3 (g 0) t0 T0, zB_X3 (g 0) t1 T1, zB_X3 (g 0) t2 T2, zB_X3 (g 0) t3 (v_X3_copy T3 T), zB_X3 (g 0) t4 T4, zB_X3 (g 0) t5 T5, zB_X3 (g 0) h T]) := hD
            exact zretw_v hx hb hr hlocks dX1_save_60 hP hS (congrArg (fun z9 => zF [zB_X1 (g 1) u t0 t1 t2 t3 t4 t5 z9.1, zB_X3 (g 0) t0 z9.2.1, zB_X3 (g 0) t1 z9.2.2.1, zB_X3 (g 0) t2 z9.2.2.2.1, zB_X3 (g 0) t3 z9.2.2.2.2.1, zB_X3 (g 0) t4 z9.2.2.2.2.2.1, zB_X3 (g 0) t5 z9.2.2.2.2.2.2, zB_X3 (g 0) h T]) hq)
          · have hq := hq.trans (if_neg j_10)
            by_cases j_12 : v_X1_latestAfter Z (Int32.toNatClampNeg (Z 0 0)) = 4
            · have hq := hq.trans (if_pos j_12)
              have hl : lv_has ls 3 [(2, .ref (t4 0)), (0, .ref (u 0)), (1, .ref (h 0))] := by rw [j_12] at hl; exact hl
              refine lv_aload_n hx hb dX1_save_41 rfl (lv_at hl 0 rfl) ?_
              refine lv_ifnull hx hb dX1_save_42 ?_
              refine lv_aload_n hx hb dX1_save_45 rfl (lv_at hl 0 rfl) ?_
              refine lv_aload_n hx hb dX1_save_46 rfl (lv_at hl 2 rfl) ?_
              refine zcVw (ci := 3) (n := 1) (c_X3_copy l D g t4 h T4 T) hx hb hml hown hts gX1_save_X3_copyFrom rfl ⟨rfl, by decide, by decide, by decide⟩ ⟨Nat.le_of_ble_eq_true rfl, Nat.le_of_ble_eq_true rfl⟩ ⟨rfl, rfl⟩ hK (zsubB (cs := [zB_X3 (g 0) t4 T4, zB_X3 (g 0) h T]) hP [5, 7] rfl (zF2 _ _)) (zDsubB (cs := [zB_X3 (g 0) t4 T4, zB_X3 (g 0) h T]) hD [5, 7] (by decide) rfl (zF2 _ _)) rfl rfl rfl hS hl.1 rfl rfl (Nat.le_of_ble_eq_true rfl) ⟨Nat.zero_le _, Nat.zero_le _⟩ dX1_save_47 (fun H1 locs hP1 hk1 hS => ?_)
              obtain ⟨hP, hD⟩ := zjoinB (cs := [zB_X3 (g 0) t4 T4, zB_X3 (g 0) h T]) (cs' := [zB_X3 (g 0) t4 (v_X3_copy T4 T), zB_X3 (g 0) h T]) hP hD [5, 7] (by decide) rfl rfl (zF2 _ _) (zF2 _ _) hk1 hP1
              clear hP1 hk1
              have hP : va_P D vwCl (zF [zB_X1 (g 1) u t0 t1 t2 t3 t4 t5 Z, zB_X3 (g 0) t0 T0, zB_X3 (g 0) t1 T1, zB_X3 (g 0) t2 T2, zB_X3 (g 0) t3 T3, zB_X3 (g 0) t4 (v_X3_copy T4 T), zB_X3 (g 0) t5 T5, zB_X3 (g 0) h T]) H1 := hP
              have hD : va_D (zA (zF [zB_X1 (g 1) u t0 t1 t2 t3 t4 t5 Z, zB_X3 (g 0) t0 T0, zB_X3 (g 0) t1 T1, zB_X3 (g 0) t2 T2, zB_X3 (g 0) t3 T3, zB_X3 (g 0) t4 T4, zB_X3 (g 0) t5 T5, zB_X3 (g 0) h T])) (zF [zB_X1 (g 1) u t0 t1 t2 t3 t4 t5 Z, zB_X3 (g 0) t0 T0, zB_X3 (g 0) t1 T1, zB_X3 (g 0) t2 T2, zB_X3 (g 0) t3 T3, zB_X3 (g 0) t4 (v_X3_copy T4 T), zB_X3 (g 0) t5 T5, zB_X3 (g 0) h T]) := hD
              refine lv_aload_n hx hb dX1_save_50 rfl (lv_at hl 1 rfl) ?_
              refine lv_dup hx hb dX1_save_51 rfl ?_
              refine va_get (D := D) (ci := 1) (v := .int (Z 0 0)) (C := RX1) (T := TX1) (N := 3) hx hb hts hinX1 hown hK.1 hP 0 rfl rfl 0 (by decide) (hts (.fieldLink RX1 18 "SaltShares$History" "size" "I") (List.mem_of_getElem? (i := 1) rfl)) (fun _ h9 => h9) rfl dX1_save_52 ?_
              refine lv_iconst (v := 1) hx hb dX1_save_55 (by decide) ?_
              refine lv_iadd hx hb dX1_save_56 ?_
              refine va_put (D := D) (ci := 1) (v := .int ((Z 0 0) + 1)) (ty := .int) (C := RX1) (T := TX1) (N := 3) hx hb hts hinX1 tyX1 tyX1_ok nmX1 hown hK.1 hP hD hS 0 rfl rfl 0 (by decide) (hts (.fieldLink RX1 18 "SaltShares$History" "size" "I") (List.mem_of_getElem? (i := 1) rfl)) (fun _ h9 => h9) rfl (by decide +kernel) rfl rfl (Nat.le_of_ble_eq_true rfl) dX1_save_57 (fun H locs hP hD hS => ?_)
              have hP : va_P D vwCl (zF [zB_X1 (g 1) u t0 t1 t2 t3 t4 t5 (zU Z 0 (fun _ => ((Z 0 0) + 1))), zB_X3 (g 0) t0 T0, zB_X3 (g 0) t1 T1, zB_X3 (g 0) t2 T2, zB_X3 (g 0) t3 T3, zB_X3 (g 0) t4 (v_X3_copy T4 T), zB_X3 (g 0) t5 T5, zB_X3 (g 0) h T]) H := hP
              have hD : va_D (zA (zF [zB_X1 (g 1) u t0 t1 t2 t3 t4 t5 Z, zB_X3 (g 0) t0 T0, zB_X3 (g 0) t1 T1, zB_X3 (g 0) t2 T2, zB_X3 (g 0) t3 T3, zB_X3 (g 0) t4 T4, zB_X3 (g 0) t5 T5, zB_X3 (g 0) h T])) (zF [zB_X1 (g 1) u t0 t1 t2 t3 t4 t5 (zU Z 0 (fun _ => ((Z 0 0) + 1))), zB_X3 (g 0) t0 T0, zB_X3 (g 0) t1 T1, zB_X3 (g 0) t2 T2, zB_X3 (g 0) t3 T3, zB_X3 (g 0) t4 (v_X3_copy T4 T), zB_X3 (g 0) t5 T5, zB_X3 (g 0) h T]) := hD
              exact zretw_v hx hb hr hlocks dX1_save_60 hP hS (congrArg (fun z9 => zF [zB_X1 (g 1) u t0 t1 t2 t3 t4 t5 z9.1, zB_X3 (g 0) t0 z9.2.1, zB_X3 (g 0) t1 z9.2.2.1, zB_X3 (g 0) t2 z9.2.2.2.1, zB_X3 (g 0) t3 z9.2.2.2.2.1, zB_X3 (g 0) t4 z9.2.2.2.2.2.1, zB_X3 (g 0) t5 z9.2.2.2.2.2.2, zB_X3 (g 0) h T]) hq)
            · have hq := hq.trans (if_neg j_12)
              have j_14 : v_X1_latestAfter Z (Int32.toNatClampNeg (Z 0 0)) = 5 := by omega
              have hl : lv_has ls 3 [(2, .ref (t5 0)), (0, .ref (u 0)), (1, .ref (h 0))] := by rw [j_14] at hl; exact hl
              refine lv_aload_n hx hb dX1_save_41 rfl (lv_at hl 0 rfl) ?_
              refine lv_ifnull hx hb dX1_save_42 ?_
              refine lv_aload_n hx hb dX1_save_45 rfl (lv_at hl 0 rfl) ?_
              refine lv_aload_n hx hb dX1_save_46 rfl (lv_at hl 2 rfl) ?_
              refine zcVw (ci := 3) (n := 1) (c_X3_copy l D g t5 h T5 T) hx hb hml hown hts gX1_save_X3_copyFrom rfl ⟨rfl, by decide, by decide, by decide⟩ ⟨Nat.le_of_ble_eq_true rfl, Nat.le_of_ble_eq_true rfl⟩ ⟨rfl, rfl⟩ hK (zsubB (cs := [zB_X3 (g 0) t5 T5, zB_X3 (g 0) h T]) hP [6, 7] rfl (zF2 _ _)) (zDsubB (cs := [zB_X3 (g 0) t5 T5, zB_X3 (g 0) h T]) hD [6, 7] (by decide) rfl (zF2 _ _)) rfl rfl rfl hS hl.1 rfl rfl (Nat.le_of_ble_eq_true rfl) ⟨Nat.zero_le _, Nat.zero_le _⟩ dX1_save_47 (fun H1 locs hP1 hk1 hS => ?_)
              obtain ⟨hP, hD⟩ := zjoinB (cs := [zB_X3 (g 0) t5 T5, zB_X3 (g 0) h T]) (cs' := [zB_X3 (g 0) t5 (v_X3_copy T5 T), zB_X3 (g 0) h T]) hP hD [6, 7] (by decide) rfl rfl (zF2 _ _) (zF2 _ _) hk1 hP1
              clear hP1 hk1
              have hP : va_P D vwCl (zF [zB_X1 (g 1) u t0 t1 t2 t3 t4 t5 Z, zB_X3 (g 0) t0 T0, zB_X3 (g 0) t1 T1, zB_X3 (g 0) t2 T2, zB_X3 (g 0) t3 T3, zB_X3 (g 0) t4 T4, zB_X3 (g 0) t5 (v_X3_copy T5 T), zB_X3 (g 0) h T]) H1 := hP
              have hD : va_D (zA (zF [zB_X1 (g 1) u t0 t1 t2 t3 t4 t5 Z, zB_X3 (g 0) t0 T0, zB_X3 (g 0) t1 T1, zB_X3 (g 0) t2 T2, zB_X3 (g 0) t3 T3, zB_X3 (g 0) t4 T4, zB_X3 (g 0) t5 T5, zB_X3 (g 0) h T])) (zF [zB_X1 (g 1) u t0 t1 t2 t3 t4 t5 Z, zB_X3 (g 0) t0 T0, zB_X3 (g 0) t1 T1, zB_X3 (g 0) t2 T2, zB_X3 (g 0) t3 T3, zB_X3 (g 0) t4 T4, zB_X3 (g 0) t5 (v_X3_copy T5 T), zB_X3 (g 0) h T]) := hD
              refine lv_aload_n hx hb dX1_save_50 rfl (lv_at hl 1 rfl) ?_
              refine lv_dup hx hb dX1_save_51 rfl ?_
              refine va_get (D := D) (ci := 1) (v := .int (Z 0 0)) (C := RX1) (T := TX1) (N := 3) hx hb hts hinX1 hown hK.1 hP 0 rfl rfl 0 (by decide) (hts (.fieldLink RX1 18 "SaltShares$History" "size" "I") (List.mem_of_getElem? (i := 1) rfl)) (fun _ h9 => h9) rfl dX1_save_52 ?_
              refine lv_iconst (v := 1) hx hb dX1_save_55 (by decide) ?_
              refine lv_iadd hx hb dX1_save_56 ?_
              refine va_put (D := D) (ci := 1) (v := .int ((Z 0 0) + 1)) (ty := .int) (C := RX1) (T := TX1) (N := 3) hx hb hts hinX1 tyX1 tyX1_ok nmX1 hown hK.1 hP hD hS 0 rfl rfl 0 (by decide) (hts (.fieldLink RX1 18 "SaltShares$History" "size" "I") (List.mem_of_getElem? (i := 1) rfl)) (fun _ h9 => h9) rfl (by decide +kernel) rfl rfl (Nat.le_of_ble_eq_true rfl) dX1_save_57 (fun H locs hP hD hS => ?_)
              have hP : va_P D vwCl (zF [zB_X1 (g 1) u t0 t1 t2 t3 t4 t5 (zU Z 0 (fun _ => ((Z 0 0) + 1))), zB_X3 (g 0) t0 T0, zB_X3 (g 0) t1 T1, zB_X3 (g 0) t2 T2, zB_X3 (g 0) t3 T3, zB_X3 (g 0) t4 T4, zB_X3 (g 0) t5 (v_X3_copy T5 T), zB_X3 (g 0) h T]) H := hP
              have hD : va_D (zA (zF [zB_X1 (g 1) u t0 t1 t2 t3 t4 t5 Z, zB_X3 (g 0) t0 T0, zB_X3 (g 0) t1 T1, zB_X3 (g 0) t2 T2, zB_X3 (g 0) t3 T3, zB_X3 (g 0) t4 T4, zB_X3 (g 0) t5 T5, zB_X3 (g 0) h T])) (zF [zB_X1 (g 1) u t0 t1 t2 t3 t4 t5 (zU Z 0 (fun _ => ((Z 0 0) + 1))), zB_X3 (g 0) t0 T0, zB_X3 (g 0) t1 T1, zB_X3 (g 0) t2 T2, zB_X3 (g 0) t3 T3, zB_X3 (g 0) t4 T4, zB_X3 (g 0) t5 (v_X3_copy T5 T), zB_X3 (g 0) h T]) := hD
              exact zretw_v hx hb hr hlocks dX1_save_60 hP hS (congrArg (fun z9 => zF [zB_X1 (g 1) u t0 t1 t2 t3 t4 t5 z9.1, zB_X3 (g 0) t0 z9.2.1, zB_X3 (g 0) t1 z9.2.2.1, zB_X3 (g 0) t2 z9.2.2.2.1, zB_X3 (g 0) t3 z9.2.2.2.2.1, zB_X3 (g 0) t4 z9.2.2.2.2.2.1, zB_X3 (g 0) t5 z9.2.2.2.2.2.2, zB_X3 (g 0) h T]) hq)
  · have c_1 : (Z 0 0) = 6 := c_1
    have hq := hq.trans (if_pos c_1)
    have e6 : Int32.toNatClampNeg (Z 0 0) = 6 := by rw [c_1]; decide
    refine lv_aload_n hx hb dX1_save_9 rfl (lv_at hl 0 rfl) ?_
    refine lv_aload_n hx hb dX1_save_10 rfl (lv_at hl 0 rfl) ?_
    refine va_get (D := D) (ci := 1) (v := .int (Z 1 0)) (C := RX1) (T := TX1) (N := 3) hx hb hts hinX1 hown hK.1 hP 0 rfl rfl 1 (by decide) (hts (.fieldLink RX1 22 "SaltShares$History" "oldest" "I") (List.mem_of_getElem? (i := 2) rfl)) (fun _ h9 => h9) rfl dX1_save_11 ?_
    have w_16 := znat z1
    have w_16b := w_16.2
    refine lv_is w_16.1 ?_
    refine lv_iconst (v := 1) hx hb dX1_save_14 (by decide) ?_
    refine lv_iadd hx hb dX1_save_15 ?_
    refine lv_is (show (nI (Int32.toNatClampNeg (Z 1 0))) + 1 = (nI (Int32.toNatClampNeg (Z 1 0) + 1)) from nI_add (Int32.toNatClampNeg (Z 1 0)) 1) ?_
    refine lv_bipush (v := 6) hx hb dX1_save_16 (by decide) ?_
    refine lv_irem hx hb dX1_save_18 (by decide) ?_
    refine lv_is (show (nI (Int32.toNatClampNeg (Z 1 0) + 1)) - (nI (Int32.toNatClampNeg (Z 1 0) + 1)) / 6 * 6 = (nI ((Int32.toNatClampNeg (Z 1 0) + 1) % 6)) from (pk_rem (by omega) (by decide) (by decide))) ?_
    refine va_put (D := D) (ci := 1) (v := .int (nI ((Int32.toNatClampNeg (Z 1 0) + 1) % 6))) (ty := .int) (C := RX1) (T := TX1) (N := 3) hx hb hts hinX1 tyX1 tyX1_ok nmX1 hown hK.1 hP hD hS 0 rfl rfl 1 (by decide) (hts (.fieldLink RX1 22 "SaltShares$History" "oldest" "I") (List.mem_of_getElem? (i := 2) rfl)) (fun _ h9 => h9) rfl (by decide +kernel) rfl rfl (Nat.le_of_ble_eq_true rfl) dX1_save_19 (fun H locs hP hD hS => ?_)
    have hP : va_P D vwCl (zF [zB_X1 (g 1) u t0 t1 t2 t3 t4 t5 (zU Z 1 (fun _ => (nI ((Int32.toNatClampNeg (Z 1 0) + 1) % 6)))), zB_X3 (g 0) t0 T0, zB_X3 (g 0) t1 T1, zB_X3 (g 0) t2 T2, zB_X3 (g 0) t3 T3, zB_X3 (g 0) t4 T4, zB_X3 (g 0) t5 T5, zB_X3 (g 0) h T]) H := hP
    have hD : va_D (zA (zF [zB_X1 (g 1) u t0 t1 t2 t3 t4 t5 Z, zB_X3 (g 0) t0 T0, zB_X3 (g 0) t1 T1, zB_X3 (g 0) t2 T2, zB_X3 (g 0) t3 T3, zB_X3 (g 0) t4 T4, zB_X3 (g 0) t5 T5, zB_X3 (g 0) h T])) (zF [zB_X1 (g 1) u t0 t1 t2 t3 t4 t5 (zU Z 1 (fun _ => (nI ((Int32.toNatClampNeg (Z 1 0) + 1) % 6)))), zB_X3 (g 0) t0 T0, zB_X3 (g 0) t1 T1, zB_X3 (g 0) t2 T2, zB_X3 (g 0) t3 T3, zB_X3 (g 0) t4 T4, zB_X3 (g 0) t5 T5, zB_X3 (g 0) h T]) := hD
    refine lv_aload_n hx hb dX1_save_22 rfl (lv_at hl 0 rfl) ?_
    refine lv_dup hx hb dX1_save_23 rfl ?_
    refine va_get (D := D) (ci := 1) (v := .int (Z 0 0)) (C := RX1) (T := TX1) (N := 3) hx hb hts hinX1 hown hK.1 hP 0 rfl rfl 0 (by decide) (hts (.fieldLink RX1 18 "SaltShares$History" "size" "I") (List.mem_of_getElem? (i := 1) rfl)) (fun _ h9 => h9) rfl dX1_save_24 ?_
    have w_17 := znat z0
    have w_17b := w_17.2
    refine lv_is w_17.1 ?_
    refine lv_iconst (v := 1) hx hb dX1_save_27 (by decide) ?_
    refine lv_isub hx hb dX1_save_28 ?_
    refine lv_is (show (nI (Int32.toNatClampNeg (Z 0 0))) - 1 = (nI ((Int32.toNatClampNeg (Z 0 0)) - 1)) from pk_sub (a := Int32.toNatClampNeg (Z 0 0)) (b := 1) (by omega)) ?_
    refine va_put (D := D) (ci := 1) (v := .int (nI ((Int32.toNatClampNeg (Z 0 0)) - 1))) (ty := .int) (C := RX1) (T := TX1) (N := 3) hx hb hts hinX1 tyX1 tyX1_ok nmX1 hown hK.1 hP hD hS 0 rfl rfl 0 (by decide) (hts (.fieldLink RX1 18 "SaltShares$History" "size" "I") (List.mem_of_getElem? (i := 1) rfl)) (fun _ h9 => h9) rfl (by decide +kernel) rfl rfl (Nat.le_of_ble_eq_true rfl) dX1_save_29 (fun H locs hP hD hS => ?_)
    have hP : va_P D vwCl (zF [zB_X1 (g 1) u t0 t1 t2 t3 t4 t5 (zU (zU Z 1 (fun _ => (nI ((Int32.toNatClampNeg (Z 1 0) + 1) % 6)))) 0 (fun _ => (nI ((Int32.toNatClampNeg (Z 0 0)) - 1)))), zB_X3 (g 0) t0 T0, zB_X3 (g 0) t1 T1, zB_X3 (g 0) t2 T2, zB_X3 (g 0) t3 T3, zB_X3 (g 0) t4 T4, zB_X3 (g 0) t5 T5, zB_X3 (g 0) h T]) H := hP
    have hD : va_D (zA (zF [zB_X1 (g 1) u t0 t1 t2 t3 t4 t5 Z, zB_X3 (g 0) t0 T0, zB_X3 (g 0) t1 T1, zB_X3 (g 0) t2 T2, zB_X3 (g 0) t3 T3, zB_X3 (g 0) t4 T4, zB_X3 (g 0) t5 T5, zB_X3 (g 0) h T])) (zF [zB_X1 (g 1) u t0 t1 t2 t3 t4 t5 (zU (zU Z 1 (fun _ => (nI ((Int32.toNatClampNeg (Z 1 0) + 1) % 6)))) 0 (fun _ => (nI ((Int32.toNatClampNeg (Z 0 0)) - 1)))), zB_X3 (g 0) t0 T0, zB_X3 (g 0) t1 T1, zB_X3 (g 0) t2 T2, zB_X3 (g 0) t3 T3, zB_X3 (g 0) t4 T4, zB_X3 (g 0) t5 T5, zB_X3 (g 0) h T]) := hD
    refine lv_aload_n hx hb dX1_save_32 rfl (lv_at hl 0 rfl) ?_
    refine lv_aload_n hx hb dX1_save_33 rfl (lv_at hl 0 rfl) ?_
    refine va_get (D := D) (ci := 1) (v := .int (nI ((Int32.toNatClampNeg (Z 0 0)) - 1))) (C := RX1) (T := TX1) (N := 3) hx hb hts hinX1 hown hK.1 hP 0 rfl rfl 0 (by decide) (hts (.fieldLink RX1 18 "SaltShares$History" "size" "I") (List.mem_of_getElem? (i := 1) rfl)) (fun _ h9 => h9) rfl dX1_save_34 ?_
    refine zcV (ci := 1) (n := 1) (c_X1_latestAfter l D g u t0 t1 t2 t3 t4 t5 (zU (zU Z 1 (fun _ => (nI ((Int32.toNatClampNeg (Z 1 0) + 1) % 6)))) 0 (fun _ => (nI ((Int32.toNatClampNeg (Z 0 0)) - 1)))) ((Int32.toNatClampNeg (Z 0 0)) - 1) (by omega) (by first | with_reducible exact z1 | (rw [zU_n _ _ (by decide), zU_s]; exact vp_in_nI (Nat.mod_lt _ (by decide)) (by decide)))) hx hb hml hown hts gX1_save_X1_latestAfter rfl ⟨rfl, by decide, by decide, by decide⟩ ⟨Nat.le_of_ble_eq_true rfl, Nat.le_of_ble_eq_true rfl⟩ ⟨rfl, rfl⟩ hK (zsubB (cs := [zB_X1 (g 1) u t0 t1 t2 t3 t4 t5 (zU (zU Z 1 (fun _ => (nI ((Int32.toNatClampNeg (Z 1 0) + 1) % 6)))) 0 (fun _ => (nI ((Int32.toNatClampNeg (Z 0 0)) - 1))))]) hP [0] rfl (zF1 _)) rfl rfl rfl hl.1 rfl rfl (Nat.le_of_ble_eq_true rfl) ⟨Nat.zero_le _, Nat.zero_le _⟩ dX1_save_37 ?_
    refine lv_astore_n (lv' := [(2, .ref (zsel6 (v_X1_latestAfter (zU (zU Z 1 (fun _ => (nI ((Int32.toNatClampNeg (Z 1 0) + 1) % 6)))) 0 (fun _ => (nI ((Int32.toNatClampNeg (Z 0 0)) - 1)))) ((Int32.toNatClampNeg (Z 0 0)) - 1)) t0 t1 t2 t3 t4 t5 0)), (0, .ref (u 0)), (1, .ref (h 0))]) hx hb dX1_save_40 rfl hl (by decide) rfl (fun ls hl => ?_)
    have j6 : v_X1_latestAfter (zU (zU Z 1 (fun _ => (nI ((Int32.toNatClampNeg (Z 1 0) + 1) % 6)))) 0 (fun _ => (nI ((Int32.toNatClampNeg (Z 0 0)) - 1)))) ((Int32.toNatClampNeg (Z 0 0)) - 1) < 6 := v_X1_latestAfter_lt _ _
    by_cases j_19 : v_X1_latestAfter (zU (zU Z 1 (fun _ => (nI ((Int32.toNatClampNeg (Z 1 0) + 1) % 6)))) 0 (fun _ => (nI ((Int32.toNatClampNeg (Z 0 0)) - 1)))) ((Int32.toNatClampNeg (Z 0 0)) - 1) = 0
    · have hq := hq.trans (if_pos j_19)
      have hl : lv_has ls 3 [(2, .ref (t0 0)), (0, .ref (u 0)), (1, .ref (h 0))] := by rw [j_19] at hl; exact hl
      refine lv_aload_n hx hb dX1_save_41 rfl (lv_at hl 0 rfl) ?_
      refine lv_ifnull hx hb dX1_save_42 ?_
      refine lv_aload_n hx hb dX1_save_45 rfl (lv_at hl 0 rfl) ?_
      refine lv_aload_n hx hb dX1_save_46 rfl (lv_at hl 2 rfl) ?_
      refine zcVw (ci := 3) (n := 1) (c_X3_copy l D g t0 h T0 T) hx hb hml hown hts gX1_save_X3_copyFrom rfl ⟨rfl, by decide, by decide, by decide⟩ ⟨Nat.le_of_ble_eq_true rfl, Nat.le_of_ble_eq_true rfl⟩ ⟨rfl, rfl⟩ hK (zsubB (cs := [zB_X3 (g 0) t0 T0, zB_X3 (g 0) h T]) hP [1, 7] rfl (zF2 _ _)) (zDsubB (cs := [zB_X3 (g 0) t0 T0, zB_X3 (g 0) h T]) hD [1, 7] (by decide) rfl (zF2 _ _)) rfl rfl rfl hS hl.1 rfl rfl (Nat.le_of_ble_eq_true rfl) ⟨Nat.zero_le _, Nat.zero_le _⟩ dX1_save_47 (fun H1 locs hP1 hk1 hS => ?_)
      obtain ⟨hP, hD⟩ := zjoinB (cs := [zB_X3 (g 0) t0 T0, zB_X3 (g 0) h T]) (cs' := [zB_X3 (g 0) t0 (v_X3_copy T0 T), zB_X3 (g 0) h T]) hP hD [1, 7] (by decide) rfl rfl (zF2 _ _) (zF2 _ _) hk1 hP1
      clear hP1 hk1
      have hP : va_P D vwCl (zF [zB_X1 (g 1) u t0 t1 t2 t3 t4 t5 (zU (zU Z 1 (fun _ => (nI ((Int32.toNatClampNeg (Z 1 0) + 1) % 6)))) 0 (fun _ => (nI ((Int32.toNatClampNeg (Z 0 0)) - 1)))), zB_X3 (g 0) t0 (v_X3_copy T0 T), zB_X3 (g 0) t1 T1, zB_X3 (g 0) t2 T2, zB_X3 (g 0) t3 T3, zB_X3 (g 0) t4 T4, zB_X3 (g 0) t5 T5, zB_X3 (g 0) h T]) H1 := hP
      have hD : va_D (zA (zF [zB_X1 (g 1) u t0 t1 t2 t3 t4 t5 Z, zB_X3 (g 0) t0 T0, zB_X3 (g 0) t1 T1, zB_X3 (g 0) t2 T2, zB_X3 (g 0) t3 T3, zB_X3 (g 0) t4 T4, zB_X3 (g 0) t5 T5, zB_X3 (g 0) h T])) (zF [zB_X1 (g 1) u t0 t1 t2 t3 t4 t5 (zU (zU Z 1 (fun _ => (nI ((Int32.toNatClampNeg (Z 1 0) + 1) % 6)))) 0 (fun _ => (nI ((Int32.toNatClampNeg (Z 0 0)) - 1)))), zB_X3 (g 0) t0 (v_X3_copy T0 T), zB_X3 (g 0) t1 T1, zB_X3 (g 0) t2 T2, zB_X3 (g 0) t3 T3, zB_X3 (g 0) t4 T4, zB_X3 (g 0) t5 T5, zB_X3 (g 0) h T]) := hD
      refine lv_aload_n hx hb dX1_save_50 rfl (lv_at hl 1 rfl) ?_
      refine lv_dup hx hb dX1_save_51 rfl ?_
      refine va_get (D := D) (ci := 1) (v := .int (nI ((Int32.toNatClampNeg (Z 0 0)) - 1))) (C := RX1) (T := TX1) (N := 3) hx hb hts hinX1 hown hK.1 hP 0 rfl rfl 0 (by decide) (hts (.fieldLink RX1 18 "SaltShares$History" "size" "I") (List.mem_of_getElem? (i := 1) rfl)) (fun _ h9 => h9) rfl dX1_save_52 ?_
      refine lv_iconst (v := 1) hx hb dX1_save_55 (by decide) ?_
      refine lv_iadd hx hb dX1_save_56 ?_
      refine lv_is (show (nI ((Int32.toNatClampNeg (Z 0 0)) - 1)) + 1 = (nI ((Int32.toNatClampNeg (Z 0 0)) - 1 + 1)) from nI_add ((Int32.toNatClampNeg (Z 0 0)) - 1) 1) ?_
      refine va_put (D := D) (ci := 1) (v := .int (nI ((Int32.toNatClampNeg (Z 0 0)) - 1 + 1))) (ty := .int) (C := RX1) (T := TX1) (N := 3) hx hb hts hinX1 tyX1 tyX1_ok nmX1 hown hK.1 hP hD hS 0 rfl rfl 0 (by decide) (hts (.fieldLink RX1 18 "SaltShares$History" "size" "I") (List.mem_of_getElem? (i := 1) rfl)) (fun _ h9 => h9) rfl (by decide +kernel) rfl rfl (Nat.le_of_ble_eq_true rfl) dX1_save_57 (fun H locs hP hD hS => ?_)
      have hP : va_P D vwCl (zF [zB_X1 (g 1) u t0 t1 t2 t3 t4 t5 (zU (zU Z 1 (fun _ => (nI ((Int32.toNatClampNeg (Z 1 0) + 1) % 6)))) 0 (fun _ => (nI ((Int32.toNatClampNeg (Z 0 0)) - 1 + 1)))), zB_X3 (g 0) t0 (v_X3_copy T0 T), zB_X3 (g 0) t1 T1, zB_X3 (g 0) t2 T2, zB_X3 (g 0) t3 T3, zB_X3 (g 0) t4 T4, zB_X3 (g 0) t5 T5, zB_X3 (g 0) h T]) H := hP
      have hD : va_D (zA (zF [zB_X1 (g 1) u t0 t1 t2 t3 t4 t5 Z, zB_X3 (g 0) t0 T0, zB_X3 (g 0) t1 T1, zB_X3 (g 0) t2 T2, zB_X3 (g 0) t3 T3, zB_X3 (g 0) t4 T4, zB_X3 (g 0) t5 T5, zB_X3 (g 0) h T])) (zF [zB_X1 (g 1) u t0 t1 t2 t3 t4 t5 (zU (zU Z 1 (fun _ => (nI ((Int32.toNatClampNeg (Z 1 0) + 1) % 6)))) 0 (fun _ => (nI ((Int32.toNatClampNeg (Z 0 0)) - 1 + 1)))), zB_X3 (g 0) t0 (v_X3_copy T0 T), zB_X3 (g 0) t1 T1, zB_X3 (g 0) t2 T2, zB_X3 (g 0) t3 T3, zB_X3 (g 0) t4 T4, zB_X3 (g 0) t5 T5, zB_X3 (g 0) h T]) := hD
      exact zretw_v hx hb hr hlocks dX1_save_60 hP hS (congrArg (fun z9 => zF [zB_X1 (g 1) u t0 t1 t2 t3 t4 t5 z9.1, zB_X3 (g 0) t0 z9.2.1, zB_X3 (g 0) t1 z9.2.2.1, zB_X3 (g 0) t2 z9.2.2.2.1, zB_X3 (g 0) t3 z9.2.2.2.2.1, zB_X3 (g 0) t4 z9.2.2.2.2.2.1, zB_X3 (g 0) t5 z9.2.2.2.2.2.2, zB_X3 (g 0) h T]) hq)
    · have hq := hq.trans (if_neg j_19)
      by_cases j_21 : v_X1_latestAfter (zU (zU Z 1 (fun _ => (nI ((Int32.toNatClampNeg (Z 1 0) + 1) % 6)))) 0 (fun _ => (nI ((Int32.toNatClampNeg (Z 0 0)) - 1)))) ((Int32.toNatClampNeg (Z 0 0)) - 1) = 1
      · have hq := hq.trans (if_pos j_21)
        have hl : lv_has ls 3 [(2, .ref (t1 0)), (0, .ref (u 0)), (1, .ref (h 0))] := by rw [j_21] at hl; exact hl
        refine lv_aload_n hx hb dX1_save_41 rfl (lv_at hl 0 rfl) ?_
        refine lv_ifnull hx hb dX1_save_42 ?_
        refine lv_aload_n hx hb dX1_save_45 rfl (lv_at hl 0 rfl) ?_
        refine lv_aload_n hx hb dX1_save_46 rfl (lv_at hl 2 rfl) ?_
        refine zcVw (ci := 3) (n := 1) (c_X3_copy l D g t1 h T1 T) hx hb hml hown hts gX1_save_X3_copyFrom rfl ⟨rfl, by decide, by decide, by decide⟩ ⟨Nat.le_of_ble_eq_true rfl, Nat.le_of_ble_eq_true rfl⟩ ⟨rfl, rfl⟩ hK (zsubB (cs := [zB_X3 (g 0) t1 T1, zB_X3 (g 0) h T]) hP [2, 7] rfl (zF2 _ _)) (zDsubB (cs := [zB_X3 (g 0) t1 T1, zB_X3 (g 0) h T]) hD [2, 7] (by decide) rfl (zF2 _ _)) rfl rfl rfl hS hl.1 rfl rfl (Nat.le_of_ble_eq_true rfl) ⟨Nat.zero_le _, Nat.zero_le _⟩ dX1_save_47 (fun H1 locs hP1 hk1 hS => ?_)
        obtain ⟨hP, hD⟩ := zjoinB (cs := [zB_X3 (g 0) t1 T1, zB_X3 (g 0) h T]) (cs' := [zB_X3 (g 0) t1 (v_X3_copy T1 T), zB_X3 (g 0) h T]) hP hD [2, 7] (by decide) rfl rfl (zF2 _ _) (zF2 _ _) hk1 hP1
        clear hP1 hk1
        have hP : va_P D vwCl (zF [zB_X1 (g 1) u t0 t1 t2 t3 t4 t5 (zU (zU Z 1 (fun _ => (nI ((Int32.toNatClampNeg (Z 1 0) + 1) % 6)))) 0 (fun _ => (nI ((Int32.toNatClampNeg (Z 0 0)) - 1)))), zB_X3 (g 0) t0 T0, zB_X3 (g 0) t1 (v_X3_copy T1 T), zB_X3 (g 0) t2 T2, zB_X3 (g 0) t3 T3, zB_X3 (g 0) t4 T4, zB_X3 (g 0) t5 T5, zB_X3 (g 0) h T]) H1 := hP
        have hD : va_D (zA (zF [zB_X1 (g 1) u t0 t1 t2 t3 t4 t5 Z, zB_X3 (g 0) t0 T0, zB_X3 (g 0) t1 T1, zB_X3 (g 0) t2 T2, zB_X3 (g 0) t3 T3, zB_X3 (g 0) t4 T4, zB_X3 (g 0) t5 T5, zB_X3 (g 0) h T])) (zF [zB_X1 (g 1) u t0 t1 t2 t3 t4 t5 (zU (zU Z 1 (fun _ => (nI ((Int32.toNatClampNeg (Z 1 0) + 1) % 6)))) 0 (fun _ => (nI ((Int32.toNatClampNeg (Z 0 0)) - 1)))), zB_X3 (g 0) t0 T0, zB_X3 (g 0) t1 (v_X3_copy T1 T), zB_X3 (g 0) t2 T2, zB_X3 (g 0) t3 T3, zB_X3 (g 0) t4 T4, zB_X3 (g 0) t5 T5, zB_X3 (g 0) h T]) := hD
        refine lv_aload_n hx hb dX1_save_50 rfl (lv_at hl 1 rfl) ?_
        refine lv_dup hx hb dX1_save_51 rfl ?_
        refine va_get (D := D) (ci := 1) (v := .int (nI ((Int32.toNatClampNeg (Z 0 0)) - 1))) (C := RX1) (T := TX1) (N := 3) hx hb hts hinX1 hown hK.1 hP 0 rfl rfl 0 (by decide) (hts (.fieldLink RX1 18 "SaltShares$History" "size" "I") (List.mem_of_getElem? (i := 1) rfl)) (fun _ h9 => h9) rfl dX1_save_52 ?_
        refine lv_iconst (v := 1) hx hb dX1_save_55 (by decide) ?_
        refine lv_iadd hx hb dX1_save_56 ?_
        refine lv_is (show (nI ((Int32.toNatClampNeg (Z 0 0)) - 1)) + 1 = (nI ((Int32.toNatClampNeg (Z 0 0)) - 1 + 1)) from nI_add ((Int32.toNatClampNeg (Z 0 0)) - 1) 1) ?_
        refine va_put (D := D) (ci := 1) (v := .int (nI ((Int32.toNatClampNeg (Z 0 0)) - 1 + 1))) (ty := .int) (C := RX1) (T := TX1) (N := 3) hx hb hts hinX1 tyX1 tyX1_ok nmX1 hown hK.1 hP hD hS 0 rfl rfl 0 (by decide) (hts (.fieldLink RX1 18 "SaltShares$History" "size" "I") (List.mem_of_getElem? (i := 1) rfl)) (fun _ h9 => h9) rfl (by decide +kernel) rfl rfl (Nat.le_of_ble_eq_true rfl) dX1_save_57 (fun H locs hP hD hS => ?_)
        have hP : va_P D vwCl (zF [zB_X1 (g 1) u t0 t1 t2 t3 t4 t5 (zU (zU Z 1 (fun _ => (nI ((Int32.toNatClampNeg (Z 1 0) + 1) % 6)))) 0 (fun _ => (nI ((Int32.toNatClampNeg (Z 0 0)) - 1 + 1)))), zB_X3 (g 0) t0 T0, zB_X3 (g 0) t1 (v_X3_copy T1 T), zB_X3 (g 0) t2 T2, zB_X3 (g 0) t3 T3, zB_X3 (g 0) t4 T4, zB_X3 (g 0) t5 T5, zB_X3 (g 0) h T]) H := hP
        have hD : va_D (zA (zF [zB_X1 (g 1) u t0 t1 t2 t3 t4 t5 Z, zB_X3 (g 0) t0 T0, zB_X3 (g 0) t1 T1, zB_X3 (g 0) t2 T2, zB_X3 (g 0) t3 T3, zB_X3 (g 0) t4 T4, zB_X3 (g 0) t5 T5, zB_X3 (g 0) h T])) (zF [zB_X1 (g 1) u t0 t1 t2 t3 t4 t5 (zU (zU Z 1 (fun _ => (nI ((Int32.toNatClampNeg (Z 1 0) + 1) % 6)))) 0 (fun _ => (nI ((Int32.toNatClampNeg (Z 0 0)) - 1 + 1)))), zB_X3 (g 0) t0 T0, zB_X3 (g 0) t1 (v_X3_copy T1 T), zB_X3 (g 0) t2 T2, zB_X3 (g 0) t3 T3, zB_X3 (g 0) t4 T4, zB_X3 (g 0) t5 T5, zB_X3 (g 0) h T]) := hD
        exact zretw_v hx hb hr hlocks dX1_save_60 hP hS (congrArg (fun z9 => zF [zB_X1 (g 1) u t0 t1 t2 t3 t4 t5 z9.1, zB_X3 (g 0) t0 z9.2.1, zB_X3 (g 0) t1 z9.2.2.1, zB_X3 (g 0) t2 z9.2.2.2.1, zB_X3 (g 0) t3 z9.2.2.2.2.1, zB_X3 (g 0) t4 z9.2.2.2.2.2.1, zB_X3 (g 0) t5 z9.2.2.2.2.2.2, zB_X3 (g 0) h T]) hq)
      · have hq := hq.trans (if_neg j_21)
        by_cases j_23 : v_X1_latestAfter (zU (zU Z 1 (fun _ => (nI ((Int32.toNatClampNeg (Z 1 0) + 1) % 6)))) 0 (fun _ => (nI ((Int32.toNatClampNeg (Z 0 0)) - 1)))) ((Int32.toNatClampNeg (Z 0 0)) - 1) = 2
        · have hq := hq.trans (if_pos j_23)
          have hl : lv_has ls 3 [(2, .ref (t2 0)), (0, .ref (u 0)), (1, .ref (h 0))] := by rw [j_23] at hl; exact hl
          refine lv_aload_n hx hb dX1_save_41 rfl (lv_at hl 0 rfl) ?_
          refine lv_ifnull hx hb dX1_save_42 ?_
          refine lv_aload_n hx hb dX1_save_45 rfl (lv_at hl 0 rfl) ?_
          refine lv_aload_n hx hb dX1_save_46 rfl (lv_at hl 2 rfl) ?_
          refine zcVw (ci := 3) (n := 1) (c_X3_copy l D g t2 h T2 T) hx hb hml hown hts gX1_save_X3_copyFrom rfl ⟨rfl, by decide, by decide, by decide⟩ ⟨Nat.le_of_ble_eq_true rfl, Nat.le_of_ble_eq_true rfl⟩ ⟨rfl, rfl⟩ hK (zsubB (cs := [zB_X3 (g 0) t2 T2, zB_X3 (g 0) h T]) hP [3, 7] rfl (zF2 _ _)) (zDsubB (cs := [zB_X3 (g 0) t2 T2, zB_X3 (g 0) h T]) hD [3, 7] (by decide) rfl (zF2 _ _)) rfl rfl rfl hS hl.1 rfl rfl (Nat.le_of_ble_eq_true rfl) ⟨Nat.zero_le _, Nat.zero_le _⟩ dX1_save_47 (fun H1 locs hP1 hk1 hS => ?_)
          obtain ⟨hP, hD⟩ := zjoinB (cs := [zB_X3 (g 0) t2 T2, zB_X3 (g 0) h T]) (cs' := [zB_X3 (g 0) t2 (v_X3_copy T2 T), zB_X3 (g 0) h T]) hP hD [3, 7] (by decide) rfl rfl (zF2 _ _) (zF2 _ _) hk1 hP1
          clear hP1 hk1
          have hP : va_P D vwCl (zF [zB_X1 (g 1) u t0 t1 t2 t3 t4 t5 (zU (zU Z 1 (fun _ => (nI ((Int32.toNatClampNeg (Z 1 0) + 1) % 6)))) 0 (fun _ => (nI ((Int32.toNatClampNeg (Z 0 0)) - 1)))), zB_X3 (g 0) t0 T0, zB_X3 (g 0) t1 T1, zB_X3 (g 0) t2 (v_X3_copy T2 T), zB_X3 (g 0) t3 T3, zB_X3 (g 0) t4 T4, zB_X3 (g 0) t5 T5, zB_X3 (g 0) h T]) H1 := hP
          have hD : va_D (zA (zF [zB_X1 (g 1) u t0 t1 t2 t3 t4 t5 Z, zB_X3 (g 0) t0 T0, zB_X3 (g 0) t1 T1, zB_X3 (g 0) t2 T2, zB_X3 (g 0) t3 T3, zB_X3 (g 0) t4 T4, zB_X3 (g 0) t5 T5, zB_X3 (g 0) h T])) (zF [zB_X1 (g 1) u t0 t1 t2 t3 t4 t5 (zU (zU Z 1 (fun _ => (nI ((Int32.toNatClampNeg (Z 1 0) + 1) % 6)))) 0 (fun _ => (nI ((Int32.toNatClampNeg (Z 0 0)) - 1)))), zB_X3 (g 0) t0 T0, zB_X3 (g 0) t1 T1, zB_X3 (g 0) t2 (v_X3_copy T2 T), zB_X3 (g 0) t3 T3, zB_X3 (g 0) t4 T4, zB_X3 (g 0) t5 T5, zB_X3 (g 0) h T]) := hD
          refine lv_aload_n hx hb dX1_save_50 rfl (lv_at hl 1 rfl) ?_
          refine lv_dup hx hb dX1_save_51 rfl ?_
          refine va_get (D := D) (ci := 1) (v := .int (nI ((Int32.toNatClampNeg (Z 0 0)) - 1))) (C := RX1) (T := TX1) (N := 3) hx hb hts hinX1 hown hK.1 hP 0 rfl rfl 0 (by decide) (hts (.fieldLink RX1 18 "SaltShares$History" "size" "I") (List.mem_of_getElem? (i := 1) rfl)) (fun _ h9 => h9) rfl dX1_save_52 ?_
          refine lv_iconst (v := 1) hx hb dX1_save_55 (by decide) ?_
          refine lv_iadd hx hb dX1_save_56 ?_
          refine lv_is (show (nI ((Int32.toNatClampNeg (Z 0 0)) - 1)) + 1 = (nI ((Int32.toNatClampNeg (Z 0 0)) - 1 + 1)) from nI_add ((Int32.toNatClampNeg (Z 0 0)) - 1) 1) ?_
          refine va_put (D := D) (ci := 1) (v := .int (nI ((Int32.toNatClampNeg (Z 0 0)) - 1 + 1))) (ty := .int) (C := RX1) (T := TX1) (N := 3) hx hb hts hinX1 tyX1 tyX1_ok nmX1 hown hK.1 hP hD hS 0 rfl rfl 0 (by decide) (hts (.fieldLink RX1 18 "SaltShares$History" "size" "I") (List.mem_of_getElem? (i := 1) rfl)) (fun _ h9 => h9) rfl (by decide +kernel) rfl rfl (Nat.le_of_ble_eq_true rfl) dX1_save_57 (fun H locs hP hD hS => ?_)
          have hP : va_P D vwCl (zF [zB_X1 (g 1) u t0 t1 t2 t3 t4 t5 (zU (zU Z 1 (fun _ => (nI ((Int32.toNatClampNeg (Z 1 0) + 1) % 6)))) 0 (fun _ => (nI ((Int32.toNatClampNeg (Z 0 0)) - 1 + 1)))), zB_X3 (g 0) t0 T0, zB_X3 (g 0) t1 T1, zB_X3 (g 0) t2 (v_X3_copy T2 T), zB_X3 (g 0) t3 T3, zB_X3 (g 0) t4 T4, zB_X3 (g 0) t5 T5, zB_X3 (g 0) h T]) H := hP
          have hD : va_D (zA (zF [zB_X1 (g 1) u t0 t1 t2 t3 t4 t5 Z, zB_X3 (g 0) t0 T0, zB_X3 (g 0) t1 T1, zB_X3 (g 0) t2 T2, zB_X3 (g 0) t3 T3, zB_X3 (g 0) t4 T4, zB_X3 (g 0) t5 T5, zB_X3 (g 0) h T])) (zF [zB_X1 (g 1) u t0 t1 t2 t3 t4 t5 (zU (zU Z 1 (fun _ => (nI ((Int32.toNatClampNeg (Z 1 0) + 1) % 6)))) 0 (fun _ => (nI ((Int32.toNatClampNeg (Z 0 0)) - 1 + 1)))), zB_X3 (g 0) t0 T0, zB_X3 (g 0) t1 T1, zB_X3 (g 0) t2 (v_X3_copy T2 T), zB_X3 (g 0) t3 T3, zB_X3 (g 0) t4 T4, zB_X3 (g 0) t5 T5, zB_X3 (g 0) h T]) := hD
          exact zretw_v hx hb hr hlocks dX1_save_60 hP hS (congrArg (fun z9 => zF [zB_X1 (g 1) u t0 t1 t2 t3 t4 t5 z9.1, zB_X3 (g 0) t0 z9.2.1, zB_X3 (g 0) t1 z9.2.2.1, zB_X3 (g 0) t2 z9.2.2.2.1, zB_X3 (g 0) t3 z9.2.2.2.2.1, zB_X3 (g 0) t4 z9.2.2.2.2.2.1, zB_X3 (g 0) t5 z9.2.2.2.2.2.2, zB_X3 (g 0) h T]) hq)
        · have hq := hq.trans (if_neg j_23)
          by_cases j_25 : v_X1_latestAfter (zU (zU Z 1 (fun _ => (nI ((Int32.toNatClampNeg (Z 1 0) + 1) % 6)))) 0 (fun _ => (nI ((Int32.toNatClampNeg (Z 0 0)) - 1)))) ((Int32.toNatClampNeg (Z 0 0)) - 1) = 3
          · have hq := hq.trans (if_pos j_25)
            have hl : lv_has ls 3 [(2, .ref (t3 0)), (0, .ref (u 0)), (1, .ref (h 0))] := by rw [j_25] at hl; exact hl
            refine lv_aload_n hx hb dX1_save_41 rfl (lv_at hl 0 rfl) ?_
            refine lv_ifnull hx hb dX1_save_42 ?_
            refine lv_aload_n hx hb dX1_save_45 rfl (lv_at hl 0 rfl) ?_
            refine lv_aload_n hx hb dX1_save_46 rfl (lv_at hl 2 rfl) ?_
            refine zcVw (ci := 3) (n := 1) (c_X3_copy l D g t3 h T3 T) hx hb hml hown hts gX1_save_X3_copyFrom rfl ⟨rfl, by decide, by decide, by decide⟩ ⟨Nat.le_of_ble_eq_true rfl, Nat.le_of_ble_eq_true rfl⟩ ⟨rfl, rfl⟩ hK (zsubB (cs := [zB_X3 (g 0) t3 T3, zB_X3 (g 0) h T]) hP [4, 7] rfl (zF2 _ _)) (zDsubB (cs := [zB_X3 (g 0) t3 T3, zB_X3 (g 0) h T]) hD [4, 7] (by decide) rfl (zF2 _ _)) rfl rfl rfl hS hl.1 rfl rfl (Nat.le_of_ble_eq_true rfl) ⟨Nat.zero_le _, Nat.zero_le _⟩ dX1_save_47 (fun H1 locs hP1 hk1 hS => ?_)
            obtain ⟨hP, hD⟩ := zjoinB (cs := [zB_X3 (g 0) t3 T3, zB_X3 (g 0) h T]) (cs' := [zB_X3 (g 0) t3 (v_X3_copy T3 T), zB_X3 (g 0) h T]) hP hD [4, 7] (by decide) rfl rfl (zF2 _ _) (zF2 _ _) hk1 hP1
            clear hP1 hk1
            have hP : va_P D vwCl (zF [zB_X1 (g 1) u t0 t1 t2 t3 t4 t5 (zU (zU Z 1 (fun _ => (nI ((Int32.toNatClampNeg (Z 1 0) + 1) % 6)))) 0 (fun _ => (nI ((Int32.toNatClampNeg (Z 0 0)) - 1)))), zB_X3 (g 0) t0 T0, zB_X3 (g 0) t1 T1, zB_X3 (g 0) t2 T2, zB_X3 (g 0) t3 (v_X3_copy T3 T), zB_X3 (g 0) t4 T4, zB_X3 (g 0) t5 T5, zB_X3 (g 0) h T]) H1 := hP
            have hD : va_D (zA (zF [zB_X1 (g 1) u t0 t1 t2 t3 t4 t5 Z, zB_X3 (g 0) t0 T0, zB_X3 (g 0) t1 T1, zB_X3 (g 0) t2 T2, zB_X3 (g 0) t3 T3, zB_X3 (g 0) t4 T4, zB_X3 (g 0) t5 T5, zB_X3 (g 0) h T])) (zF [zB_X1 (g 1) u t0 t1 t2 t3 t4 t5 (zU (zU Z 1 (fun _ => (nI ((Int32.toNatClampNeg (Z 1 0) + 1) % 6)))) 0 (fun _ => (nI ((Int32.toNatClampNeg (Z 0 0)) - 1)))), zB_X3 (g 0) t0 T0, zB_X3 (g 0) t1 T1, zB_X3 (g 0) t2 T2, zB_X3 (g 0) t3 (v_X3_copy T3 T), zB_X3 (g 0) t4 T4, zB_X3 (g 0) t5 T5, zB_X3 (g 0) h T]) := hD
            refine lv_aload_n hx hb dX1_save_50 rfl (lv_at hl 1 rfl) ?_
            refine lv_dup hx hb dX1_save_51 rfl ?_
            refine va_get (D := D) (ci := 1) (v := .int (nI ((Int32.toNatClampNeg (Z 0 0)) - 1))) (C := RX1) (T := TX1) (N := 3) hx hb hts hinX1 hown hK.1 hP 0 rfl rfl 0 (by decide) (hts (.fieldLink RX1 18 "SaltShares$History" "size" "I") (List.mem_of_getElem? (i := 1) rfl)) (fun _ h9 => h9) rfl dX1_save_52 ?_
            refine lv_iconst (v := 1) hx hb dX1_save_55 (by decide) ?_
            refine lv_iadd hx hb dX1_save_56 ?_
            refine lv_is (show (nI ((Int32.toNatClampNeg (Z 0 0)) - 1)) + 1 = (nI ((Int32.toNatClampNeg (Z 0 0)) - 1 + 1)) from nI_add ((Int32.toNatClampNeg (Z 0 0)) - 1) 1) ?_
            refine va_put (D := D) (ci := 1) (v := .int (nI ((Int32.toNatClampNeg (Z 0 0)) - 1 + 1))) (ty := .int) (C := RX1) (T := TX1) (N := 3) hx hb hts hinX1 tyX1 tyX1_ok nmX1 hown hK.1 hP hD hS 0 rfl rfl 0 (by decide) (hts (.fieldLink RX1 18 "SaltShares$History" "size" "I") (List.mem_of_getElem? (i := 1) rfl)) (fun _ h9 => h9) rfl (by decide +kernel) rfl rfl (Nat.le_of_ble_eq_true rfl) dX1_save_57 (fun H locs hP hD hS => ?_)
            have hP : va_P D vwCl (zF [zB_X1 (g 1) u t0 t1 t2 t3 t4 t5 (zU (zU Z 1 (fun _ => (nI ((Int32.toNatClampNeg (Z 1 0) + 1) % 6)))) 0 (fun _ => (nI ((Int32.toNatClampNeg (Z 0 0)) - 1 + 1)))), zB_X3 (g 0) t0 T0, zB_X3 (g 0) t1 T1, zB_X3 (g 0) t2 T2, zB_X3 (g 0) t3 (v_X3_copy T3 T), zB_X3 (g 0) t4 T4, zB_X3 (g 0) t5 T5, zB_X3 (g 0) h T]) H := hP
            have hD : va_D (zA (zF [zB_X1 (g 1) u t0 t1 t2 t3 t4 t5 Z, zB_X3 (g 0) t0 T0, zB_X3 (g 0) t1 T1, zB_X3 (g 0) t2 T2, zB_X3 (g 0) t3 T3, zB_X3 (g 0) t4 T4, zB_X3 (g 0) t5 T5, zB_X3 (g 0) h T])) (zF [zB_X1 (g 1) u t0 t1 t2 t3 t4 t5 (zU (zU Z 1 (fun _ => (nI ((Int32.toNatClampNeg (Z 1 0) + 1) % 6)))) 0 (fun _ => (nI ((Int32.toNatClampNeg (Z 0 0)) - 1 + 1)))), zB_X3 (g 0) t0 T0, zB_X3 (g 0) t1 T1, zB_X3 (g 0) t2 T2, zB_X3 (g 0) t3 (v_X3_copy T3 T), zB_X3 (g 0) t4 T4, zB_X3 (g 0) t5 T5, zB_X3 (g 0) h T]) := hD
            exact zretw_v hx hb hr hlocks dX1_save_60 hP hS (congrArg (fun z9 => zF [zB_X1 (g 1) u t0 t1 t2 t3 t4 t5 z9.1, zB_X3 (g 0) t0 z9.2.1, zB_X3 (g 0) t1 z9.2.2.1, zB_X3 (g 0) t2 z9.2.2.2.1, zB_X3 (g 0) t3 z9.2.2.2.2.1, zB_X3 (g 0) t4 z9.2.2.2.2.2.1, zB_X3 (g 0) t5 z9.2.2.2.2.2.2, zB_X3 (g 0) h T]) hq)
          · have hq := hq.trans (if_neg j_25)
            by_cases j_27 : v_X1_latestAfter (zU (zU Z 1 (fun _ => (nI ((Int32.toNatClampNeg (Z 1 0) + 1) % 6)))) 0 (fun _ => (nI ((Int32.toNatClampNeg (Z 0 0)) - 1)))) ((Int32.toNatClampNeg (Z 0 0)) - 1) = 4
            · have hq := hq.trans (if_pos j_27)
              have hl : lv_has ls 3 [(2, .ref (t4 0)), (0, .ref (u 0)), (1, .ref (h 0))] := by rw [j_27] at hl; exact hl
              refine lv_aload_n hx hb dX1_save_41 rfl (lv_at hl 0 rfl) ?_
              refine lv_ifnull hx hb dX1_save_42 ?_
              refine lv_aload_n hx hb dX1_save_45 rfl (lv_at hl 0 rfl) ?_
              refine lv_aload_n hx hb dX1_save_46 rfl (lv_at hl 2 rfl) ?_
              refine zcVw (ci := 3) (n := 1) (c_X3_copy l D g t4 h T4 T) hx hb hml hown hts gX1_save_X3_copyFrom rfl ⟨rfl, by decide, by decide, by decide⟩ ⟨Nat.le_of_ble_eq_true rfl, Nat.le_of_ble_eq_true rfl⟩ ⟨rfl, rfl⟩ hK (zsubB (cs := [zB_X3 (g 0) t4 T4, zB_X3 (g 0) h T]) hP [5, 7] rfl (zF2 _ _)) (zDsubB (cs := [zB_X3 (g 0) t4 T4, zB_X3 (g 0) h T]) hD [5, 7] (by decide) rfl (zF2 _ _)) rfl rfl rfl hS hl.1 rfl rfl (Nat.le_of_ble_eq_true rfl) ⟨Nat.zero_le _, Nat.zero_le _⟩ dX1_save_47 (fun H1 locs hP1 hk1 hS => ?_)
              obtain ⟨hP, hD⟩ := zjoinB (cs := [zB_X3 (g 0) t4 T4, zB_X3 (g 0) h T]) (cs' := [zB_X3 (g 0) t4 (v_X3_copy T4 T), zB_X3 (g 0) h T]) hP hD [5, 7] (by decide) rfl rfl (zF2 _ _) (zF2 _ _) hk1 hP1
              clear hP1 hk1
              have hP : va_P D vwCl (zF [zB_X1 (g 1) u t0 t1 t2 t3 t4 t5 (zU (zU Z 1 (fun _ => (nI ((Int32.toNatClampNeg (Z 1 0) + 1) % 6)))) 0 (fun _ => (nI ((Int32.toNatClampNeg (Z 0 0)) - 1)))), zB_X3 (g 0) t0 T0, zB_X3 (g 0) t1 T1, zB_X3 (g 0) t2 T2, zB_X3 (g 0) t3 T3, zB_X3 (g 0) t4 (v_X3_copy T4 T), zB_X3 (g 0) t5 T5, zB_X3 (g 0) h T]) H1 := hP
              have hD : va_D (zA (zF [zB_X1 (g 1) u t0 t1 t2 t3 t4 t5 Z, zB_X3 (g 0) t0 T0, zB_X3 (g 0) t1 T1, zB_X3 (g 0) t2 T2, zB_X3 (g 0) t3 T3, zB_X3 (g 0) t4 T4, zB_X3 (g 0) t5 T5, zB_X3 (g 0) h T])) (zF [zB_X1 (g 1) u t0 t1 t2 t3 t4 t5 (zU (zU Z 1 (fun _ => (nI ((Int32.toNatClampNeg (Z 1 0) + 1) % 6)))) 0 (fun _ => (nI ((Int32.toNatClampNeg (Z 0 0)) - 1)))), zB_X3 (g 0) t0 T0, zB_X3 (g 0) t1 T1, zB_X3 (g 0) t2 T2, zB_X3 (g 0) t3 T3, zB_X3 (g 0) t4 (v_X3_copy T4 T), zB_X3 (g 0) t5 T5, zB_X3 (g 0) h T]) := hD
              refine lv_aload_n hx hb dX1_save_50 rfl (lv_at hl 1 rfl) ?_
              refine lv_dup hx hb dX1_save_51 rfl ?_
              refine va_get (D := D) (ci := 1) (v := .int (nI ((Int32.toNatClampNeg (Z 0 0)) - 1))) (C := RX1) (T := TX1) (N := 3) hx hb hts hinX1 hown hK.1 hP 0 rfl rfl 0 (by decide) (hts (.fieldLink RX1 18 "SaltShares$History" "size" "I") (List.mem_of_getElem? (i := 1) rfl)) (fun _ h9 => h9) rfl dX1_save_52 ?_
              refine lv_iconst (v := 1) hx hb dX1_save_55 (by decide) ?_
              refine lv_iadd hx hb dX1_save_56 ?_
              refine lv_is (show (nI ((Int32.toNatClampNeg (Z 0 0)) - 1)) + 1 = (nI ((Int32.toNatClampNeg (Z 0 0)) - 1 + 1)) from nI_add ((Int32.toNatClampNeg (Z 0 0)) - 1) 1) ?_
              refine va_put (D := D) (ci := 1) (v := .int (nI ((Int32.toNatClampNeg (Z 0 0)) - 1 + 1))) (ty := .int) (C := RX1) (T := TX1) (N := 3) hx hb hts hinX1 tyX1 tyX1_ok nmX1 hown hK.1 hP hD hS 0 rfl rfl 0 (by decide) (hts (.fieldLink RX1 18 "SaltShares$History" "size" "I") (List.mem_of_getElem? (i := 1) rfl)) (fun _ h9 => h9) rfl (by decide +kernel) rfl rfl (Nat.le_of_ble_eq_true rfl) dX1_save_57 (fun H locs hP hD hS => ?_)
              have hP : va_P D vwCl (zF [zB_X1 (g 1) u t0 t1 t2 t3 t4 t5 (zU (zU Z 1 (fun _ => (nI ((Int32.toNatClampNeg (Z 1 0) + 1) % 6)))) 0 (fun _ => (nI ((Int32.toNatClampNeg (Z 0 0)) - 1 + 1)))), zB_X3 (g 0) t0 T0, zB_X3 (g 0) t1 T1, zB_X3 (g 0) t2 T2, zB_X3 (g 0) t3 T3, zB_X3 (g 0) t4 (v_X3_copy T4 T), zB_X3 (g 0) t5 T5, zB_X3 (g 0) h T]) H := hP
              have hD : va_D (zA (zF [zB_X1 (g 1) u t0 t1 t2 t3 t4 t5 Z, zB_X3 (g 0) t0 T0, zB_X3 (g 0) t1 T1, zB_X3 (g 0) t2 T2, zB_X3 (g 0) t3 T3, zB_X3 (g 0) t4 T4, zB_X3 (g 0) t5 T5, zB_X3 (g 0) h T])) (zF [zB_X1 (g 1) u t0 t1 t2 t3 t4 t5 (zU (zU Z 1 (fun _ => (nI ((Int32.toNatClampNeg (Z 1 0) + 1) % 6)))) 0 (fun _ => (nI ((Int32.toNatClampNeg (Z 0 0)) - 1 + 1)))), zB_X3 (g 0) t0 T0, zB_X3 (g 0) t1 T1, zB_X3 (g 0) t2 T2, zB_X3 (g 0) t3 T3, zB_X3 (g 0) t4 (v_X3_copy T4 T), zB_X3 (g 0) t5 T5, zB_X3 (g 0) h T]) := hD
              exact zretw_v hx hb hr hlocks dX1_save_60 hP hS (congrArg (fun z9 => zF [zB_X1 (g 1) u t0 t1 t2 t3 t4 t5 z9.1, zB_X3 (g 0) t0 z9.2.1, zB_X3 (g 0) t1 z9.2.2.1, zB_X3 (g 0) t2 z9.2.2.2.1, zB_X3 (g 0) t3 z9.2.2.2.2.1, zB_X3 (g 0) t4 z9.2.2.2.2.2.1, zB_X3 (g 0) t5 z9.2.2.2.2.2.2, zB_X3 (g 0) h T]) hq)
            · have hq := hq.trans (if_neg j_27)
              have j_29 : v_X1_latestAfter (zU (zU Z 1 (fun _ => (nI ((Int32.toNatClampNeg (Z 1 0) + 1) % 6)))) 0 (fun _ => (nI ((Int32.toNatClampNeg (Z 0 0)) - 1)))) ((Int32.toNatClampNeg (Z 0 0)) - 1) = 5 := by omega
              have hl : lv_has ls 3 [(2, .ref (t5 0)), (0, .ref (u 0)), (1, .ref (h 0))] := by rw [j_29] at hl; exact hl
              refine lv_aload_n hx hb dX1_save_41 rfl (lv_at hl 0 rfl) ?_
              refine lv_ifnull hx hb dX1_save_42 ?_
              refine lv_aload_n hx hb dX1_save_45 rfl (lv_at hl 0 rfl) ?_
              refine lv_aload_n hx hb dX1_save_46 rfl (lv_at hl 2 rfl) ?_
              refine zcVw (ci := 3) (n := 1) (c_X3_copy l D g t5 h T5 T) hx hb hml hown hts gX1_save_X3_copyFrom rfl ⟨rfl, by decide, by decide, by decide⟩ ⟨Nat.le_of_ble_eq_true rfl, Nat.le_of_ble_eq_true rfl⟩ ⟨rfl, rfl⟩ hK (zsubB (cs := [zB_X3 (g 0) t5 T5, zB_X3 (g 0) h T]) hP [6, 7] rfl (zF2 _ _)) (zDsubB (cs := [zB_X3 (g 0) t5 T5, zB_X3 (g 0) h T]) hD [6, 7] (by decide) rfl (zF2 _ _)) rfl rfl rfl hS hl.1 rfl rfl (Nat.le_of_ble_eq_true rfl) ⟨Nat.zero_le _, Nat.zero_le _⟩ dX1_save_47 (fun H1 locs hP1 hk1 hS => ?_)
              obtain ⟨hP, hD⟩ := zjoinB (cs := [zB_X3 (g 0) t5 T5, zB_X3 (g 0) h T]) (cs' := [zB_X3 (g 0) t5 (v_X3_copy T5 T), zB_X3 (g 0) h T]) hP hD [6, 7] (by decide) rfl rfl (zF2 _ _) (zF2 _ _) hk1 hP1
              clear hP1 hk1
              have hP : va_P D vwCl (zF [zB_X1 (g 1) u t0 t1 t2 t3 t4 t5 (zU (zU Z 1 (fun _ => (nI ((Int32.toNatClampNeg (Z 1 0) + 1) % 6)))) 0 (fun _ => (nI ((Int32.toNatClampNeg (Z 0 0)) - 1)))), zB_X3 (g 0) t0 T0, zB_X3 (g 0) t1 T1, zB_X3 (g 0) t2 T2, zB_X3 (g 0) t3 T3, zB_X3 (g 0) t4 T4, zB_X3 (g 0) t5 (v_X3_copy T5 T), zB_X3 (g 0) h T]) H1 := hP
              have hD : va_D (zA (zF [zB_X1 (g 1) u t0 t1 t2 t3 t4 t5 Z, zB_X3 (g 0) t0 T0, zB_X3 (g 0) t1 T1, zB_X3 (g 0) t2 T2, zB_X3 (g 0) t3 T3, zB_X3 (g 0) t4 T4, zB_X3 (g 0) t5 T5, zB_X3 (g 0) h T])) (zF [zB_X1 (g 1) u t0 t1 t2 t3 t4 t5 (zU (zU Z 1 (fun _ => (nI ((Int32.toNatClampNeg (Z 1 0) + 1) % 6)))) 0 (fun _ => (nI ((Int32.toNatClampNeg (Z 0 0)) - 1)))), zB_X3 (g 0) t0 T0, zB_X3 (g 0) t1 T1, zB_X3 (g 0) t2 T2, zB_X3 (g 0) t3 T3, zB_X3 (g 0) t4 T4, zB_X3 (g 0) t5 (v_X3_copy T5 T), zB_X3 (g 0) h T]) := hD
              refine lv_aload_n hx hb dX1_save_50 rfl (lv_at hl 1 rfl) ?_
              refine lv_dup hx hb dX1_save_51 rfl ?_
              refine va_get (D := D) (ci := 1) (v := .int (nI ((Int32.toNatClampNeg (Z 0 0)) - 1))) (C := RX1) (T := TX1) (N := 3) hx hb hts hinX1 hown hK.1 hP 0 rfl rfl 0 (by decide) (hts (.fieldLink RX1 18 "SaltShares$History" "size" "I") (List.mem_of_getElem? (i := 1) rfl)) (fun _ h9 => h9) rfl dX1_save_52 ?_
              refine lv_iconst (v := 1) hx hb dX1_save_55 (by decide) ?_
              refine lv_iadd hx hb dX1_save_56 ?_
              refine lv_is (show (nI ((Int32.toNatClampNeg (Z 0 0)) - 1)) + 1 = (nI ((Int32.toNatClampNeg (Z 0 0)) - 1 + 1)) from nI_add ((Int32.toNatClampNeg (Z 0 0)) - 1) 1) ?_
              refine va_put (D := D) (ci := 1) (v := .int (nI ((Int32.toNatClampNeg (Z 0 0)) - 1 + 1))) (ty := .int) (C := RX1) (T := TX1) (N := 3) hx hb hts hinX1 tyX1 tyX1_ok nmX1 hown hK.1 hP hD hS 0 rfl rfl 0 (by decide) (hts (.fieldLink RX1 18 "SaltShares$History" "size" "I") (List.mem_of_getElem? (i := 1) rfl)) (fun _ h9 => h9) rfl (by decide +kernel) rfl rfl (Nat.le_of_ble_eq_true rfl) dX1_save_57 (fun H locs hP hD hS => ?_)
              have hP : va_P D vwCl (zF [zB_X1 (g 1) u t0 t1 t2 t3 t4 t5 (zU (zU Z 1 (fun _ => (nI ((Int32.toNatClampNeg (Z 1 0) + 1) % 6)))) 0 (fun _ => (nI ((Int32.toNatClampNeg (Z 0 0)) - 1 + 1)))), zB_X3 (g 0) t0 T0, zB_X3 (g 0) t1 T1, zB_X3 (g 0) t2 T2, zB_X3 (g 0) t3 T3, zB_X3 (g 0) t4 T4, zB_X3 (g 0) t5 (v_X3_copy T5 T), zB_X3 (g 0) h T]) H := hP
              have hD : va_D (zA (zF [zB_X1 (g 1) u t0 t1 t2 t3 t4 t5 Z, zB_X3 (g 0) t0 T0, zB_X3 (g 0) t1 T1, zB_X3 (g 0) t2 T2, zB_X3 (g 0) t3 T3, zB_X3 (g 0) t4 T4, zB_X3 (g 0) t5 T5, zB_X3 (g 0) h T])) (zF [zB_X1 (g 1) u t0 t1 t2 t3 t4 t5 (zU (zU Z 1 (fun _ => (nI ((Int32.toNatClampNeg (Z 1 0) + 1) % 6)))) 0 (fun _ => (nI ((Int32.toNatClampNeg (Z 0 0)) - 1 + 1)))), zB_X3 (g 0) t0 T0, zB_X3 (g 0) t1 T1, zB_X3 (g 0) t2 T2, zB_X3 (g 0) t3 T3, zB_X3 (g 0) t4 T4, zB_X3 (g 0) t5 (v_X3_copy T5 T), zB_X3 (g 0) h T]) := hD
              exact zretw_v hx hb hr hlocks dX1_save_60 hP hS (congrArg (fun z9 => zF [zB_X1 (g 1) u t0 t1 t2 t3 t4 t5 z9.1, zB_X3 (g 0) t0 z9.2.1, zB_X3 (g 0) t1 z9.2.2.1, zB_X3 (g 0) t2 z9.2.2.2.1, zB_X3 (g 0) t3 z9.2.2.2.2.1, zB_X3 (g 0) t4 z9.2.2.2.2.2.1, zB_X3 (g 0) t5 z9.2.2.2.2.2.2, zB_X3 (g 0) h T]) hq)
