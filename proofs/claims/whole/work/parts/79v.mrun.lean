def v_X5_run_57  : Nat → Nat → (Nat → Nat → Int32) → Int32 × (Nat → Nat → Int32)
  | 0, _, _ => (0, (fun _ _ => 0))
  | n + 1, i, M1 => (if Int32.toNatClampNeg (M1 8 0) < i then ((nI i), M1) else (if ((v_X5_carries M1 i).1) = true then v_X5_run_57 n (i + 1) ((v_X5_carries M1 i).2) else ((nI i), (v_X5_carries M1 i).2)))
def v_X5_run (M : Nat → Nat → Int32) : Int32 × (Nat → Nat → Int32) := (if ((v_X5_rightUpTo M).1) = (((v_X5_rightUpTo M).2) 3 0) then (if (v_X5_isEnded ((v_X5_rightUpTo M).2)) = true then v_X5_run_57 25 0 (zU (v_X5_save (zU ((v_X5_rightUpTo M).2) 5 (fun _ => 0))) 3 (fun _ => 0)) else (0, zU ((v_X5_rightUpTo M).2) 5 (fun _ => 1))) else (0, zU ((v_X5_rightUpTo M).2) 5 (fun _ => 1)))
set_option maxHeartbeats 400000 in
set_option maxRecDepth 100000 in
theorem c_X5_run (l : Launch) (D : va_G) (g : Nat → ClassId) (u : Nat → Nat) (M : Nat → Nat → Int32) (w : Int64) (z0 : zI M) (z1 : vp_in (M 1 0) 7) (z2 : vp_in (M 3 0) 61) : Wr l D (zT g) yX5_run wsX5_run (rmOf 7 161) [.ref (u 0)] (zB_X5 (g 0) u M w) (some (.int ((v_X5_run M).1))) (zB_X5 (g 0) u ((v_X5_run M).2) w) := by
  refine Wr.of (cc := cX5_run) (maxL := 3) (ret := (some .int)) (by decide) rfl (Nat.le_of_ble_eq_true rfl) ?_
  intro p e s m below meth c ls hx hb hr hml hown hts hlocks hP hD hS hK hl
  have hown : s.vm.findClass RX5 = some m.cls := hown
  have hinX5 : ∀ w ∈ u_ws RX5 TX5 13, w ∈ wsX5_run := fun _ h9 => (List.mem_cons_of_mem _ (List.mem_append_right _ h9))
  obtain ⟨q, hq⟩ : ∃ q : Int32 × (Nat → Nat → Int32), q = v_X5_run M := ⟨_, rfl⟩
  rw [← hq]
  unfold v_X5_run at hq
  have hl : lv_has ls 3 [(0, .ref (u 0))] := hl
  refine lv_aload_n hx hb dX5_run_0 rfl (lv_at hl 0 rfl) ?_
  refine zcVw (ci := 5) (n := 0) (c_X5_rightUpTo l D g u M w z2) hx hb hml hown hts gX5_run_X5_rightUpTo rfl ⟨rfl, by decide, by decide, by decide⟩ ⟨Nat.le_of_ble_eq_true rfl, Nat.le_of_ble_eq_true rfl⟩ ⟨rfl, rfl⟩ hK hP hD rfl rfl rfl hS hl.1 rfl rfl (Nat.le_of_ble_eq_true rfl) ⟨Nat.zero_le _, Nat.zero_le _⟩ dX5_run_1 (fun H1 locs hP1 hk1 hS => ?_)
  have hD := zD_addr (ws' := zB_X5 (g 0) u ((v_X5_rightUpTo M).2) w) hD (by simp only [zF, List.flatten_cons, List.flatten_nil, List.append_nil, List.map_append, List.map_cons, List.map_nil, zad_X0, zad_X1, zad_X2, zad_X3, zad_X4, zad_X5]); have hP := hP1
  clear hP1 hk1
  have hP : va_P D vwCl (zB_X5 (g 0) u ((v_X5_rightUpTo M).2) w) H1 := hP
  have hD : va_D (zA (zB_X5 (g 0) u M w)) (zB_X5 (g 0) u ((v_X5_rightUpTo M).2) w) := hD
  refine lv_aload_n hx hb dX5_run_4 rfl (lv_at hl 0 rfl) ?_
  refine va_get (D := D) (ci := 5) (v := .int (((v_X5_rightUpTo M).2) 3 0)) (C := RX5) (T := TX5) (N := 13) hx hb hts hinX5 hown hK.1 hP 0 rfl rfl 3 (by decide) (hts (.fieldLink RX5 153 "SaltSharesModel" "length" "I") (List.mem_of_getElem? (i := 1) rfl)) (fun _ h9 => h9) rfl dX5_run_5 ?_
  refine lv_icmp_ne (tgt := 22) hx hb dX5_run_8 (by decide) (fun c_2 => ?_) (fun c_2 => ?_)
  · have c_2 : ¬ (((v_X5_rightUpTo M).1) = (((v_X5_rightUpTo M).2) 3 0)) := c_2
    have hq := hq.trans (if_neg c_2)
    refine lv_iconst (v := 0) hx hb dX5_run_22 (by decide) ?_
    refine lv_istore_n (lv' := [(1, .int 0), (0, .ref (u 0))]) hx hb dX5_run_23 rfl hl (by decide) rfl (fun ls hl => ?_)
    refine lv_aload_n hx hb dX5_run_24 rfl (lv_at hl 1 rfl) ?_
    refine lv_iload_n hx hb dX5_run_25 rfl (lv_at hl 0 rfl) ?_
    refine lv_if_eq (tgt := 33) hx hb dX5_run_26 (by decide) (fun c_3 => ?_) (fun c_3 => ?_)
    rotate_left
    · exact absurd c_3 (by decide)
    refine lv_iconst (v := 1) hx hb dX5_run_33 (by decide) ?_
    refine va_put (D := D) (ci := 5) (v := .int 1) (ty := .int) (C := RX5) (T := TX5) (N := 13) hx hb hts hinX5 tyX5 tyX5_ok nmX5 hown hK.1 hP hD hS 0 rfl rfl 5 (by decide) (hts (.fieldLink RX5 28 "SaltSharesModel" "thrown" "I") (List.mem_of_getElem? (i := 2) rfl)) (fun _ h9 => h9) rfl (by decide +kernel) rfl rfl (Nat.le_of_ble_eq_true rfl) dX5_run_34 (fun H locs hP hD hS => ?_)
    have hP : va_P D vwCl (zB_X5 (g 0) u (zU ((v_X5_rightUpTo M).2) 5 (fun _ => 1)) w) H := hP
    have hD : va_D (zA (zB_X5 (g 0) u M w)) (zB_X5 (g 0) u (zU ((v_X5_rightUpTo M).2) 5 (fun _ => 1)) w) := hD
    refine lv_aload_n hx hb dX5_run_37 rfl (lv_at hl 1 rfl) ?_
    refine va_get (D := D) (ci := 5) (v := .int 1) (C := RX5) (T := TX5) (N := 13) hx hb hts hinX5 hown hK.1 hP 0 rfl rfl 5 (by decide) (hts (.fieldLink RX5 28 "SaltSharesModel" "thrown" "I") (List.mem_of_getElem? (i := 2) rfl)) (fun _ h9 => h9) rfl dX5_run_38 ?_
    refine lv_if_le (tgt := 46) hx hb dX5_run_41 (by decide) (fun c_4 => ?_) (fun c_4 => ?_)
    · exact absurd c_4 (by decide)
    refine lv_iconst (v := 0) hx hb dX5_run_44 (by decide) ?_
    exact zretw_i hx hb hr hlocks dX5_run_45 hP hS (by with_reducible exact congrArg (fun z9 => z9.1) hq) (by with_reducible exact congrArg (fun z9 => zB_X5 (g 0) u z9.2 w) hq)
  · have c_2 : ((v_X5_rightUpTo M).1) = (((v_X5_rightUpTo M).2) 3 0) := c_2
    have hq := hq.trans (if_pos c_2)
    refine lv_aload_n hx hb dX5_run_11 rfl (lv_at hl 0 rfl) ?_
    refine zcV (ci := 5) (n := 0) (c_X5_isEnded l D g u ((v_X5_rightUpTo M).2) w) hx hb hml hown hts gX5_run_X5_isEnded rfl ⟨rfl, by decide, by decide, by decide⟩ ⟨Nat.le_of_ble_eq_true rfl, Nat.le_of_ble_eq_true rfl⟩ ⟨rfl, rfl⟩ hK hP rfl rfl rfl hl.1 rfl rfl (Nat.le_of_ble_eq_true rfl) ⟨Nat.zero_le _, Nat.zero_le _⟩ dX5_run_12 ?_
    refine zif_eq (tgt := 22) hx hb dX5_run_15 (by decide) (fun c_6 => ?_) (fun c_6 => ?_)
    · have hq := hq.trans (zif_f c_6)
      refine lv_iconst (v := 0) hx hb dX5_run_22 (by decide) ?_
      refine lv_istore_n (lv' := [(1, .int 0), (0, .ref (u 0))]) hx hb dX5_run_23 rfl hl (by decide) rfl (fun ls hl => ?_)
      refine lv_aload_n hx hb dX5_run_24 rfl (lv_at hl 1 rfl) ?_
      refine lv_iload_n hx hb dX5_run_25 rfl (lv_at hl 0 rfl) ?_
      refine lv_if_eq (tgt := 33) hx hb dX5_run_26 (by decide) (fun c_7 => ?_) (fun c_7 => ?_)
      rotate_left
      · exact absurd c_7 (by decide)
      refine lv_iconst (v := 1) hx hb dX5_run_33 (by decide) ?_
      refine va_put (D := D) (ci := 5) (v := .int 1) (ty := .int) (C := RX5) (T := TX5) (N := 13) hx hb hts hinX5 tyX5 tyX5_ok nmX5 hown hK.1 hP hD hS 0 rfl rfl 5 (by decide) (hts (.fieldLink RX5 28 "SaltSharesModel" "thrown" "I") (List.mem_of_getElem? (i := 2) rfl)) (fun _ h9 => h9) rfl (by decide +kernel) rfl rfl (Nat.le_of_ble_eq_true rfl) dX5_run_34 (fun H locs hP hD hS => ?_)
      have hP : va_P D vwCl (zB_X5 (g 0) u (zU ((v_X5_rightUpTo M).2) 5 (fun _ => 1)) w) H := hP
      have hD : va_D (zA (zB_X5 (g 0) u M w)) (zB_X5 (g 0) u (zU ((v_X5_rightUpTo M).2) 5 (fun _ => 1)) w) := hD
      refine lv_aload_n hx hb dX5_run_37 rfl (lv_at hl 1 rfl) ?_
      refine va_get (D := D) (ci := 5) (v := .int 1) (C := RX5) (T := TX5) (N := 13) hx hb hts hinX5 hown hK.1 hP 0 rfl rfl 5 (by decide) (hts (.fieldLink RX5 28 "SaltSharesModel" "thrown" "I") (List.mem_of_getElem? (i := 2) rfl)) (fun _ h9 => h9) rfl dX5_run_38 ?_
      refine lv_if_le (tgt := 46) hx hb dX5_run_41 (by decide) (fun c_8 => ?_) (fun c_8 => ?_)
      · exact absurd c_8 (by decide)
      refine lv_iconst (v := 0) hx hb dX5_run_44 (by decide) ?_
      exact zretw_i hx hb hr hlocks dX5_run_45 hP hS (by with_reducible exact congrArg (fun z9 => z9.1) hq) (by with_reducible exact congrArg (fun z9 => zB_X5 (g 0) u z9.2 w) hq)
    · have hq := hq.trans (zif_t c_6)
      refine lv_iconst (v := 1) hx hb dX5_run_18 (by decide) ?_
      refine lv_goto (tgt := 23) hx hb dX5_run_19 (by decide) ?_
      refine lv_istore_n (lv' := [(1, .int 1), (0, .ref (u 0))]) hx hb dX5_run_23 rfl hl (by decide) rfl (fun ls hl => ?_)
      refine lv_aload_n hx hb dX5_run_24 rfl (lv_at hl 1 rfl) ?_
      refine lv_iload_n hx hb dX5_run_25 rfl (lv_at hl 0 rfl) ?_
      refine lv_if_eq (tgt := 33) hx hb dX5_run_26 (by decide) (fun c_9 => ?_) (fun c_9 => ?_)
      · exact absurd c_9 (by decide)
      refine lv_iconst (v := 0) hx hb dX5_run_29 (by decide) ?_
      refine lv_goto (tgt := 34) hx hb dX5_run_30 (by decide) ?_
      refine va_put (D := D) (ci := 5) (v := .int 0) (ty := .int) (C := RX5) (T := TX5) (N := 13) hx hb hts hinX5 tyX5 tyX5_ok nmX5 hown hK.1 hP hD hS 0 rfl rfl 5 (by decide) (hts (.fieldLink RX5 28 "SaltSharesModel" "thrown" "I") (List.mem_of_getElem? (i := 2) rfl)) (fun _ h9 => h9) rfl (by decide +kernel) rfl rfl (Nat.le_of_ble_eq_true rfl) dX5_run_34 (fun H locs hP hD hS => ?_)
      have hP : va_P D vwCl (zB_X5 (g 0) u (zU ((v_X5_rightUpTo M).2) 5 (fun _ => 0)) w) H := hP
      have hD : va_D (zA (zB_X5 (g 0) u M w)) (zB_X5 (g 0) u (zU ((v_X5_rightUpTo M).2) 5 (fun _ => 0)) w) := hD
      refine lv_aload_n hx hb dX5_run_37 rfl (lv_at hl 1 rfl) ?_
      refine va_get (D := D) (ci := 5) (v := .int 0) (C := RX5) (T := TX5) (N := 13) hx hb hts hinX5 hown hK.1 hP 0 rfl rfl 5 (by decide) (hts (.fieldLink RX5 28 "SaltSharesModel" "thrown" "I") (List.mem_of_getElem? (i := 2) rfl)) (fun _ h9 => h9) rfl dX5_run_38 ?_
      refine lv_if_le (tgt := 46) hx hb dX5_run_41 (by decide) (fun c_10 => ?_) (fun c_10 => ?_)
      rotate_left
      · exact absurd c_10 (by decide)
      refine lv_aload_n hx hb dX5_run_46 rfl (lv_at hl 1 rfl) ?_
      refine zcVw (ci := 5) (n := 0) (c_X5_save l D g u (zU ((v_X5_rightUpTo M).2) 5 (fun _ => 0)) w (zRn_1 z1 z2)) hx hb hml hown hts gX5_run_X5_save rfl ⟨rfl, by decide, by decide, by decide⟩ ⟨Nat.le_of_ble_eq_true rfl, Nat.le_of_ble_eq_true rfl⟩ ⟨rfl, rfl⟩ hK hP hD rfl rfl rfl hS hl.1 rfl rfl (Nat.le_of_ble_eq_true rfl) ⟨Nat.zero_le _, Nat.zero_le _⟩ dX5_run_47 (fun H1 locs hP1 hk1 hS => ?_)
      have hD := zD_addr (ws' := zB_X5 (g 0) u (v_X5_save (zU ((v_X5_rightUpTo M).2) 5 (fun _ => 0))) w) hD (by simp only [zF, List.flatten_cons, List.flatten_nil, List.append_nil, List.map_append, List.map_cons, List.map_nil, zad_X0, zad_X1, zad_X2, zad_X3, zad_X4, zad_X5]); have hP := hP1
      clear hP1 hk1
      have hP : va_P D vwCl (zB_X5 (g 0) u (v_X5_save (zU ((v_X5_rightUpTo M).2) 5 (fun _ => 0))) w) H1 := hP
      have hD : va_D (zA (zB_X5 (g 0) u M w)) (zB_X5 (g 0) u (v_X5_save (zU ((v_X5_rightUpTo M).2) 5 (fun _ => 0))) w) := hD
      refine lv_aload_n hx hb dX5_run_50 rfl (lv_at hl 1 rfl) ?_
      refine lv_iconst (v := 0) hx hb dX5_run_51 (by decide) ?_
      refine va_put (D := D) (ci := 5) (v := .int 0) (ty := .int) (C := RX5) (T := TX5) (N := 13) hx hb hts hinX5 tyX5 tyX5_ok nmX5 hown hK.1 hP hD hS 0 rfl rfl 3 (by decide) (hts (.fieldLink RX5 153 "SaltSharesModel" "length" "I") (List.mem_of_getElem? (i := 1) rfl)) (fun _ h9 => h9) rfl (by decide +kernel) rfl rfl (Nat.le_of_ble_eq_true rfl) dX5_run_52 (fun H locs hP hD hS => ?_)
      have hP : va_P D vwCl (zB_X5 (g 0) u (zU (v_X5_save (zU ((v_X5_rightUpTo M).2) 5 (fun _ => 0))) 3 (fun _ => 0)) w) H := hP
      have hD : va_D (zA (zB_X5 (g 0) u M w)) (zB_X5 (g 0) u (zU (v_X5_save (zU ((v_X5_rightUpTo M).2) 5 (fun _ => 0))) 3 (fun _ => 0)) w) := hD
      refine lv_iconst (v := 0) hx hb dX5_run_55 (by decide) ?_
      refine lv_istore_n (lv' := [(2, .int 0), (1, .int 1), (0, .ref (u 0))]) hx hb dX5_run_56 rfl hl (by decide) rfl (fun ls hl => ?_)
      have L57 : ∀ (n : Nat) (i : Nat) (M1 : Nat → Nat → Int32), (i ≤ 24) → (zI M1) → (∀ p, p ≤ Int32.toNatClampNeg (M1 8 0) → zNum M1 p) → (vp_in (M1 8 0) 24) → 24 - i < n → ∀ (H : Heap) (locs : List Loc), va_P D vwCl (zB_X5 (g 0) u M1 w) H → va_D (zA (zB_X5 (g 0) u M w)) (zB_X5 (g 0) u M1 w) → va_S (zA (zB_X5 (g 0) u M w)) s.heap H locs → ∀ (ls : Array Slot), lv_has ls 3 [(0, .ref (u 0)), (1, .int 1), (2, .int (nI i))] → q = v_X5_run_57 n i M1 → W p l e (rmOf 7 161) s m [.ref (u 0)].toArray below meth c H locs 0 0 (MQ below (zQw D (zB_X5 (g 0) u M w) (some (.int q.1)) (zB_X5 (g 0) u q.2 w)) [.ref (u 0)].toArray s 0 0 (zA (zB_X5 (g 0) u M w))) (F0 m 57 ls []) := by
        intro n
        induction n with
        | zero => intro i M1 v57_0 v57_1 v57_2 v57_3 hn; exact absurd hn (Nat.not_lt_zero _)
        | succ n ih57 =>
          intro i M1 v57_0 v57_1 v57_2 v57_3 hn57 H locs hP hD hS ls hl hq
          rw [v_X5_run_57] at hq
          refine lv_iload_n hx hb dX5_run_57 rfl (lv_at hl 2 rfl) ?_
          refine lv_aload_n hx hb dX5_run_58 rfl (lv_at hl 0 rfl) ?_
          refine va_get (D := D) (ci := 5) (v := .int (M1 8 0)) (C := RX5) (T := TX5) (N := 13) hx hb hts hinX5 hown hK.1 hP 0 rfl rfl 8 (by decide) (hts (.fieldLink RX5 156 "SaltSharesModel" "read" "I") (List.mem_of_getElem? (i := 3) rfl)) (fun _ h9 => h9) rfl dX5_run_59 ?_
          have w_12 := znat v57_3
          have w_12b := w_12.2
          refine lv_is w_12.1 ?_
          refine lv_icmp_gt (tgt := 79) hx hb dX5_run_62 (by decide) (fun c_13 => ?_) (fun c_13 => ?_)
          · have c_13 : Int32.toNatClampNeg (M1 8 0) < i := (nI_ltI (a := Int32.toNatClampNeg (M1 8 0)) (b := i) (by omega) (by omega)).mp c_13
            have hq := hq.trans (if_pos c_13)
            refine lv_iload_n hx hb dX5_run_79 rfl (lv_at hl 2 rfl) ?_
            exact zretw_i hx hb hr hlocks dX5_run_80 hP hS (by with_reducible exact congrArg (fun z9 => z9.1) hq) (by with_reducible exact congrArg (fun z9 => zB_X5 (g 0) u z9.2 w) hq)
          · have c_13 : ¬ (Int32.toNatClampNeg (M1 8 0) < i) := fun h9 => c_13 ((nI_ltI (a := Int32.toNatClampNeg (M1 8 0)) (b := i) (by omega) (by omega)).mpr h9)
            have hq := hq.trans (if_neg c_13)
            refine lv_aload_n hx hb dX5_run_65 rfl (lv_at hl 0 rfl) ?_
            refine lv_iload_n hx hb dX5_run_66 rfl (lv_at hl 2 rfl) ?_
            refine zcVw (ci := 5) (n := 1) (c_X5_carries l D g u M1 w i v57_1 (by omega) ((v57_2 i (by omega)).1) ((v57_2 i (by omega)).2.1) ((v57_2 i (by omega)).2.2)) hx hb hml hown hts gX5_run_X5_carries rfl ⟨rfl, by decide, by decide, by decide⟩ ⟨Nat.le_of_ble_eq_true rfl, Nat.le_of_ble_eq_true rfl⟩ ⟨rfl, rfl⟩ hK hP hD rfl rfl rfl hS hl.1 rfl rfl (Nat.le_of_ble_eq_true rfl) ⟨Nat.zero_le _, Nat.zero_le _⟩ dX5_run_67 (fun H1 locs hP1 hk1 hS => ?_)
            have hD := zD_addr (ws' := zB_X5 (g 0) u ((v_X5_carries M1 i).2) w) hD (by simp only [zF, List.flatten_cons, List.flatten_nil, List.append_nil, List.map_append, List.map_cons, List.map_nil, zad_X0, zad_X1, zad_X2, zad_X3, zad_X4, zad_X5]); have hP := hP1
            clear hP1 hk1
            have hP : va_P D vwCl (zB_X5 (g 0) u ((v_X5_carries M1 i).2) w) H1 := hP
            have hD : va_D (zA (zB_X5 (g 0) u M w)) (zB_X5 (g 0) u ((v_X5_carries M1 i).2) w) := hD
            refine zif_eq (tgt := 79) hx hb dX5_run_70 (by decide) (fun c_15 => ?_) (fun c_15 => ?_)
            · have hq := hq.trans (zif_f c_15)
              refine lv_iload_n hx hb dX5_run_79 rfl (lv_at hl 2 rfl) ?_
              exact zretw_i hx hb hr hlocks dX5_run_80 hP hS (by with_reducible exact congrArg (fun z9 => z9.1) hq) (by with_reducible exact congrArg (fun z9 => zB_X5 (g 0) u z9.2 w) hq)
            · have hq := hq.trans (zif_t c_15)
              refine lv_iinc (v := (nI (i + 1))) (lv' := [(2, .int (nI (i + 1))), (0, .ref (u 0)), (1, .int 1)]) hx hb dX5_run_73 hl (k := 2) rfl (nI_add _ 1) (by decide) rfl (fun ls hl => ?_)
              refine lv_goto (tgt := 57) hx hb dX5_run_76 (by decide) ?_
              exact ih57 (i + 1) ((v_X5_carries M1 i).2) (by omega) (zcr_I v57_1 (v57_2 i (by omega))).1 (zcr_N v57_1 (v57_2 i (by omega)) v57_2) (zcr_8 v57_1 (v57_2 i (by omega)) v57_3) (by omega) _ _ hP hD hS ls (lv_sub hl [1, 2, 0] rfl) hq
      exact L57 25 0 (zU (v_X5_save (zU ((v_X5_rightUpTo M).2) 5 (fun _ => 0))) 3 (fun _ => 0)) (by decide) (zI_row (zRn_0 z1 z2) z0) (zRn_N z1 z2 (by with_reducible assumption) (by with_reducible assumption)) (zRn_8 z1 z2) (by decide) _ _ hP hD hS ls (lv_sub hl [2, 1, 0] rfl) hq
