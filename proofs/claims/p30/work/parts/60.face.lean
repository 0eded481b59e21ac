def zB_X4 (f h u o x : Nat → Nat) : va_W := [(f 0, .inr (4, [.ref (h 0), .ref (u 0), .ref (o 0), .ref (x 0)]))]
def v_X4_isCounted (wh : Int32) : Bool := (if wh < 0 then (if wh < 10 then (if wh < 20 then false else (if 22 < wh then false else true)) else (if wh ≤ 12 then true else (if wh < 20 then false else (if 22 < wh then false else true)))) else (if wh ≤ 8 then true else (if wh < 10 then (if wh < 20 then false else (if 22 < wh then false else true)) else (if wh ≤ 12 then true else (if wh < 20 then false else (if 22 < wh then false else true))))))
set_option maxHeartbeats 400000 in
set_option maxRecDepth 100000 in
theorem c_X4_isCounted (l : Launch) (D : va_G) (g : Nat → ClassId) (wh : Int32) : Rd l D (zT g) yX4_isCounted wsX4_isCounted (rmOf 0 0) [.int wh] ([]) (.int (bI (v_X4_isCounted wh))) := by
  refine Rd.of (cc := cX4_isCounted) (maxL := 1) (ret := (some .boolean)) (by decide) rfl (Nat.le_of_ble_eq_true rfl) ?_
  intro p e s m below meth c ls hx hb hr hml hown hts hlocks hP hK hl
  have hown : s.vm.findClass RX4 = some m.cls := hown
  obtain ⟨q, hq⟩ : ∃ q : Bool, q = v_X4_isCounted wh := ⟨_, rfl⟩
  rw [← hq]
  unfold v_X4_isCounted at hq
  have hl : lv_has ls 1 [(0, .int wh)] := hl
  refine lv_iload_n hx hb dX4_isCounted_0 rfl (lv_at hl 0 rfl) ?_
  refine lv_if_lt (tgt := 10) hx hb dX4_isCounted_1 (by decide) (fun c_1 => ?_) (fun c_1 => ?_)
  · have c_1 : wh < 0 := c_1
    have hq := hq.trans (if_pos c_1)
    refine lv_iload_n hx hb dX4_isCounted_10 rfl (lv_at hl 0 rfl) ?_
    refine lv_bipush (v := 10) hx hb dX4_isCounted_11 (by decide) ?_
    refine lv_icmp_lt (tgt := 22) hx hb dX4_isCounted_13 (by decide) (fun c_2 => ?_) (fun c_2 => ?_)
    · have c_2 : wh < 10 := c_2
      have hq := hq.trans (if_pos c_2)
      refine lv_iload_n hx hb dX4_isCounted_22 rfl (lv_at hl 0 rfl) ?_
      refine lv_bipush (v := 20) hx hb dX4_isCounted_23 (by decide) ?_
      refine lv_icmp_lt (tgt := 38) hx hb dX4_isCounted_25 (by decide) (fun c_3 => ?_) (fun c_3 => ?_)
      · have c_3 : wh < 20 := c_3
        have hq := hq.trans (if_pos c_3)
        refine lv_iconst (v := 0) hx hb dX4_isCounted_38 (by decide) ?_
        exact zret_z (q' := false) hx hb hr hlocks dX4_isCounted_39 hq
      · have c_3 : ¬ (wh < 20) := c_3
        have hq := hq.trans (if_neg c_3)
        refine lv_iload_n hx hb dX4_isCounted_28 rfl (lv_at hl 0 rfl) ?_
        refine lv_bipush (v := 22) hx hb dX4_isCounted_29 (by decide) ?_
        refine lv_icmp_gt (tgt := 38) hx hb dX4_isCounted_31 (by decide) (fun c_4 => ?_) (fun c_4 => ?_)
        · have c_4 : 22 < wh := c_4
          have hq := hq.trans (if_pos c_4)
          refine lv_iconst (v := 0) hx hb dX4_isCounted_38 (by decide) ?_
          exact zret_z (q' := false) hx hb hr hlocks dX4_isCounted_39 hq
        · have c_4 : ¬ (22 < wh) := c_4
          have hq := hq.trans (if_neg c_4)
          refine lv_iconst (v := 1) hx hb dX4_isCounted_34 (by decide) ?_
          refine lv_goto (tgt := 39) hx hb dX4_isCounted_35 (by decide) ?_
          exact zret_z (q' := true) hx hb hr hlocks dX4_isCounted_39 hq
    · have c_2 : ¬ (wh < 10) := c_2
      have hq := hq.trans (if_neg c_2)
      refine lv_iload_n hx hb dX4_isCounted_16 rfl (lv_at hl 0 rfl) ?_
      refine lv_bipush (v := 12) hx hb dX4_isCounted_17 (by decide) ?_
      refine lv_icmp_le (tgt := 34) hx hb dX4_isCounted_19 (by decide) (fun c_5 => ?_) (fun c_5 => ?_)
      · have c_5 : wh ≤ 12 := c_5
        have hq := hq.trans (if_pos c_5)
        refine lv_iconst (v := 1) hx hb dX4_isCounted_34 (by decide) ?_
        refine lv_goto (tgt := 39) hx hb dX4_isCounted_35 (by decide) ?_
        exact zret_z (q' := true) hx hb hr hlocks dX4_isCounted_39 hq
      · have c_5 : ¬ (wh ≤ 12) := c_5
        have hq := hq.trans (if_neg c_5)
        refine lv_iload_n hx hb dX4_isCounted_22 rfl (lv_at hl 0 rfl) ?_
        refine lv_bipush (v := 20) hx hb dX4_isCounted_23 (by decide) ?_
        refine lv_icmp_lt (tgt := 38) hx hb dX4_isCounted_25 (by decide) (fun c_6 => ?_) (fun c_6 => ?_)
        · have c_6 : wh < 20 := c_6
          have hq := hq.trans (if_pos c_6)
          refine lv_iconst (v := 0) hx hb dX4_isCounted_38 (by decide) ?_
          exact zret_z (q' := false) hx hb hr hlocks dX4_isCounted_39 hq
        · have c_6 : ¬ (wh < 20) := c_6
          have hq := hq.trans (if_neg c_6)
          refine lv_iload_n hx hb dX4_isCounted_28 rfl (lv_at hl 0 rfl) ?_
          refine lv_bipush (v := 22) hx hb dX4_isCounted_29 (by decide) ?_
          refine lv_icmp_gt (tgt := 38) hx hb dX4_isCounted_31 (by decide) (fun c_7 => ?_) (fun c_7 => ?_)
          · have c_7 : 22 < wh := c_7
            have hq := hq.trans (if_pos c_7)
            refine lv_iconst (v := 0) hx hb dX4_isCounted_38 (by decide) ?_
            exact zret_z (q' := false) hx hb hr hlocks dX4_isCounted_39 hq
          · have c_7 : ¬ (22 < wh) := c_7
            have hq := hq.trans (if_neg c_7)
            refine lv_iconst (v := 1) hx hb dX4_isCounted_34 (by decide) ?_
            refine lv_goto (tgt := 39) hx hb dX4_isCounted_35 (by decide) ?_
            exact zret_z (q' := true) hx hb hr hlocks dX4_isCounted_39 hq
  · have c_1 : ¬ (wh < 0) := c_1
    have hq := hq.trans (if_neg c_1)
    refine lv_iload_n hx hb dX4_isCounted_4 rfl (lv_at hl 0 rfl) ?_
    refine lv_bipush (v := 8) hx hb dX4_isCounted_5 (by decide) ?_
    refine lv_icmp_le (tgt := 34) hx hb dX4_isCounted_7 (by decide) (fun c_8 => ?_) (fun c_8 => ?_)
    · have c_8 : wh ≤ 8 := c_8
      have hq := hq.trans (if_pos c_8)
      refine lv_iconst (v := 1) hx hb dX4_isCounted_34 (by decide) ?_
      refine lv_goto (tgt := 39) hx hb dX4_isCounted_35 (by decide) ?_
      exact zret_z (q' := true) hx hb hr hlocks dX4_isCounted_39 hq
    · have c_8 : ¬ (wh ≤ 8) := c_8
      have hq := hq.trans (if_neg c_8)
      refine lv_iload_n hx hb dX4_isCounted_10 rfl (lv_at hl 0 rfl) ?_
      refine lv_bipush (v := 10) hx hb dX4_isCounted_11 (by decide) ?_
      refine lv_icmp_lt (tgt := 22) hx hb dX4_isCounted_13 (by decide) (fun c_9 => ?_) (fun c_9 => ?_)
      · have c_9 : wh < 10 := c_9
        have hq := hq.trans (if_pos c_9)
        refine lv_iload_n hx hb dX4_isCounted_22 rfl (lv_at hl 0 rfl) ?_
        refine lv_bipush (v := 20) hx hb dX4_isCounted_23 (by decide) ?_
        refine lv_icmp_lt (tgt := 38) hx hb dX4_isCounted_25 (by decide) (fun c_10 => ?_) (fun c_10 => ?_)
        · have c_10 : wh < 20 := c_10
          have hq := hq.trans (if_pos c_10)
          refine lv_iconst (v := 0) hx hb dX4_isCounted_38 (by decide) ?_
          exact zret_z (q' := false) hx hb hr hlocks dX4_isCounted_39 hq
        · have c_10 : ¬ (wh < 20) := c_10
          have hq := hq.trans (if_neg c_10)
          refine lv_iload_n hx hb dX4_isCounted_28 rfl (lv_at hl 0 rfl) ?_
          refine lv_bipush (v := 22) hx hb dX4_isCounted_29 (by decide) ?_
          refine lv_icmp_gt (tgt := 38) hx hb dX4_isCounted_31 (by decide) (fun c_11 => ?_) (fun c_11 => ?_)
          · have c_11 : 22 < wh := c_11
            have hq := hq.trans (if_pos c_11)
            refine lv_iconst (v := 0) hx hb dX4_isCounted_38 (by decide) ?_
            exact zret_z (q' := false) hx hb hr hlocks dX4_isCounted_39 hq
          · have c_11 : ¬ (22 < wh) := c_11
            have hq := hq.trans (if_neg c_11)
            refine lv_iconst (v := 1) hx hb dX4_isCounted_34 (by decide) ?_
            refine lv_goto (tgt := 39) hx hb dX4_isCounted_35 (by decide) ?_
            exact zret_z (q' := true) hx hb hr hlocks dX4_isCounted_39 hq
      · have c_9 : ¬ (wh < 10) := c_9
        have hq := hq.trans (if_neg c_9)
        refine lv_iload_n hx hb dX4_isCounted_16 rfl (lv_at hl 0 rfl) ?_
        refine lv_bipush (v := 12) hx hb dX4_isCounted_17 (by decide) ?_
        refine lv_icmp_le (tgt := 34) hx hb dX4_isCounted_19 (by decide) (fun c_12 => ?_) (fun c_12 => ?_)
        · have c_12 : wh ≤ 12 := c_12
          have hq := hq.trans (if_pos c_12)
          refine lv_iconst (v := 1) hx hb dX4_isCounted_34 (by decide) ?_
          refine lv_goto (tgt := 39) hx hb dX4_isCounted_35 (by decide) ?_
          exact zret_z (q' := true) hx hb hr hlocks dX4_isCounted_39 hq
        · have c_12 : ¬ (wh ≤ 12) := c_12
          have hq := hq.trans (if_neg c_12)
          refine lv_iload_n hx hb dX4_isCounted_22 rfl (lv_at hl 0 rfl) ?_
          refine lv_bipush (v := 20) hx hb dX4_isCounted_23 (by decide) ?_
          refine lv_icmp_lt (tgt := 38) hx hb dX4_isCounted_25 (by decide) (fun c_13 => ?_) (fun c_13 => ?_)
          · have c_13 : wh < 20 := c_13
            have hq := hq.trans (if_pos c_13)
            refine lv_iconst (v := 0) hx hb dX4_isCounted_38 (by decide) ?_
            exact zret_z (q' := false) hx hb hr hlocks dX4_isCounted_39 hq
          · have c_13 : ¬ (wh < 20) := c_13
            have hq := hq.trans (if_neg c_13)
            refine lv_iload_n hx hb dX4_isCounted_28 rfl (lv_at hl 0 rfl) ?_
            refine lv_bipush (v := 22) hx hb dX4_isCounted_29 (by decide) ?_
            refine lv_icmp_gt (tgt := 38) hx hb dX4_isCounted_31 (by decide) (fun c_14 => ?_) (fun c_14 => ?_)
            · have c_14 : 22 < wh := c_14
              have hq := hq.trans (if_pos c_14)
              refine lv_iconst (v := 0) hx hb dX4_isCounted_38 (by decide) ?_
              exact zret_z (q' := false) hx hb hr hlocks dX4_isCounted_39 hq
            · have c_14 : ¬ (22 < wh) := c_14
              have hq := hq.trans (if_neg c_14)
              refine lv_iconst (v := 1) hx hb dX4_isCounted_34 (by decide) ?_
              refine lv_goto (tgt := 39) hx hb dX4_isCounted_35 (by decide) ?_
              exact zret_z (q' := true) hx hb hr hlocks dX4_isCounted_39 hq
def v_X4_numberOf (Z : Nat → Nat → Int32) (T : Nat → Nat → Int32) (wh : Int32) : Int32 := (if wh = 8 then (Z 0 0) else (if (v_X4_isGroup (wh - 10)) = true then (T 9 (Int32.toNatClampNeg (wh - 10))) else (if (v_X4_isGroup (wh - 20)) = true then (nI (v_X3_freeBuckets T (Int32.toNatClampNeg (wh - 20)))) else (v_X3_number T wh))))
set_option maxHeartbeats 400000 in
set_option maxRecDepth 100000 in
theorem c_X4_numberOf (l : Launch) (D : va_G) (g : Nat → ClassId) (f : Nat → Nat) (h : Nat → Nat) (u : Nat → Nat) (o : Nat → Nat) (x : Nat → Nat) (t0 : Nat → Nat) (t1 : Nat → Nat) (t2 : Nat → Nat) (t3 : Nat → Nat) (t4 : Nat → Nat) (t5 : Nat → Nat) (Z : Nat → Nat → Int32) (T : Nat → Nat → Int32) (wh : Int32) : Rd l D (zT g) yX4_numberOf wsX4_numberOf (rmOf 5 113) [.ref (f 0), .int wh] (zF [zB_X4 f h u o x, zB_X1 (g 1) u t0 t1 t2 t3 t4 t5 Z, zB_X3 (g 0) h T]) (.int (v_X4_numberOf Z T wh)) := by
  refine Rd.of (cc := cX4_numberOf) (maxL := 2) (ret := (some .int)) (by decide) rfl (Nat.le_of_ble_eq_true rfl) ?_
  intro p e s m below meth c ls hx hb hr hml hown hts hlocks hP hK hl
  have hown : s.vm.findClass RX4 = some m.cls := hown
  have hinX1 : ∀ w ∈ u_ws RX1 TX1 3, w ∈ wsX4_numberOf := fun _ h9 => (List.mem_cons_of_mem _ (List.mem_append_left _ (List.mem_append_right _ h9)))
  have hinX3 : ∀ w ∈ u_ws RX3 TX3 15, w ∈ wsX4_numberOf := fun _ h9 => (List.mem_cons_of_mem _ (List.mem_append_right _ h9))
  have hinX4 : ∀ w ∈ u_ws RX4 TX4 4, w ∈ wsX4_numberOf := fun _ h9 => (List.mem_cons_of_mem _ (List.mem_append_left _ (List.mem_append_left _ (List.mem_append_right _ h9))))
  obtain ⟨q, hq⟩ : ∃ q : Int32, q = v_X4_numberOf Z T wh := ⟨_, rfl⟩
  rw [← hq]
  unfold v_X4_numberOf at hq
  have hl : lv_has ls 2 [(0, .ref (f 0)), (1, .int wh)] := hl
  refine lv_iload_n hx hb dX4_numberOf_0 rfl (lv_at hl 1 rfl) ?_
  refine lv_bipush (v := 8) hx hb dX4_numberOf_1 (by decide) ?_
  refine lv_icmp_ne (tgt := 14) hx hb dX4_numberOf_3 (by decide) (fun c_1 => ?_) (fun c_1 => ?_)
  · have c_1 : ¬ (wh = 8) := c_1
    have hq := hq.trans (if_neg c_1)
    refine lv_iload_n hx hb dX4_numberOf_14 rfl (lv_at hl 1 rfl) ?_
    refine lv_bipush (v := 10) hx hb dX4_numberOf_15 (by decide) ?_
    refine lv_isub hx hb dX4_numberOf_17 ?_
    refine zcSO (n := 1) (c_X4_isGroup l D g (wh - 10)) hx hb hml hown hts gX4_numberOf_X4_isGroup rfl ⟨by decide, by decide, by decide⟩ ⟨Nat.le_of_ble_eq_true rfl, Nat.le_of_ble_eq_true rfl⟩ ⟨rfl, rfl⟩ hK (hP.sub [] rfl) hl.1 rfl rfl (Nat.le_of_ble_eq_true rfl) ⟨Nat.zero_le _, Nat.zero_le _⟩ dX4_numberOf_18 ?_
    refine zif_eq (tgt := 37) hx hb dX4_numberOf_21 (by decide) (fun c_3 => ?_) (fun c_3 => ?_)
    · have hq := hq.trans (zif_f c_3)
      refine lv_iload_n hx hb dX4_numberOf_37 rfl (lv_at hl 1 rfl) ?_
      refine lv_bipush (v := 20) hx hb dX4_numberOf_38 (by decide) ?_
      refine lv_isub hx hb dX4_numberOf_40 ?_
      refine zcSO (n := 1) (c_X4_isGroup l D g (wh - 20)) hx hb hml hown hts gX4_numberOf_X4_isGroup rfl ⟨by decide, by decide, by decide⟩ ⟨Nat.le_of_ble_eq_true rfl, Nat.le_of_ble_eq_true rfl⟩ ⟨rfl, rfl⟩ hK (hP.sub [] rfl) hl.1 rfl rfl (Nat.le_of_ble_eq_true rfl) ⟨Nat.zero_le _, Nat.zero_le _⟩ dX4_numberOf_41 ?_
      refine zif_eq (tgt := 59) hx hb dX4_numberOf_44 (by decide) (fun c_5 => ?_) (fun c_5 => ?_)
      · have hq := hq.trans (zif_f c_5)
        refine lv_aload_n hx hb dX4_numberOf_59 rfl (lv_at hl 0 rfl) ?_
        refine va_get (D := D) (ci := 4) (v := .ref (h 0)) (C := RX4) (T := TX4) (N := 4) hx hb hts hinX4 hown hK.1 hP 0 rfl rfl 0 (by decide) (hts (.fieldLink RX4 10 "SaltShares" "town" "LSaltShares$Town;") (List.mem_of_getElem? (i := 3) rfl)) (fun _ h9 => h9) rfl dX4_numberOf_60 ?_
        refine lv_iload_n hx hb dX4_numberOf_63 rfl (lv_at hl 1 rfl) ?_
        refine zcV (ci := 3) (n := 1) (c_X3_number l D g h T wh) hx hb hml hown hts gX4_numberOf_X3_number rfl ⟨rfl, by decide, by decide, by decide⟩ ⟨Nat.le_of_ble_eq_true rfl, Nat.le_of_ble_eq_true rfl⟩ ⟨rfl, rfl⟩ hK (zsubB (cs := [zB_X3 (g 0) h T]) hP [2] rfl (zF1 _)) rfl rfl rfl hl.1 rfl rfl (Nat.le_of_ble_eq_true rfl) ⟨Nat.zero_le _, Nat.zero_le _⟩ dX4_numberOf_64 ?_
        exact zret_i hx hb hr hlocks dX4_numberOf_67 hq
      · have hq := hq.trans (zif_t c_5)
        refine lv_aload_n hx hb dX4_numberOf_47 rfl (lv_at hl 0 rfl) ?_
        refine va_get (D := D) (ci := 4) (v := .ref (h 0)) (C := RX4) (T := TX4) (N := 4) hx hb hts hinX4 hown hK.1 hP 0 rfl rfl 0 (by decide) (hts (.fieldLink RX4 10 "SaltShares" "town" "LSaltShares$Town;") (List.mem_of_getElem? (i := 3) rfl)) (fun _ h9 => h9) rfl dX4_numberOf_48 ?_
        refine lv_iload_n hx hb dX4_numberOf_51 rfl (lv_at hl 1 rfl) ?_
        refine lv_bipush (v := 20) hx hb dX4_numberOf_52 (by decide) ?_
        refine lv_isub hx hb dX4_numberOf_54 ?_
        have w_7 := znat (zin_g (by with_reducible assumption))
        have w_7b := w_7.2
        refine lv_is w_7.1 ?_
        refine zcV (ci := 3) (n := 1) (c_X3_freeBuckets l D g h T (Int32.toNatClampNeg (wh - 20)) (by omega)) hx hb hml hown hts gX4_numberOf_X3_freeBuckets rfl ⟨rfl, by decide, by decide, by decide⟩ ⟨Nat.le_of_ble_eq_true rfl, Nat.le_of_ble_eq_true rfl⟩ ⟨rfl, rfl⟩ hK (zsubB (cs := [zB_X3 (g 0) h T]) hP [2] rfl (zF1 _)) rfl rfl rfl hl.1 rfl rfl (Nat.le_of_ble_eq_true rfl) ⟨Nat.zero_le _, Nat.zero_le _⟩ dX4_numberOf_55 ?_
        exact zret_i hx hb hr hlocks dX4_numberOf_58 hq
    · have hq := hq.trans (zif_t c_3)
      refine lv_aload_n hx hb dX4_numberOf_24 rfl (lv_at hl 0 rfl) ?_
      refine va_get (D := D) (ci := 4) (v := .ref (h 0)) (C := RX4) (T := TX4) (N := 4) hx hb hts hinX4 hown hK.1 hP 0 rfl rfl 0 (by decide) (hts (.fieldLink RX4 10 "SaltShares" "town" "LSaltShares$Town;") (List.mem_of_getElem? (i := 3) rfl)) (fun _ h9 => h9) rfl dX4_numberOf_25 ?_
      refine va_get (D := D) (ci := 3) (v := .ref (h 10)) (C := RX3) (T := TX3) (N := 15) hx hb hts hinX3 hown hK.1 hP 3 rfl rfl 9 (by decide) (hts (.fieldLink RX4 126 "SaltShares$Town" "groupSalt" "[I") (List.mem_of_getElem? (i := 4) rfl)) (fun _ h9 => h9) rfl dX4_numberOf_28 ?_
      refine lv_iload_n hx hb dX4_numberOf_31 rfl (lv_at hl 1 rfl) ?_
      refine lv_bipush (v := 10) hx hb dX4_numberOf_32 (by decide) ?_
      refine lv_isub hx hb dX4_numberOf_34 ?_
      refine va_iald hx hb hK.1 hP 8 0 rfl rfl (zin_g (by with_reducible assumption)) dX4_numberOf_35 ?_
      exact zret_i hx hb hr hlocks dX4_numberOf_36 hq
  · have c_1 : wh = 8 := c_1
    have hq := hq.trans (if_pos c_1)
    refine lv_aload_n hx hb dX4_numberOf_6 rfl (lv_at hl 0 rfl) ?_
    refine va_get (D := D) (ci := 4) (v := .ref (u 0)) (C := RX4) (T := TX4) (N := 4) hx hb hts hinX4 hown hK.1 hP 0 rfl rfl 1 (by decide) (hts (.fieldLink RX4 19 "SaltShares" "history" "LSaltShares$History;") (List.mem_of_getElem? (i := 1) rfl)) (fun _ h9 => h9) rfl dX4_numberOf_7 ?_
    refine va_get (D := D) (ci := 1) (v := .int (Z 0 0)) (C := RX1) (T := TX1) (N := 3) hx hb hts hinX1 hown hK.1 hP 1 rfl rfl 0 (by decide) (hts (.fieldLink RX4 181 "SaltShares$History" "size" "I") (List.mem_of_getElem? (i := 2) rfl)) (fun _ h9 => h9) rfl dX4_numberOf_10 ?_
    exact zret_i hx hb hr hlocks dX4_numberOf_13 hq
def v_X4_bestSaltFrom_32 (T : Nat → Nat → Int32) (xb : Int32) (fr : Nat) : Nat → Int32 → Int32 → Nat → Int32
  | 0, _, _, _ => (0)
  | n + 1, best, most, salt => (if fr + 20 ≤ salt then best else (if 9999 < salt then best else (if (nI (v_X3_eatersBy T (Int32.toNatClampNeg xb) (nI salt))) ≤ most then v_X4_bestSaltFrom_32 T xb fr n best most (salt + 1) else v_X4_bestSaltFrom_32 T xb fr n (nI salt) (nI (v_X3_eatersBy T (Int32.toNatClampNeg xb) (nI salt))) (salt + 1))))
def v_X4_bestSaltFrom (T : Nat → Nat → Int32) (xb : Int32) (fr : Nat) : Int32 := (if (v_X3_isOpenBread T xb) = true then (if (v_X3_isInGroup T (Int32.toNatClampNeg xb)) = true then (-1) else v_X4_bestSaltFrom_32 T xb fr 21 (-1) (-1) fr) else (-1))
set_option maxHeartbeats 400000 in
set_option maxRecDepth 100000 in
theorem c_X4_bestSaltFrom (l : Launch) (D : va_G) (g : Nat → ClassId) (f : Nat → Nat) (h : Nat → Nat) (u : Nat → Nat) (o : Nat → Nat) (x : Nat → Nat) (T : Nat → Nat → Int32) (xb : Int32) (fr : Nat) (z0 : fr ≤ 9999) : Rd l D (zT g) yX4_bestSaltFrom wsX4_bestSaltFrom (rmOf 3 71) [.ref (f 0), .int xb, .int (nI fr)] ((zB_X4 f h u o x) ++ (zB_X3 (g 0) h T)) (.int (v_X4_bestSaltFrom T xb fr)) := by
  refine Rd.of (cc := cX4_bestSaltFrom) (maxL := 7) (ret := (some .int)) (by decide) rfl (Nat.le_of_ble_eq_true rfl) ?_
  intro p e s m below meth c ls hx hb hr hml hown hts hlocks hP hK hl
  have hown : s.vm.findClass RX4 = some m.cls := hown
  have hinX4 : ∀ w ∈ u_ws RX4 TX4 4, w ∈ wsX4_bestSaltFrom := fun _ h9 => (List.mem_cons_of_mem _ (List.mem_append_left _ (List.mem_append_right _ h9)))
  obtain ⟨q, hq⟩ : ∃ q : Int32, q = v_X4_bestSaltFrom T xb fr := ⟨_, rfl⟩
  rw [← hq]
  unfold v_X4_bestSaltFrom at hq
  have hl : lv_has ls 7 [(0, .ref (f 0)), (1, .int xb), (2, .int (nI fr))] := hl
  refine lv_aload_n hx hb dX4_bestSaltFrom_0 rfl (lv_at hl 0 rfl) ?_
  refine va_get (D := D) (ci := 4) (v := .ref (h 0)) (C := RX4) (T := TX4) (N := 4) hx hb hts hinX4 hown hK.1 hP 0 rfl rfl 0 (by decide) (hts (.fieldLink RX4 10 "SaltShares" "town" "LSaltShares$Town;") (List.mem_of_getElem? (i := 1) rfl)) (fun _ h9 => h9) rfl dX4_bestSaltFrom_1 ?_
  refine lv_iload_n hx hb dX4_bestSaltFrom_4 rfl (lv_at hl 1 rfl) ?_
  refine zcV (ci := 3) (n := 1) (c_X3_isOpenBread l D g h T xb) hx hb hml hown hts gX4_bestSaltFrom_X3_isOpenBread rfl ⟨rfl, by decide, by decide, by decide⟩ ⟨Nat.le_of_ble_eq_true rfl, Nat.le_of_ble_eq_true rfl⟩ ⟨rfl, rfl⟩ hK (hP.sub [1, 2, 3, 4, 5, 6, 7, 8, 9, 10, 11] rfl) rfl rfl rfl hl.1 rfl rfl (Nat.le_of_ble_eq_true rfl) ⟨Nat.zero_le _, Nat.zero_le _⟩ dX4_bestSaltFrom_5 ?_
  refine zif_eq (tgt := 22) hx hb dX4_bestSaltFrom_8 (by decide) (fun c_2 => ?_) (fun c_2 => ?_)
  · have hq := hq.trans (zif_f c_2)
    refine lv_iconst (v := (-1)) hx hb dX4_bestSaltFrom_22 (by decide) ?_
    exact zret_i hx hb hr hlocks dX4_bestSaltFrom_23 hq
  · have hq := hq.trans (zif_t c_2)
    have w_3 := znat (zin_open (by with_reducible assumption))
    have w_3b := w_3.2
    have hl : lv_has ls 7 [(0, .ref (f 0)), (1, .int (nI (Int32.toNatClampNeg xb))), (2, .int (nI fr))] := by rw [← w_3.1]; exact hl
    refine lv_aload_n hx hb dX4_bestSaltFrom_11 rfl (lv_at hl 0 rfl) ?_
    refine va_get (D := D) (ci := 4) (v := .ref (h 0)) (C := RX4) (T := TX4) (N := 4) hx hb hts hinX4 hown hK.1 hP 0 rfl rfl 0 (by decide) (hts (.fieldLink RX4 10 "SaltShares" "town" "LSaltShares$Town;") (List.mem_of_getElem? (i := 1) rfl)) (fun _ h9 => h9) rfl dX4_bestSaltFrom_12 ?_
    refine lv_iload_n hx hb dX4_bestSaltFrom_15 rfl (lv_at hl 1 rfl) ?_
    refine zcV (ci := 3) (n := 1) (c_X3_isInGroup l D g h T (Int32.toNatClampNeg xb) (by omega)) hx hb hml hown hts gX4_bestSaltFrom_X3_isInGroup rfl ⟨rfl, by decide, by decide, by decide⟩ ⟨Nat.le_of_ble_eq_true rfl, Nat.le_of_ble_eq_true rfl⟩ ⟨rfl, rfl⟩ hK (hP.sub [1, 2, 3, 4, 5, 6, 7, 8, 9, 10, 11] rfl) rfl rfl rfl hl.1 rfl rfl (Nat.le_of_ble_eq_true rfl) ⟨Nat.zero_le _, Nat.zero_le _⟩ dX4_bestSaltFrom_16 ?_
    refine zif_eq (tgt := 24) hx hb dX4_bestSaltFrom_19 (by decide) (fun c_5 => ?_) (fun c_5 => ?_)
    · have hq := hq.trans (zif_f c_5)
      refine lv_iconst (v := (-1)) hx hb dX4_bestSaltFrom_24 (by decide) ?_
      refine lv_istore_n (lv' := [(3, .int (-1)), (0, .ref (f 0)), (1, .int (nI (Int32.toNatClampNeg xb))), (2, .int (nI fr))]) hx hb dX4_bestSaltFrom_25 rfl hl (by decide) rfl (fun ls hl => ?_)
      refine lv_iconst (v := (-1)) hx hb dX4_bestSaltFrom_26 (by decide) ?_
      refine lv_istore (lv' := [(4, .int (-1)), (3, .int (-1)), (0, .ref (f 0)), (1, .int (nI (Int32.toNatClampNeg xb))), (2, .int (nI fr))]) hx hb dX4_bestSaltFrom_27 hl (by decide) rfl (fun ls hl => ?_)
      refine lv_iload_n hx hb dX4_bestSaltFrom_29 rfl (lv_at hl 4 rfl) ?_
      refine lv_istore (lv' := [(5, .int (nI fr)), (4, .int (-1)), (3, .int (-1)), (0, .ref (f 0)), (1, .int (nI (Int32.toNatClampNeg xb))), (2, .int (nI fr))]) hx hb dX4_bestSaltFrom_30 hl (by decide) rfl (fun ls hl => ?_)
      have L32 : ∀ (n : Nat) (best : Int32) (most : Int32) (salt : Nat), (fr ≤ salt) → (salt ≤ fr + 20) → fr + 20 - salt < n → ∀ (ls : Array Slot), lv_has ls 7 [(0, .ref (f 0)), (1, .int (nI (Int32.toNatClampNeg xb))), (2, .int (nI fr)), (3, .int best), (4, .int most), (5, .int (nI salt))] → q = v_X4_bestSaltFrom_32 T xb fr n best most salt → W p l e (rmOf 3 71) s m [.ref (f 0), .int xb, .int (nI fr)].toArray below meth c s.heap [] 0 0 (MQ below (zQ (.int q)) [.ref (f 0), .int xb, .int (nI fr)].toArray s 0 0 (fun _ => False)) (F0 m 32 ls []) := by
        intro n
        induction n with
        | zero => intro best most salt v32_0 v32_1 hn; exact absurd hn (Nat.not_lt_zero _)
        | succ n ih32 =>
          intro best most salt v32_0 v32_1 hn32 ls hl hq
          rw [v_X4_bestSaltFrom_32] at hq
          refine lv_iload hx hb dX4_bestSaltFrom_32 (lv_at hl 5 rfl) ?_
          refine lv_iload_n hx hb dX4_bestSaltFrom_34 rfl (lv_at hl 2 rfl) ?_
          refine lv_bipush (v := 20) hx hb dX4_bestSaltFrom_35 (by decide) ?_
          refine lv_iadd hx hb dX4_bestSaltFrom_37 ?_
          refine lv_is (show (nI fr) + 20 = (nI (fr + 20)) from nI_add fr 20) ?_
          refine lv_icmp_ge (tgt := 81) hx hb dX4_bestSaltFrom_38 (by decide) (fun c_6 => ?_) (fun c_6 => ?_)
          · have c_6 : fr + 20 ≤ salt := (nI_leI (a := fr + 20) (b := salt) (by omega) (by omega)).mp c_6
            have hq := hq.trans (if_pos c_6)
            refine lv_iload_n hx hb dX4_bestSaltFrom_81 rfl (lv_at hl 3 rfl) ?_
            exact zret_i hx hb hr hlocks dX4_bestSaltFrom_82 hq
          · have c_6 : ¬ (fr + 20 ≤ salt) := fun h9 => c_6 ((nI_leI (a := fr + 20) (b := salt) (by omega) (by omega)).mpr h9)
            have hq := hq.trans (if_neg c_6)
            refine lv_iload hx hb dX4_bestSaltFrom_41 (lv_at hl 5 rfl) ?_
            refine lv_sipush (v := 9999) hx hb dX4_bestSaltFrom_43 (by decide) ?_
            refine lv_icmp_gt (tgt := 81) hx hb dX4_bestSaltFrom_46 (by decide) (fun c_7 => ?_) (fun c_7 => ?_)
            · have c_7 : 9999 < salt := (nI_ltI (a := 9999) (b := salt) (by omega) (by omega)).mp c_7
              have hq := hq.trans (if_pos c_7)
              refine lv_iload_n hx hb dX4_bestSaltFrom_81 rfl (lv_at hl 3 rfl) ?_
              exact zret_i hx hb hr hlocks dX4_bestSaltFrom_82 hq
            · have c_7 : ¬ (9999 < salt) := fun h9 => c_7 ((nI_ltI (a := 9999) (b := salt) (by omega) (by omega)).mpr h9)
              have hq := hq.trans (if_neg c_7)
              refine lv_aload_n hx hb dX4_bestSaltFrom_49 rfl (lv_at hl 0 rfl) ?_
              refine va_get (D := D) (ci := 4) (v := .ref (h 0)) (C := RX4) (T := TX4) (N := 4) hx hb hts hinX4 hown hK.1 hP 0 rfl rfl 0 (by decide) (hts (.fieldLink RX4 10 "SaltShares" "town" "LSaltShares$Town;") (List.mem_of_getElem? (i := 1) rfl)) (fun _ h9 => h9) rfl dX4_bestSaltFrom_50 ?_
              refine lv_iload_n hx hb dX4_bestSaltFrom_53 rfl (lv_at hl 1 rfl) ?_
              refine lv_iload hx hb dX4_bestSaltFrom_54 (lv_at hl 5 rfl) ?_
              refine zcV (ci := 3) (n := 2) (c_X3_eatersBy l D g h T (Int32.toNatClampNeg xb) (nI salt) (by omega)) hx hb hml hown hts gX4_bestSaltFrom_X3_eatersBy rfl ⟨rfl, by decide, by decide, by decide⟩ ⟨Nat.le_of_ble_eq_true rfl, Nat.le_of_ble_eq_true rfl⟩ ⟨rfl, rfl⟩ hK (hP.sub [1, 2, 3, 4, 5, 6, 7, 8, 9, 10, 11] rfl) rfl rfl rfl hl.1 rfl rfl (Nat.le_of_ble_eq_true rfl) ⟨Nat.zero_le _, Nat.zero_le _⟩ dX4_bestSaltFrom_56 ?_
              refine lv_istore (lv' := [(6, .int (nI (v_X3_eatersBy T (Int32.toNatClampNeg xb) (nI salt)))), (0, .ref (f 0)), (1, .int (nI (Int32.toNatClampNeg xb))), (2, .int (nI fr)), (3, .int best), (4, .int most), (5, .int (nI salt))]) hx hb dX4_bestSaltFrom_59 hl (by decide) rfl (fun ls hl => ?_)
              refine lv_iload hx hb dX4_bestSaltFrom_61 (lv_at hl 0 rfl) ?_
              refine lv_iload hx hb dX4_bestSaltFrom_63 (lv_at hl 5 rfl) ?_
              refine lv_icmp_le (tgt := 75) hx hb dX4_bestSaltFrom_65 (by decide) (fun c_9 => ?_) (fun c_9 => ?_)
              · have c_9 : (nI (v_X3_eatersBy T (Int32.toNatClampNeg xb) (nI salt))) ≤ most := c_9
                have hq := hq.trans (if_pos c_9)
                refine lv_iinc (v := (nI (salt + 1))) (lv' := [(5, .int (nI (salt + 1))), (6, .int (nI (v_X3_eatersBy T (Int32.toNatClampNeg xb) (nI salt)))), (0, .ref (f 0)), (1, .int (nI (Int32.toNatClampNeg xb))), (2, .int (nI fr)), (3, .int best), (4, .int most)]) hx hb dX4_bestSaltFrom_75 hl (k := 6) rfl (nI_add _ 1) (by decide) rfl (fun ls hl => ?_)
                refine lv_goto (tgt := 32) hx hb dX4_bestSaltFrom_78 (by decide) ?_
                exact ih32 best most (salt + 1) (by omega) (by omega) (by omega) ls (lv_sub hl [2, 3, 4, 5, 6, 0] rfl) hq
              · have c_9 : ¬ ((nI (v_X3_eatersBy T (Int32.toNatClampNeg xb) (nI salt))) ≤ most) := c_9
                have hq := hq.trans (if_neg c_9)
                refine lv_iload hx hb dX4_bestSaltFrom_68 (lv_at hl 0 rfl) ?_
                refine lv_istore (lv' := [(4, .int (nI (v_X3_eatersBy T (Int32.toNatClampNeg xb) (nI salt)))), (6, .int (nI (v_X3_eatersBy T (Int32.toNatClampNeg xb) (nI salt)))), (0, .ref (f 0)), (1, .int (nI (Int32.toNatClampNeg xb))), (2, .int (nI fr)), (3, .int best), (5, .int (nI salt))]) hx hb dX4_bestSaltFrom_70 hl (by decide) rfl (fun ls hl => ?_)
                refine lv_iload hx hb dX4_bestSaltFrom_72 (lv_at hl 6 rfl) ?_
                refine lv_istore_n (lv' := [(3, .int (nI salt)), (4, .int (nI (v_X3_eatersBy T (Int32.toNatClampNeg xb) (nI salt)))), (6, .int (nI (v_X3_eatersBy T (Int32.toNatClampNeg xb) (nI salt)))), (0, .ref (f 0)), (1, .int (nI (Int32.toNatClampNeg xb))), (2, .int (nI fr)), (5, .int (nI salt))]) hx hb dX4_bestSaltFrom_74 rfl hl (by decide) rfl (fun ls hl => ?_)
                refine lv_iinc (v := (nI (salt + 1))) (lv' := [(5, .int (nI (salt + 1))), (3, .int (nI salt)), (4, .int (nI (v_X3_eatersBy T (Int32.toNatClampNeg xb) (nI salt)))), (6, .int (nI (v_X3_eatersBy T (Int32.toNatClampNeg xb) (nI salt)))), (0, .ref (f 0)), (1, .int (nI (Int32.toNatClampNeg xb))), (2, .int (nI fr))]) hx hb dX4_bestSaltFrom_75 hl (k := 6) rfl (nI_add _ 1) (by decide) rfl (fun ls hl => ?_)
                refine lv_goto (tgt := 32) hx hb dX4_bestSaltFrom_78 (by decide) ?_
                exact ih32 (nI salt) (nI (v_X3_eatersBy T (Int32.toNatClampNeg xb) (nI salt))) (salt + 1) (by omega) (by omega) (by omega) ls (lv_sub hl [4, 5, 6, 1, 2, 0] rfl) hq
      exact L32 21 (-1) (-1) fr (by omega) (by omega) (by omega) ls (lv_sub hl [3, 4, 5, 2, 1, 0] rfl) hq
    · have hq := hq.trans (zif_t c_5)
      refine lv_iconst (v := (-1)) hx hb dX4_bestSaltFrom_22 (by decide) ?_
      exact zret_i hx hb hr hlocks dX4_bestSaltFrom_23 hq
