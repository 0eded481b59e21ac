def zB_X4 (f h u o x : Nat → Nat) : va_W := [(f 0, .inr (4, [.ref (h 0), .ref (u 0), .ref (o 0), .ref (x 0)]))]
def v_X4_isCounted (wh : Int32) : Bool := (if wh < 0 then (if wh < 10 then (if wh < 20 then false else (if 22 < wh then false else true)) else (if wh ≤ 12 then true else (if wh < 20 then false else (if 22 < wh then false else true)))) else (if wh ≤ 8 then true else (if wh < 10 then (if wh < 20 then false else (if 22 < wh then false else true)) else (if wh ≤ 12 then true else (if wh < 20 then false else (if 22 < wh then false else true))))))
set_option maxHeartbeats 400000 in
set_option maxRecDepth 100000 in
theorem c_X4_isCounted (l : Launch) (D : va_G) (g : Nat → ClassId) (wh : Int32) : Rd l D (zT g) yX4_isCounted wsX4_isCounted (rmOf 0 0) [.int wh] ([]) (.int (bI (v_X4_isCounted wh))) := by
  refine Rd.of (cc := cX4_isCounted) (maxL := 1) (ret := (some .boolean)) (by decide) rfl (Nat.le_of_ble_eq_true rfl) ?_
  intro p e s m below meth c ls hx hb hr hml hown hts hlocks hP hK hl
  have hown : s.vm.findClass RX4 = some m.cls := hown
  obtain ⟨q, hq⟩ : ∃ q : Bool, q = v_X4_isCounted wh := ⟨_, rfl⟩
  rw [← hq]
  unfold v_X4_isCounted at hq
  have hl : lv_has ls 1 [(0, .int wh)] := hl
  refine lv_iload_n hx hb dX4_isCounted_0 rfl (lv_at hl 0 rfl) ?_
  refine lv_if_lt (tgt := 10) hx hb dX4_isCounted_1 (by decide) (fun c_1 => ?_) (fun c_1 => ?_)
  · have c_1 : wh < 0 := c_1
    have hq := hq.trans (if_pos c_1)
    refine lv_iload_n hx hb dX4_isCounted_10 rfl (lv_at hl 0 rfl) ?_
    refine lv_bipush (v := 10) hx hb dX4_isCounted_11 (by decide) ?_
    refine lv_icmp_lt (tgt := 22) hx hb dX4_isCounted_13 (by decide) (fun c_2 => ?_) (fun c_2 => ?_)
    · have c_2 : wh < 10 := c_2
      have hq := hq.trans (if_pos c_2)
      refine lv_iload_n hx hb dX4_isCounted_22 rfl (lv_at hl 0 rfl) ?_
      refine lv_bipush (v := 20) hx hb dX4_isCounted_23 (by decide) ?_
      refine lv_icmp_lt (tgt := 38) hx hb dX4_isCounted_25 (by decide) (fun c_3 => ?_) (fun c_3 => ?_)
      · have c_3 : wh < 20 := c_3
        have hq := hq.trans (if_pos c_3)
        refine lv_iconst (v := 0) hx hb dX4_isCounted_38 (by decide) ?_
        exact zret_z (q' := false) hx hb hr hlocks dX4_isCounted_39 hq
      · have c_3 : ¬ (wh < 20) := c_3
        have hq := hq.trans (if_neg c_3)
        refine lv_iload_n hx hb dX4_isCounted_28 rfl (lv_at hl 0 rfl) ?_
        refine lv_bipush (v := 22) hx hb dX4_isCounted_29 (by decide) ?_
        refine lv_icmp_gt (tgt := 38) hx hb dX4_isCounted_31 (by decide) (fun c_4 => ?_) (fun c_4 => ?_)
        · have c_4 : 22 < wh := c_4
          have hq := hq.trans (if_pos c_4)
          refine lv_iconst (v := 0) hx hb dX4_isCounted_38 (by decide) ?_
          exact zret_z (q' := false) hx hb hr hlocks dX4_isCounted_39 hq
        · have c_4 : ¬ (22 < wh) := c_4
          have hq := hq.trans (if_neg c_4)
          refine lv_iconst (v := 1) hx hb dX4_isCounted_34 (by decide) ?_
          refine lv_goto (tgt := 39) hx hb dX4_isCounted_35 (by decide) ?_
          exact zret_z (q' := true) hx hb hr hlocks dX4_isCounted_39 hq
    · have c_2 : ¬ (wh < 10) := c_2
      have hq := hq.trans (if_neg c_2)
      refine lv_iload_n hx hb dX4_isCounted_16 rfl (lv_at hl 0 rfl) ?_
      refine lv_bipush (v := 12) hx hb dX4_isCounted_17 (by decide) ?_
      refine lv_icmp_le (tgt := 34) hx hb dX4_isCounted_19 (by decide) (fun c_5 => ?_) (fun c_5 => ?_)
      · have c_5 : wh ≤ 12 := c_5
        have hq := hq.trans (if_pos c_5)
        refine lv_iconst (v := 1) hx hb dX4_isCounted_34 (by decide) ?_
        refine lv_goto (tgt := 39) hx hb dX4_isCounted_35 (by decide) ?_
        exact zret_z (q' := true) hx hb hr hlocks dX4_isCounted_39 hq
      · have c_5 : ¬ (wh ≤ 12) := c_5
        have hq := hq.trans (if_neg c_5)
        refine lv_iload_n hx hb dX4_isCounted_22 rfl (lv_at hl 0 rfl) ?_
        refine lv_bipush (v := 20) hx hb dX4_isCounted_23 (by decide) ?_
        refine lv_icmp_lt (tgt := 38) hx hb dX4_isCounted_25 (by decide) (fun c_6 => ?_) (fun c_6 => ?_)
        · have c_6 : wh < 20 := c_6
          have hq := hq.trans (if_pos c_6)
          refine lv_iconst (v := 0) hx hb dX4_isCounted_38 (by decide) ?_
          exact zret_z (q' := false) hx hb hr hlocks dX4_isCounted_39 hq
        · have c_6 : ¬ (wh < 20) := c_6
          have hq := hq.trans (if_neg c_6)
          refine lv_iload_n hx hb dX4_isCounted_28 rfl (lv_at hl 0 rfl) ?_
          refine lv_bipush (v := 22) hx hb dX4_isCounted_29 (by decide) ?_
          refine lv_icmp_gt (tgt := 38) hx hb dX4_isCounted_31 (by decide) (fun c_7 => ?_) (fun c_7 => ?_)
          · have c_7 : 22 < wh := c_7
            have hq := hq.trans (if_pos c_7)
            refine lv_iconst (v := 0) hx hb dX4_isCounted_38 (by decide) ?_
            exact zret_z (q' := false) hx hb hr hlocks dX4_isCounted_39 hq
          · have c_7 : ¬ (22 < wh) := c_7
            have hq := hq.trans (if_neg c_7)
            refine lv_iconst (v := 1) hx hb dX4_isCounted_34 (by decide) ?_
            refine lv_goto (tgt := 39) hx hb dX4_isCounted_35 (by decide) ?_
            exact zret_z (q' := true) hx hb hr hlocks dX4_isCounted_39 hq
  · have c_1 : ¬ (wh < 0) := c_1
    have hq := hq.trans (if_neg c_1)
    refine lv_iload_n hx hb dX4_isCounted_4 rfl (lv_at hl 0 rfl) ?_
    refine lv_bipush (v := 8) hx hb dX4_isCounted_5 (by decide) ?_
    refine lv_icmp_le (tgt := 34) hx hb dX4_isCounted_7 (by decide) (fun c_8 => ?_) (fun c_8 => ?_)
    · have c_8 : wh ≤ 8 := c_8
      have hq := hq.trans (if_pos c_8)
      refine lv_iconst (v := 1) hx hb dX4_isCounted_34 (by decide) ?_
      refine lv_goto (tgt := 39) hx hb dX4_isCounted_35 (by decide) ?_
      exact zret_z (q' := true) hx hb hr hlocks dX4_isCounted_39 hq
    · have c_8 : ¬ (wh ≤ 8) := c_8
      have hq := hq.trans (if_neg c_8)
      refine lv_iload_n hx hb dX4_isCounted_10 rfl (lv_at hl 0 rfl) ?_
      refine lv_bipush (v := 10) hx hb dX4_isCounted_11 (by decide) ?_
      refine lv_icmp_lt (tgt := 22) hx hb dX4_isCounted_13 (by decide) (fun c_9 => ?_) (fun c_9 => ?_)
      · have c_9 : wh < 10 := c_9
        have hq := hq.trans (if_pos c_9)
        refine lv_iload_n hx hb dX4_isCounted_22 rfl (lv_at hl 0 rfl) ?_
        refine lv_bipush (v := 20) hx hb dX4_isCounted_23 (by decide) ?_
        refine lv_icmp_lt (tgt := 38) hx hb dX4_isCounted_25 (by decide) (fun c_10 => ?_) (fun c_10 => ?_)
        · have c_10 : wh < 20 := c_10
          have hq := hq.trans (if_pos c_10)
          refine lv_iconst (v := 0) hx hb dX4_isCounted_38 (by decide) ?_
          exact zret_z (q' := false) hx hb hr hlocks dX4_isCounted_39 hq
        · have c_10 : ¬ (wh < 20) := c_10
          have hq := hq.trans (if_neg c_10)
          refine lv_iload_n hx hb dX4_isCounted_28 rfl (lv_at hl 0 rfl) ?_
          refine lv_bipush (v := 22) hx hb dX4_isCounted_29 (by decide) ?_
          refine lv_icmp_gt (tgt := 38) hx hb dX4_isCounted_31 (by decide) (fun c_11 => ?_) (fun c_11 => ?_)
          · have c_11 : 22 < wh := c_11
            have hq := hq.trans (if_pos c_11)
            refine lv_iconst (v := 0) hx hb dX4_isCounted_38 (by decide) ?_
            exact zret_z (q' := false) hx hb hr hlocks dX4_isCounted_39 hq
          · have c_11 : ¬ (22 < wh) := c_11
            have hq := hq.trans (if_neg c_11)
            refine lv_iconst (v := 1) hx hb dX4_isCounted_34 (by decide) ?_
            refine lv_goto (tgt := 39) hx hb dX4_isCounted_35 (by decide) ?_
            exact zret_z (q' := true) hx hb hr hlocks dX4_isCounted_39 hq
      · have c_9 : ¬ (wh < 10) := c_9
        have hq := hq.trans (if_neg c_9)
        refine lv_iload_n hx hb dX4_isCounted_16 rfl (lv_at hl 0 rfl) ?_
        refine lv_bipush (v := 12) hx hb dX4_isCounted_17 (by decide) ?_
        refine lv_icmp_le (tgt := 34) hx hb dX4_isCounted_19 (by decide) (fun c_12 => ?_) (fun c_12 => ?_)
        · have c_12 : wh ≤ 12 := c_12
          have hq := hq.trans (if_pos c_12)
          refine lv_iconst (v := 1) hx hb dX4_isCounted_34 (by decide) ?_
          refine lv_goto (tgt := 39) hx hb dX4_isCounted_35 (by decide) ?_
          exact zret_z (q' := true) hx hb hr hlocks dX4_isCounted_39 hq
        · have c_12 : ¬ (wh ≤ 12) := c_12
          have hq := hq.trans (if_neg c_12)
          refine lv_iload_n hx hb dX4_isCounted_22 rfl (lv_at hl 0 rfl) ?_
          refine lv_bipush (v := 20) hx hb dX4_isCounted_23 (by decide) ?_
          refine lv_icmp_lt (tgt := 38) hx hb dX4_isCounted_25 (by decide) (fun c_13 => ?_) (fun c_13 => ?_)
          · have c_13 : wh < 20 := c_13
            have hq := hq.trans (if_pos c_13)
            refine lv_iconst (v := 0) hx hb dX4_isCounted_38 (by decide) ?_
            exact zret_z (q' := false) hx hb hr hlocks dX4_isCounted_39 hq
          · have c_13 : ¬ (wh < 20) := c_13
            have hq := hq.trans (if_neg c_13)
            refine lv_iload_n hx hb dX4_isCounted_28 rfl (lv_at hl 0 rfl) ?_
            refine lv_bipush (v := 22) hx hb dX4_isCounted_29 (by decide) ?_
            refine lv_icmp_gt (tgt := 38) hx hb dX4_isCounted_31 (by decide) (fun c_14 => ?_) (fun c_14 => ?_)
            · have c_14 : 22 < wh := c_14
              have hq := hq.trans (if_pos c_14)
              refine lv_iconst (v := 0) hx hb dX4_isCounted_38 (by decide) ?_
              exact zret_z (q' := false) hx hb hr hlocks dX4_isCounted_39 hq
            · have c_14 : ¬ (22 < wh) := c_14
              have hq := hq.trans (if_neg c_14)
              refine lv_iconst (v := 1) hx hb dX4_isCounted_34 (by decide) ?_
              refine lv_goto (tgt := 39) hx hb dX4_isCounted_35 (by decide) ?_
              exact zret_z (q' := true) hx hb hr hlocks dX4_isCounted_39 hq
def v_X4_numberOf (Z : Nat → Nat → Int32) (T : Nat → Nat → Int32) (wh : Int32) : Int32 := (if wh = 8 then (Z 0 0) else (if (v_X4_isGroup (wh - 10)) = true then (T 9 (Int32.toNatClampNeg (wh - 10))) else (if (v_X4_isGroup (wh - 20)) = true then (nI (v_X3_freeBuckets T (Int32.toNatClampNeg (wh - 20)))) else (v_X3_number T wh))))
set_option maxHeartbeats 400000 in
set_option maxRecDepth 100000 in
theorem c_X4_numberOf (l : Launch) (D : va_G) (g : Nat → ClassId) (f : Nat → Nat) (h : Nat → Nat) (u : Nat → Nat) (o : Nat → Nat) (x : Nat → Nat) (t0 : Nat → Nat) (t1 : Nat → Nat) (t2 : Nat → Nat) (t3 : Nat → Nat) (t4 : Nat → Nat) (t5 : Nat → Nat) (Z : Nat → Nat → Int32) (T : Nat → Nat → Int32) (wh : Int32) : Rd l D (zT g) yX4_numberOf wsX4_numberOf (rmOf 5 113) [.ref (f 0), .int wh] (zF [zB_X4 f h u o x, zB_X1 (g 1) u t0 t1 t2 t3 t4 t5 Z, zB_X3 (g 0) h T]) (.int (v_X4_numberOf Z T wh)) := by
  refine Rd.of (cc := cX4_numberOf) (maxL := 2) (ret := (some .int)) (by decide) rfl (Nat.le_of_ble_eq_true rfl) ?_
  intro p e s m below meth c ls hx hb hr hml hown hts hlocks hP hK hl
  have hown : s.vm.findClass RX4 = some m.cls := hown
  have hinX1 : ∀ w ∈ u_ws RX1 TX1 3, w ∈ wsX4_numberOf := fun _ h9 => (List.mem_cons_of_mem _ (List.mem_append_left _ (List.mem_append_right _ h9)))
  have hinX3 : ∀ w ∈ u_ws RX3 TX3 15, w ∈ wsX4_numberOf := fun _ h9 => (List.mem_cons_of_mem _ (List.mem_append_right _ h9))
  have hinX4 : ∀ w ∈ u_ws RX4 TX4 4, w ∈ wsX4_numberOf := fun _ h9 => (List.mem_cons_of_mem _ (List.mem_append_left _ (List.mem_append_left _ (List.mem_append_right _ h9))))
  obtain ⟨q, hq⟩ : ∃ q : Int32, q = v_X4_numberOf Z T wh := ⟨_, rfl⟩
  rw [← hq]
  unfold v_X4_numberOf at hq
  have hl : lv_has ls 2 [(0, .ref (f 0)), (1, .int wh)] := hl
  refine lv_iload_n hx hb dX4_numberOf_0 rfl (lv_at hl 1 rfl) ?_
  refine lv_bipush (v := 8) hx hb dX4_numberOf_1 (by decide) ?_
  refine lv_icmp_ne (tgt := 14) hx hb dX4_numberOf_3 (by decide) (fun c_1 => ?_) (fun c_1 => ?_)
  · have c_1 : ¬ (wh = 8) := c_1
    have hq := hq.trans (if_neg c_1)
    refine lv_iload_n hx hb dX4_numberOf_14 rfl (lv_at hl 1 rfl) ?_
    refine lv_bipush (v := 10) hx hb dX4_numberOf_15 (by decide) ?_
    refine lv_isub hx hb dX4_numberOf_17 ?_
    refine zcSO (n := 1) (c_X4_isGroup l D g (wh - 10)) hx hb hml hown hts gX4_numberOf_X4_isGroup rfl ⟨by decide, by decide, by decide⟩ ⟨Nat.le_of_ble_eq_true rfl, Nat.le_of_ble_eq_true rfl⟩ ⟨rfl, rfl⟩ hK (hP.sub [] rfl) hl.1 rfl rfl (Nat.le_of_ble_eq_true rfl) ⟨Nat.zero_le _, Nat.zero_le _⟩ dX4_numberOf_18 ?_
    refine zif_eq (tgt := 37) hx hb dX4_numberOf_21 (by decide) (fun c_3 => ?_) (fun c_3 => ?_)
    · have hq := hq.trans (zif_f c_3)
      refine lv_iload_n hx hb dX4_numberOf_37 rfl (lv_at hl 1 rfl) ?_
      refine lv_bipush (v := 20) hx hb dX4_numberOf_38 (by decide) ?_
      refine lv_isub hx hb dX4_numberOf_40 ?_
      refine zcSO (n := 1) (c_X4_isGroup l D g (wh - 20)) hx hb hml hown hts gX4_numberOf_X4_isGroup rfl ⟨by decide, by decide, by decide⟩ ⟨Nat.le_of_ble_eq_true rfl, Nat.le_of_ble_eq_true rfl⟩ ⟨rfl, rfl⟩ hK (hP.sub [] rfl) hl.1 rfl rfl (Nat.le_of_ble_eq_true rfl) ⟨Nat.zero_le _, Nat.zero_le _⟩ dX4_numberOf_41 ?_
      refine zif_eq (tgt := 59) hx hb dX4_numberOf_44 (by decide) (fun c_5 => ?_) (fun c_5 => ?_)
      · have hq := hq.trans (zif_f c_5)
        refine lv_aload_n hx hb dX4_numberOf_59 rfl (lv_at hl 0 rfl) ?_
        refine va_get (D := D) (ci := 4) (v := .ref (h 0)) (C := RX4) (T := TX4) (N := 4) hx hb hts hinX4 hown hK.1 hP 0 rfl rfl 0 (by decide) (hts (.fieldLink RX4 10 "SaltShares" "town" "LSaltShares$Town;") (List.mem_of_getElem? (i := 3) rfl)) (fun _ h9 => h9) rfl dX4_numberOf_60 ?_
        refine lv_iload_n hx hb dX4_numberOf_63 rfl (lv_at hl 1 rfl) ?_
        refine zcV (ci := 3) (n := 1) (c_X3_number l D g h T wh) hx hb hml hown hts gX4_numberOf_X3_number rfl ⟨rfl, by decide, by decide, by decide⟩ ⟨Nat.le_of_ble_eq_true rfl, Nat.le_of_ble_eq_true rfl⟩ ⟨rfl, rfl⟩ hK (zsubB (cs := [zB_X3 (g 0) h T]) hP [2] rfl (zF1 _)) rfl rfl rfl hl.1 rfl rfl (Nat.le_of_ble_eq_true rfl) ⟨Nat.zero_le _, Nat.zero_le _⟩ dX4_numberOf_64 ?_
        exact zret_i hx hb hr hlocks dX4_numberOf_67 hq
      · have hq := hq.trans (zif_t c_5)
        refine lv_aload_n hx hb dX4_numberOf_47 rfl (lv_at hl 0 rfl) ?_
        refine va_get (D := D) (ci := 4) (v := .ref (h 0)) (C := RX4) (T := TX4) (N := 4) hx hb hts hinX4 hown hK.1 hP 0 rfl rfl 0 (by decide) (hts (.fieldLink RX4 10 "SaltShares" "town" "LSaltShares$Town;") (List.mem_of_getElem? (i := 3) rfl)) (fun _ h9 => h9) rfl dX4_numberOf_48 ?_
        refine lv_iload_n hx hb dX4_numberOf_51 rfl (lv_at hl 1 rfl) ?_
        refine lv_bipush (v := 20) hx hb dX4_numberOf_52 (by decide) ?_
        refine lv_isub hx hb dX4_numberOf_54 ?_
        have w_7 := znat (zin_g (by with_reducible assumption))
        have w_7b := w_7.2
        refine lv_is w_7.1 ?_
        refine zcV (ci := 3) (n := 1) (c_X3_freeBuckets l D g h T (Int32.toNatClampNeg (wh - 20)) (by omega)) hx hb hml hown hts gX4_numberOf_X3_freeBuckets rfl ⟨rfl, by decide, by decide, by decide⟩ ⟨Nat.le_of_ble_eq_true rfl, Nat.le_of_ble_eq_true rfl⟩ ⟨rfl, rfl⟩ hK (zsubB (cs := [zB_X3 (g 0) h T]) hP [2] rfl (zF1 _)) rfl rfl rfl hl.1 rfl rfl (Nat.le_of_ble_eq_true rfl) ⟨Nat.zero_le _, Nat.zero_le _⟩ dX4_numberOf_55 ?_
        exact zret_i hx hb hr hlocks dX4_numberOf_58 hq
    · have hq := hq.trans (zif_t c_3)
      refine lv_aload_n hx hb dX4_numberOf_24 rfl (lv_at hl 0 rfl) ?_
      refine va_get (D := D) (ci := 4) (v := .ref (h 0)) (C := RX4) (T := TX4) (N := 4) hx hb hts hinX4 hown hK.1 hP 0 rfl rfl 0 (by decide) (hts (.fieldLink RX4 10 "SaltShares" "town" "LSaltShares$Town;") (List.mem_of_getElem? (i := 3) rfl)) (fun _ h9 => h9) rfl dX4_numberOf_25 ?_
      refine va_get (D := D) (ci := 3) (v := .ref (h 10)) (C := RX3) (T := TX3) (N := 15) hx hb hts hinX3 hown hK.1 hP 3 rfl rfl 9 (by decide) (hts (.fieldLink RX4 126 "SaltShares$Town" "groupSalt" "[I") (List.mem_of_getElem? (i := 4) rfl)) (fun _ h9 => h9) rfl dX4_numberOf_28 ?_
      refine lv_iload_n hx hb dX4_numberOf_31 rfl (lv_at hl 1 rfl) ?_
      refine lv_bipush (v := 10) hx hb dX4_numberOf_32 (by decide) ?_
      refine lv_isub hx hb dX4_numberOf_34 ?_
      refine va_iald hx hb hK.1 hP 8 0 rfl rfl (zin_g (by with_reducible assumption)) dX4_numberOf_35 ?_
      exact zret_i hx hb hr hlocks dX4_numberOf_36 hq
  · have c_1 : wh = 8 := c_1
    have hq := hq.trans (if_pos c_1)
    refine lv_aload_n hx hb dX4_numberOf_6 rfl (lv_at hl 0 rfl) ?_
    refine va_get (D := D) (ci := 4) (v := .ref (u 0)) (C := RX4) (T := TX4) (N := 4) hx hb hts hinX4 hown hK.1 hP 0 rfl rfl 1 (by decide) (hts (.fieldLink RX4 19 "SaltShares" "history" "LSaltShares$History;") (List.mem_of_getElem? (i := 1) rfl)) (fun _ h9 => h9) rfl dX4_numberOf_7 ?_
    refine va_get (D := D) (ci := 1) (v := .int (Z 0 0)) (C := RX1) (T := TX1) (N := 3) hx hb hts hinX1 hown hK.1 hP 1 rfl rfl 0 (by decide) (hts (.fieldLink RX4 181 "SaltShares$History" "size" "I") (List.mem_of_getElem? (i := 2) rfl)) (fun _ h9 => h9) rfl dX4_numberOf_10 ?_
    exact zret_i hx hb hr hlocks dX4_numberOf_13 hq
def v_X4_bestSaltFrom_32 (T : Nat → Nat → Int32) (xb : Int32) (fr : Nat) : Nat → Int32 → Int32 → Nat → Int32
  | 0, _, _, _ => (0)
  | n + 1, best, most, salt => (if fr + 20 ≤ salt then best else (if 9999 < salt then best else (if (nI (v_X3_eatersBy T (Int32.toNatClampNeg xb) (nI salt))) ≤ most then v_X4_bestSaltFrom_32 T xb fr n best most (salt + 1) else v_X4_bestSaltFrom_32 T xb fr n (nI salt) (nI (v_X3_eatersBy T (Int32.toNatClampNeg xb) (nI salt))) (salt + 1))))
def v_X4_bestSaltFrom (T : Nat → Nat → Int32) (xb : Int32) (fr : Nat) : Int32 := (if (v_X3_isOpenBread T xb) = true then (if (v_X3_isInGroup T (Int32.toNatClampNeg xb)) = true then (-1) else v_X4_bestSaltFrom_32 T xb fr 21 (-1) (-1) fr) else (-1))
set_option maxHeartbeats 400000 in
set_option maxRecDepth 100000 in
theorem c_X4_bestSaltFrom (l : Launch) (D : va_G) (g : Nat → ClassId) (f : Nat → Nat) (h : Nat → Nat) (u : Nat → Nat) (o : Nat → Nat) (x : Nat → Nat) (T : Nat → Nat → Int32) (xb : Int32) (fr : Nat) (z0 : fr ≤ 9999) : Rd l D (zT g) yX4_bestSaltFrom wsX4_bestSaltFrom (rmOf 3 71) [.ref (f 0), .int xb, .int (nI fr)] ((zB_X4 f h u o x) ++ (zB_X3 (g 0) h T)) (.int (v_X4_bestSaltFrom T xb fr)) := by
  refine Rd.of (cc := cX4_bestSaltFrom) (maxL := 7) (ret := (some .int)) (by decide) rfl (Nat.le_of_ble_eq_true rfl) ?_
  intro p e s m below meth c ls hx hb hr hml hown hts hlocks hP hK hl
  have hown : s.vm.findClass RX4 = some m.cls := hown
  have hinX4 : ∀ w ∈ u_ws RX4 TX4 4, w ∈ wsX4_bestSaltFrom := fun _ h9 => (List.mem_cons_of_mem _ (List.mem_append_left _ (List.mem_append_right _ h9)))
  obtain ⟨q, hq⟩ : ∃ q : Int32, q = v_X4_bestSaltFrom T xb fr := ⟨_, rfl⟩
  rw [← hq]
  unfold v_X4_bestSaltFrom at hq
  have hl : lv_has ls 7 [(0, .ref (f 0)), (1, .int xb), (2, .int (nI fr))] := hl
  refine lv_aload_n hx hb dX4_bestSaltFrom_0 rfl (lv_at hl 0 rfl) ?_
  refine va_get (D := D) (ci := 4) (v := .ref (h 0)) (C := RX4) (T := TX4) (N := 4) hx hb hts hinX4 hown hK.1 hP 0 rfl rfl 0 (by decide) (hts (.fieldLink RX4 10 "SaltShares" "town" "LSaltShares$Town;") (List.mem_of_getElem? (i := 1) rfl)) (fun _ h9 => h9) rfl dX4_bestSaltFrom_1 ?_
  refine lv_iload_n hx hb dX4_bestSaltFrom_4 rfl (lv_at hl 1 rfl) ?_
  refine zcV (ci := 3) (n := 1) (c_X3_isOpenBread l D g h T xb) hx hb hml hown hts gX4_bestSaltFrom_X3_isOpenBread rfl ⟨rfl, by decide, by decide, by decide⟩ ⟨Nat.le_of_ble_eq_true rfl, Nat.le_of_ble_eq_true rfl⟩ ⟨rfl, rfl⟩ hK (hP.sub [1, 2, 3, 4, 5, 6, 7, 8, 9, 10, 11] rfl) rfl rfl rfl hl.1 rfl rfl (Nat.le_of_ble_eq_true rfl) ⟨Nat.zero_le _, Nat.zero_le _⟩ dX4_bestSaltFrom_5 ?_
  refine zif_eq (tgt := 22) hx hb dX4_bestSaltFrom_8 (by decide) (fun c_2 => ?_) (fun c_2 => ?_)
  · have hq := hq.trans (zif_f c_2)
    refine lv_iconst (v := (-1)) hx hb dX4_bestSaltFrom_22 (by decide) ?_
    exact zret_i hx hb hr hlocks dX4_bestSaltFrom_23 hq
  · have hq := hq.trans (zif_t c_2)
    have w_3 := znat (zin_open (by with_reducible assumption))
    have w_3b := w_3.2
    have hl : lv_has ls 7 [(0, .ref (f 0)), (1, .int (nI (Int32.toNatClampNeg xb))), (2, .int (nI fr))] := by rw [← w_3.1]; exact hl
    refine lv_aload_n hx hb dX4_bestSaltFrom_11 rfl (lv_at hl 0 rfl) ?_
    refine va_get (D := D) (ci := 4) (v := .ref (h 0)) (C := RX4) (T := TX4) (N := 4) hx hb hts hinX4 hown hK.1 hP 0 rfl rfl 0 (by decide) (hts (.fieldLink RX4 10 "SaltShares" "town" "LSaltShares$Town;") (List.mem_of_getElem? (i := 1) rfl)) (fun _ h9 => h9) rfl dX4_bestSaltFrom_12 ?_
    refine lv_iload_n hx hb dX4_bestSaltFrom_15 rfl (lv_at hl 1 rfl) ?_
    refine zcV (ci := 3) (n := 1) (c_X3_isInGroup l D g h T (Int32.toNatClampNeg xb) (by omega)) hx hb hml hown hts gX4_bestSaltFrom_X3_isInGroup rfl ⟨rfl, by decide, by decide, by decide⟩ ⟨Nat.le_of_ble_eq_true rfl, Nat.le_of_ble_eq_true rfl⟩ ⟨rfl, rfl⟩ hK (hP.sub [1, 2, 3, 4, 5, 6, 7, 8, 9, 10, 11] rfl) rfl rfl rfl hl.1 rfl rfl (Nat.le_of_ble_eq_true rfl) ⟨Nat.zero_le _, Nat.zero_le _⟩ dX4_bestSaltFrom_16 ?_
    refine zif_eq (tgt := 24) hx hb dX4_bestSaltFrom_19 (by decide) (fun c_5 => ?_) (fun c_5 => ?_)
    · have hq := hq.trans (zif_f c_5)
      refine lv_iconst (v := (-1)) hx hb dX4_bestSaltFrom_24 (by decide) ?_
      refine lv_istore_n (lv' := [(3, .int (-1)), (0, .ref (f 0)), (1, .int (nI (Int32.toNatClampNeg xb))), (2, .int (nI fr))]) hx hb dX4_bestSaltFrom_25 rfl hl (by decide) rfl (fun ls hl => ?_)
      refine lv_iconst (v := (-1)) hx hb dX4_bestSaltFrom_26 (by decide) ?_
      refine lv_istore (lv' := [(4, .int (-1)), (3, .int (-1)), (0, .ref (f 0)), (1, .int (nI (Int32.toNatClampNeg xb))), (2, .int (nI fr))]) hx hb dX4_bestSaltFrom_27 hl (by decide) rfl (fun ls hl => ?_)
      refine lv_iload_n hx hb dX4_bestSaltFrom_29 rfl (lv_at hl 4 rfl) ?_
      refine lv_istore (lv' := [(5, .int (nI fr)), (4, .int (-1)), (3, .int (-1)), (0, .ref (f 0)), (1, .int (nI (Int32.toNatClampNeg xb))), (2, .int (nI fr))]) hx hb dX4_bestSaltFrom_30 hl (by decide) rfl (fun ls hl => ?_)
      have L32 : ∀ (n : Nat) (best : Int32) (most : Int32) (salt : Nat), (fr ≤ salt) → (salt ≤ fr + 20) → fr + 20 - salt < n → ∀ (ls : Array Slot), lv_has ls 7 [(0, .ref (f 0)), (1, .int (nI (Int32.toNatClampNeg xb))), (2, .int (nI fr)), (3, .int best), (4, .int most), (5, .int (nI salt))] → q = v_X4_bestSaltFrom_32 T xb fr n best most salt → W p l e (rmOf 3 71) s m [.ref (f 0), .int xb, .int (nI fr)].toArray below meth c s.heap [] 0 0 (MQ below (zQ (.int q)) [.ref (f 0), .int xb, .int (nI fr)].toArray s 0 0 (fun _ => False)) (F0 m 32 ls []) := by
        intro n
        induction n with
        | zero => intro best most salt v32_0 v32_1 hn; exact absurd hn (Nat.not_lt_zero _)
        | succ n ih32 =>
          intro best most salt v32_0 v32_1 hn32 ls hl hq
          rw [v_X4_bestSaltFrom_32] at hq
          refine lv_iload hx hb dX4_bestSaltFrom_32 (lv_at hl 5 rfl) ?_
          refine lv_iload_n hx hb dX4_bestSaltFrom_34 rfl (lv_at hl 2 rfl) ?_
          refine lv_bipush (v := 20) hx hb dX4_bestSaltFrom_35 (by decide) ?_
          refine lv_iadd hx hb dX4_bestSaltFrom_37 ?_
          refine lv_is (show (nI fr) + 20 = (nI (fr + 20)) from nI_add fr 20) ?_
          refine lv_icmp_ge (tgt := 81) hx hb dX4_bestSaltFrom_38 (by decide) (fun c_6 => ?_) (fun c_6 => ?_)
          · have c_6 : fr + 20 ≤ salt := (nI_leI (a := fr + 20) (b := salt) (by omega) (by omega)).mp c_6
            have hq := hq.trans (if_pos c_6)
            refine lv_iload_n hx hb dX4_bestSaltFrom_81 rfl (lv_at hl 3 rfl) ?_
            exact zret_i hx hb hr hlocks dX4_bestSaltFrom_82 hq
          · have c_6 : ¬ (fr + 20 ≤ salt) := fun h9 => c_6 ((nI_leI (a := fr + 20) (b := salt) (by omega) (by omega)).mpr h9)
            have hq := hq.trans (if_neg c_6)
            refine lv_iload hx hb dX4_bestSaltFrom_41 (lv_at hl 5 rfl) ?_
            refine lv_sipush (v := 9999) hx hb dX4_bestSaltFrom_43 (by decide) ?_
            refine lv_icmp_gt (tgt := 81) hx hb dX4_bestSaltFrom_46 (by decide) (fun c_7 => ?_) (fun c_7 => ?_)
            · have c_7 : 9999 < salt := (nI_ltI (a := 9999) (b := salt) (by omega) (by omega)).mp c_7
              have hq := hq.trans (if_pos c_7)
              refine lv_iload_n hx hb dX4_bestSaltFrom_81 rfl (lv_at hl 3 rfl) ?_
              exact zret_i hx hb hr hlocks dX4_bestSaltFrom_82 hq
            · have c_7 : ¬ (9999 < salt) := fun h9 => c_7 ((nI_ltI (a := 9999) (b := salt) (by omega) (by omega)).mpr h9)
              have hq := hq.trans (if_neg c_7)
              refine lv_aload_n hx hb dX4_bestSaltFrom_49 rfl (lv_at hl 0 rfl) ?_
              refine va_get (D := D) (ci := 4) (v := .ref (h 0)) (C := RX4) (T := TX4) (N := 4) hx hb hts hinX4 hown hK.1 hP 0 rfl rfl 0 (by decide) (hts (.fieldLink RX4 10 "SaltShares" "town" "LSaltShares$Town;") (List.mem_of_getElem? (i := 1) rfl)) (fun _ h9 => h9) rfl dX4_bestSaltFrom_50 ?_
              refine lv_iload_n hx hb dX4_bestSaltFrom_53 rfl (lv_at hl 1 rfl) ?_
              refine lv_iload hx hb dX4_bestSaltFrom_54 (lv_at hl 5 rfl) ?_
              refine zcV (ci := 3) (n := 2) (c_X3_eatersBy l D g h T (Int32.toNatClampNeg xb) (nI salt) (by omega)) hx hb hml hown hts gX4_bestSaltFrom_X3_eatersBy rfl ⟨rfl, by decide, by decide, by decide⟩ ⟨Nat.le_of_ble_eq_true rfl, Nat.le_of_ble_eq_true rfl⟩ ⟨rfl, rfl⟩ hK (hP.sub [1, 2, 3, 4, 5, 6, 7, 8, 9, 10, 11] rfl) rfl rfl rfl hl.1 rfl rfl (Nat.le_of_ble_eq_true rfl) ⟨Nat.zero_le _, Nat.zero_le _⟩ dX4_bestSaltFrom_56 ?_
              refine lv_istore (lv' := [(6, .int (nI (v_X3_eatersBy T (Int32.toNatClampNeg xb) (nI salt)))), (0, .ref (f 0)), (1, .int (nI (Int32.toNatClampNeg xb))), (2, .int (nI fr)), (3, .int best), (4, .int most), (5, .int (nI salt))]) hx hb dX4_bestSaltFrom_59 hl (by decide) rfl (fun ls hl => ?_)
              refine lv_iload hx hb dX4_bestSaltFrom_61 (lv_at hl 0 rfl) ?_
              refine lv_iload hx hb dX4_bestSaltFrom_63 (lv_at hl 5 rfl) ?_
              refine lv_icmp_le (tgt := 75) hx hb dX4_bestSaltFrom_65 (by decide) (fun c_9 => ?_) (fun c_9 => ?_)
              · have c_9 : (nI (v_X3_eatersBy T (Int32.toNatClampNeg xb) (nI salt))) ≤ most := c_9
                have hq := hq.trans (if_pos c_9)
                refine lv_iinc (v := (nI (salt + 1))) (lv' := [(5, .int (nI (salt + 1))), (6, .int (nI (v_X3_eatersBy T (Int32.toNatClampNeg xb) (nI salt)))), (0, .ref (f 0)), (1, .int (nI (Int32.toNatClampNeg xb))), (2, .int (nI fr)), (3, .int best), (4, .int most)]) hx hb dX4_bestSaltFrom_75 hl (k := 6) rfl (nI_add _ 1) (by decide) rfl (fun ls hl => ?_)
                refine lv_goto (tgt := 32) hx hb dX4_bestSaltFrom_78 (by decide) ?_
                exact ih32 best most (salt + 1) (by omega) (by omega) (by omega) ls (lv_sub hl [2, 3, 4, 5, 6, 0] rfl) hq
              · have c_9 : ¬ ((nI (v_X3_eatersBy T (Int32.toNatClampNeg xb) (nI salt))) ≤ most) := c_9
                have hq := hq.trans (if_neg c_9)
                refine lv_iload hx hb dX4_bestSaltFrom_68 (lv_at hl 0 rfl) ?_
                refine lv_istore (lv' := [(4, .int (nI (v_X3_eatersBy T (Int32.toNatClampNeg xb) (nI salt)))), (6, .int (nI (v_X3_eatersBy T (Int32.toNatClampNeg xb) (nI salt)))), (0, .ref (f 0)), (1, .int (nI (Int32.toNatClampNeg xb))), (2, .int (nI fr)), (3, .int best), (5, .int (nI salt))]) hx hb dX4_bestSaltFrom_70 hl (by decide) rfl (fun ls hl => ?_)
                refine lv_iload hx hb dX4_bestSaltFrom_72 (lv_at hl 6 rfl) ?_
                refine lv_istore_n (lv' := [(3, .int (nI salt)), (4, .int (nI (v_X3_eatersBy T (Int32.toNatClampNeg xb) (nI salt)))), (6, .int (nI (v_X3_eatersBy T (Int32.toNatClampNeg xb) (nI salt)))), (0, .ref (f 0)), (1, .int (nI (Int32.toNatClampNeg xb))), (2, .int (nI fr)), (5, .int (nI salt))]) hx hb dX4_bestSaltFrom_74 rfl hl (by decide) rfl (fun ls hl => ?_)
                refine lv_iinc (v := (nI (salt + 1))) (lv' := [(5, .int (nI (salt + 1))), (3, .int (nI salt)), (4, .int (nI (v_X3_eatersBy T (Int32.toNatClampNeg xb) (nI salt)))), (6, .int (nI (v_X3_eatersBy T (Int32.toNatClampNeg xb) (nI salt)))), (0, .ref (f 0)), (1, .int (nI (Int32.toNatClampNeg xb))), (2, .int (nI fr))]) hx hb dX4_bestSaltFrom_75 hl (k := 6) rfl (nI_add _ 1) (by decide) rfl (fun ls hl => ?_)
                refine lv_goto (tgt := 32) hx hb dX4_bestSaltFrom_78 (by decide) ?_
                exact ih32 (nI salt) (nI (v_X3_eatersBy T (Int32.toNatClampNeg xb) (nI salt))) (salt + 1) (by omega) (by omega) (by omega) ls (lv_sub hl [4, 5, 6, 1, 2, 0] rfl) hq
      exact L32 21 (-1) (-1) fr (by omega) (by omega) (by omega) ls (lv_sub hl [3, 4, 5, 2, 1, 0] rfl) hq
    · have hq := hq.trans (zif_t c_5)
      refine lv_iconst (v := (-1)) hx hb dX4_bestSaltFrom_22 (by decide) ?_
      exact zret_i hx hb hr hlocks dX4_bestSaltFrom_23 hq
def v_X4_hashWithPersons_16 (T : Nat → Nat → Int32) (pe : Nat) : Nat → Int64 → Nat → Int64 × Nat
  | 0, _, _ => (0, 0)
  | n + 1, hash', wh => (if 4 < wh then (hash', wh) else v_X4_hashWithPersons_16 T pe n ((31 * hash') + (Int32.toInt64 (v_X3_personProperty T pe (nI wh)))) (wh + 1))
def v_X4_hashWithPersons_5 (T : Nat → Nat → Int32) : Nat → Int64 → Nat → Int64
  | 0, _, _ => (0)
  | n + 1, hash, pe => (if 150 ≤ pe then hash else v_X4_hashWithPersons_5 T n ((v_X4_hashWithPersons_16 T pe 6 hash 0).1) (pe + 1))
def v_X4_hashWithPersons (T : Nat → Nat → Int32) (st : Int64) : Int64 := v_X4_hashWithPersons_5 T 151 st 0
set_option maxHeartbeats 400000 in
set_option maxRecDepth 100000 in
theorem c_X4_hashWithPersons (l : Launch) (D : va_G) (g : Nat → ClassId) (f : Nat → Nat) (h : Nat → Nat) (u : Nat → Nat) (o : Nat → Nat) (x : Nat → Nat) (T : Nat → Nat → Int32) (st : Int64) : Rd l D (zT g) yX4_hashWithPersons wsX4_hashWithPersons (rmOf 4 92) [.ref (f 0), .long st] ((zB_X4 f h u o x) ++ (zB_X3 (g 0) h T)) (.long (v_X4_hashWithPersons T st)) := by
  refine Rd.of (cc := cX4_hashWithPersons) (maxL := 7) (ret := (some .long)) (by decide) rfl (Nat.le_of_ble_eq_true rfl) ?_
  intro p e s m below meth c ls hx hb hr hml hown hts hlocks hP hK hl
  have hown : s.vm.findClass RX4 = some m.cls := hown
  have hinX4 : ∀ w ∈ u_ws RX4 TX4 4, w ∈ wsX4_hashWithPersons := fun _ h9 => (List.mem_cons_of_mem _ (List.mem_append_left _ (List.mem_append_right _ h9)))
  obtain ⟨q, hq⟩ : ∃ q : Int64, q = v_X4_hashWithPersons T st := ⟨_, rfl⟩
  rw [← hq]
  unfold v_X4_hashWithPersons at hq
  have hl : lv_has ls 7 [(0, .ref (f 0)), (1, .long st)] := hl
  refine lv_lload_n hx hb dX4_hashWithPersons_0 rfl (lv_at hl 1 rfl) ?_
  refine lv_lstore_n (lv' := [(3, .long st), (0, .ref (f 0)), (1, .long st)]) hx hb dX4_hashWithPersons_1 rfl hl (by decide) rfl (fun ls hl => ?_)
  refine lv_iconst (v := 0) hx hb dX4_hashWithPersons_2 (by decide) ?_
  refine lv_istore (lv' := [(5, .int 0), (3, .long st), (0, .ref (f 0)), (1, .long st)]) hx hb dX4_hashWithPersons_3 hl (by decide) rfl (fun ls hl => ?_)
  have L5 : ∀ (n : Nat) (hash : Int64) (pe : Nat), (pe ≤ 150) → 150 - pe < n → ∀ (ls : Array Slot), lv_has ls 7 [(0, .ref (f 0)), (1, .long st), (3, .long hash), (5, .int (nI pe))] → q = v_X4_hashWithPersons_5 T n hash pe → W p l e (rmOf 4 92) s m [.ref (f 0), .long st].toArray below meth c s.heap [] 0 0 (MQ below (zQ (.long q)) [.ref (f 0), .long st].toArray s 0 0 (fun _ => False)) (F0 m 5 ls []) := by
    intro n
    induction n with
    | zero => intro hash pe v5_0 hn; exact absurd hn (Nat.not_lt_zero _)
    | succ n ih5 =>
      intro hash pe v5_0 hn5 ls hl hq
      rw [v_X4_hashWithPersons_5] at hq
      refine lv_iload hx hb dX4_hashWithPersons_5 (lv_at hl 3 rfl) ?_
      refine lv_sipush (v := 150) hx hb dX4_hashWithPersons_7 (by decide) ?_
      refine lv_icmp_ge (tgt := 53) hx hb dX4_hashWithPersons_10 (by decide) (fun c_1 => ?_) (fun c_1 => ?_)
      · have c_1 : 150 ≤ pe := (nI_leI (a := 150) (b := pe) (by omega) (by omega)).mp c_1
        have hq := hq.trans (if_pos c_1)
        refine lv_lload_n hx hb dX4_hashWithPersons_53 rfl (lv_at hl 2 rfl) ?_
        exact zret_l hx hb hr hlocks dX4_hashWithPersons_54 hq
      · have c_1 : ¬ (150 ≤ pe) := fun h9 => c_1 ((nI_leI (a := 150) (b := pe) (by omega) (by omega)).mpr h9)
        have hq := hq.trans (if_neg c_1)
        refine lv_iconst (v := 0) hx hb dX4_hashWithPersons_13 (by decide) ?_
        refine lv_istore (lv' := [(6, .int 0), (0, .ref (f 0)), (1, .long st), (3, .long hash), (5, .int (nI pe))]) hx hb dX4_hashWithPersons_14 hl (by decide) rfl (fun ls hl => ?_)
        have L16 : ∀ (n : Nat) (hash' : Int64) (wh : Nat), (wh ≤ 5) → 5 - wh < n → ∀ (ls : Array Slot), lv_has ls 7 [(0, .ref (f 0)), (1, .long st), (3, .long hash'), (5, .int (nI pe)), (6, .int (nI wh))] → ∀ (r16 : Int64 × Nat), r16 = v_X4_hashWithPersons_16 T pe n hash' wh → (∀ (ls : Array Slot), lv_has ls 7 [(0, .ref (f 0)), (1, .long st), (3, .long r16.1), (5, .int (nI pe)), (6, .int (nI r16.2))] → W p l e (rmOf 4 92) s m [.ref (f 0), .long st].toArray below meth c s.heap [] 0 0 (MQ below (zQ (.long q)) [.ref (f 0), .long st].toArray s 0 0 (fun _ => False)) (F0 m 47 ls [])) → W p l e (rmOf 4 92) s m [.ref (f 0), .long st].toArray below meth c s.heap [] 0 0 (MQ below (zQ (.long q)) [.ref (f 0), .long st].toArray s 0 0 (fun _ => False)) (F0 m 16 ls []) := by
          intro n
          induction n with
          | zero => intro hash' wh v16_0 hn; exact absurd hn (Nat.not_lt_zero _)
          | succ n ih16 =>
            intro hash' wh v16_0 hn16 ls hl r16 hq kk16
            rw [v_X4_hashWithPersons_16] at hq
            refine lv_iload hx hb dX4_hashWithPersons_16 (lv_at hl 4 rfl) ?_
            refine lv_iconst (v := 4) hx hb dX4_hashWithPersons_18 (by decide) ?_
            refine lv_icmp_gt (tgt := 47) hx hb dX4_hashWithPersons_19 (by decide) (fun c_2 => ?_) (fun c_2 => ?_)
            · have c_2 : 4 < wh := (nI_ltI (a := 4) (b := wh) (by omega) (by omega)).mp c_2
              have hq := hq.trans (if_pos c_2)
              subst hq
              exact kk16 ls (lv_sub hl [0, 1, 2, 3, 4] rfl)
            · have c_2 : ¬ (4 < wh) := fun h9 => c_2 ((nI_ltI (a := 4) (b := wh) (by omega) (by omega)).mpr h9)
              have hq := hq.trans (if_neg c_2)
              refine lv_ldc2 (v := 31) hx hb hown (hts (.constantLong RX4 250 (31)) (List.mem_of_getElem? (i := 1) rfl)) dX4_hashWithPersons_22 ?_
              refine lv_lload_n hx hb dX4_hashWithPersons_25 rfl (lv_at hl 2 rfl) ?_
              refine lv_lmul hx hb dX4_hashWithPersons_26 ?_
              refine lv_aload_n hx hb dX4_hashWithPersons_27 rfl (lv_at hl 0 rfl) ?_
              refine va_get (D := D) (ci := 4) (v := .ref (h 0)) (C := RX4) (T := TX4) (N := 4) hx hb hts hinX4 hown hK.1 hP 0 rfl rfl 0 (by decide) (hts (.fieldLink RX4 10 "SaltShares" "town" "LSaltShares$Town;") (List.mem_of_getElem? (i := 2) rfl)) (fun _ h9 => h9) rfl dX4_hashWithPersons_28 ?_
              refine lv_iload hx hb dX4_hashWithPersons_31 (lv_at hl 3 rfl) ?_
              refine lv_iload hx hb dX4_hashWithPersons_33 (lv_at hl 4 rfl) ?_
              refine zcV (ci := 3) (n := 2) (c_X3_personProperty l D g h T pe (nI wh) (by omega)) hx hb hml hown hts gX4_hashWithPersons_X3_personProperty rfl ⟨rfl, by decide, by decide, by decide⟩ ⟨Nat.le_of_ble_eq_true rfl, Nat.le_of_ble_eq_true rfl⟩ ⟨rfl, rfl⟩ hK (hP.sub [1, 2, 3, 4, 5, 6, 7, 8, 9, 10, 11] rfl) rfl rfl rfl hl.1 rfl rfl (Nat.le_of_ble_eq_true rfl) ⟨Nat.zero_le _, Nat.zero_le _⟩ dX4_hashWithPersons_35 ?_
              refine lv_i2l hx hb dX4_hashWithPersons_38 rfl ?_
              refine lv_ladd hx hb dX4_hashWithPersons_39 ?_
              refine lv_lstore_n (lv' := [(3, .long ((31 * hash') + (Int32.toInt64 (v_X3_personProperty T pe (nI wh))))), (0, .ref (f 0)), (1, .long st), (5, .int (nI pe)), (6, .int (nI wh))]) hx hb dX4_hashWithPersons_40 rfl hl (by decide) rfl (fun ls hl => ?_)
              refine lv_iinc (v := (nI (wh + 1))) (lv' := [(6, .int (nI (wh + 1))), (3, .long ((31 * hash') + (Int32.toInt64 (v_X3_personProperty T pe (nI wh))))), (0, .ref (f 0)), (1, .long st), (5, .int (nI pe))]) hx hb dX4_hashWithPersons_41 hl (k := 4) rfl (nI_add _ 1) (by decide) rfl (fun ls hl => ?_)
              refine lv_goto (tgt := 16) hx hb dX4_hashWithPersons_44 (by decide) ?_
              exact ih16 ((31 * hash') + (Int32.toInt64 (v_X3_personProperty T pe (nI wh)))) (wh + 1) (by omega) (by omega) ls (lv_sub hl [2, 3, 1, 4, 0] rfl) _ hq kk16
        refine L16 6 hash 0 (by omega) (by omega) ls (lv_sub hl [1, 2, 3, 4, 0] rfl) _ rfl (fun ls hl => ?_)
        refine lv_iinc (v := (nI (pe + 1))) (lv' := [(5, .int (nI (pe + 1))), (0, .ref (f 0)), (1, .long st), (3, .long ((v_X4_hashWithPersons_16 T pe 6 hash 0).1)), (6, .int (nI ((v_X4_hashWithPersons_16 T pe 6 hash 0).2)))]) hx hb dX4_hashWithPersons_47 hl (k := 3) rfl (nI_add _ 1) (by decide) rfl (fun ls hl => ?_)
        refine lv_goto (tgt := 5) hx hb dX4_hashWithPersons_50 (by decide) ?_
        exact ih5 ((v_X4_hashWithPersons_16 T pe 6 hash 0).1) (pe + 1) (by omega) (by omega) ls (lv_sub hl [1, 2, 3, 0] rfl) hq
  exact L5 151 st 0 (by omega) (by omega) ls (lv_sub hl [2, 3, 1, 0] rfl) hq
def v_X4_carryOut (T : Nat → Nat → Int32) (X : Nat → Nat → Int32) : Bool × (Nat → Nat → Int32) := (if (X 4 0) = 43 then ((v_X3_tryRaise T (X 5 0) (X 6 0)).1, (v_X3_tryRaise T (X 5 0) (X 6 0)).2) else (if (X 4 0) = 45 then ((v_X3_tryLower T (X 5 0) (X 6 0)).1, (v_X3_tryLower T (X 5 0) (X 6 0)).2) else (if (X 4 0) = 100 then (true, v_X3_letPass T (X 6 0)) else (if (X 4 0) = 105 then ((v_X3_tryHold T (X 6 0) (X 5 0) true).1, (v_X3_tryHold T (X 6 0) (X 5 0) true).2) else (if (X 4 0) = 111 then ((v_X3_tryHold T (X 6 0) (X 5 0) false).1, (v_X3_tryHold T (X 6 0) (X 5 0) false).2) else (if (X 4 0) = 120 then ((v_X3_tryClose T (X 5 0)).1, (v_X3_tryClose T (X 5 0)).2) else (false, T)))))))
set_option maxHeartbeats 400000 in
set_option maxRecDepth 100000 in
theorem c_X4_carryOut (l : Launch) (D : va_G) (g : Nat → ClassId) (f : Nat → Nat) (h : Nat → Nat) (u : Nat → Nat) (o : Nat → Nat) (x : Nat → Nat) (T : Nat → Nat → Int32) (X : Nat → Nat → Int32) : Wr l D (zT g) yX4_carryOut wsX4_carryOut (rmOf 4 94) [.ref (f 0)] (zF [zB_X4 f h u o x, zB_X3 (g 0) h T, zB_X0 (g 0) x X]) (some (.int (bI ((v_X4_carryOut T X).1)))) (zF [zB_X4 f h u o x, zB_X3 (g 0) h ((v_X4_carryOut T X).2), zB_X0 (g 0) x X]) := by
  refine Wr.of (cc := cX4_carryOut) (maxL := 1) (ret := (some .boolean)) (by decide) rfl (Nat.le_of_ble_eq_true rfl) ?_
  intro p e s m below meth c ls hx hb hr hml hown hts hlocks hP hD hS hK hl
  have hown : s.vm.findClass RX4 = some m.cls := hown
  have hinX0 : ∀ w ∈ u_ws RX0 TX0 7, w ∈ wsX4_carryOut := fun _ h9 => (List.mem_cons_of_mem _ (List.mem_append_left _ (List.mem_append_right _ h9)))
  have hinX4 : ∀ w ∈ u_ws RX4 TX4 4, w ∈ wsX4_carryOut := fun _ h9 => (List.mem_cons_of_mem _ (List.mem_append_left _ (List.mem_append_left _ (List.mem_append_right _ h9))))
  obtain ⟨q, hq⟩ : ∃ q : Bool × (Nat → Nat → Int32), q = v_X4_carryOut T X := ⟨_, rfl⟩
  rw [← hq]
  unfold v_X4_carryOut at hq
  have hl : lv_has ls 1 [(0, .ref (f 0))] := hl
  refine lv_aload_n hx hb dX4_carryOut_0 rfl (lv_at hl 0 rfl) ?_
  refine va_get (D := D) (ci := 4) (v := .ref (x 0)) (C := RX4) (T := TX4) (N := 4) hx hb hts hinX4 hown hK.1 hP 0 rfl rfl 3 (by decide) (hts (.fieldLink RX4 33 "SaltShares" "text" "LSaltShares$CommandText;") (List.mem_of_getElem? (i := 1) rfl)) (fun _ h9 => h9) rfl dX4_carryOut_1 ?_
  refine va_get (D := D) (ci := 0) (v := .int (X 4 0)) (C := RX0) (T := TX0) (N := 7) hx hb hts hinX0 hown hK.1 hP 12 rfl rfl 4 (by decide) (hts (.fieldLink RX4 293 "SaltShares$CommandText" "kind" "I") (List.mem_of_getElem? (i := 2) rfl)) (fun _ h9 => h9) rfl dX4_carryOut_4 ?_
  by_cases c_1 : (X 4 0) = 43
  · have hq := hq.trans (if_pos c_1)
    have c_1I : Int32.toInt (X 4 0) = 43 := (congrArg Int32.toInt c_1).trans (by decide)
    refine lv_lookup (off := 57) (tgt := 64) hx hb dX4_carryOut_7 (by decide) (by rw [c_1I]; decide) (by decide) ?_
    refine lv_aload_n hx hb dX4_carryOut_64 rfl (lv_at hl 0 rfl) ?_
    refine va_get (D := D) (ci := 4) (v := .ref (h 0)) (C := RX4) (T := TX4) (N := 4) hx hb hts hinX4 hown hK.1 hP 0 rfl rfl 0 (by decide) (hts (.fieldLink RX4 10 "SaltShares" "town" "LSaltShares$Town;") (List.mem_of_getElem? (i := 3) rfl)) (fun _ h9 => h9) rfl dX4_carryOut_65 ?_
    refine lv_aload_n hx hb dX4_carryOut_68 rfl (lv_at hl 0 rfl) ?_
    refine va_get (D := D) (ci := 4) (v := .ref (x 0)) (C := RX4) (T := TX4) (N := 4) hx hb hts hinX4 hown hK.1 hP 0 rfl rfl 3 (by decide) (hts (.fieldLink RX4 33 "SaltShares" "text" "LSaltShares$CommandText;") (List.mem_of_getElem? (i := 1) rfl)) (fun _ h9 => h9) rfl dX4_carryOut_69 ?_
    refine va_get (D := D) (ci := 0) (v := .int (X 5 0)) (C := RX0) (T := TX0) (N := 7) hx hb hts hinX0 hown hK.1 hP 12 rfl rfl 5 (by decide) (hts (.fieldLink RX4 296 "SaltShares$CommandText" "bread" "I") (List.mem_of_getElem? (i := 4) rfl)) (fun _ h9 => h9) rfl dX4_carryOut_72 ?_
    refine lv_aload_n hx hb dX4_carryOut_75 rfl (lv_at hl 0 rfl) ?_
    refine va_get (D := D) (ci := 4) (v := .ref (x 0)) (C := RX4) (T := TX4) (N := 4) hx hb hts hinX4 hown hK.1 hP 0 rfl rfl 3 (by decide) (hts (.fieldLink RX4 33 "SaltShares" "text" "LSaltShares$CommandText;") (List.mem_of_getElem? (i := 1) rfl)) (fun _ h9 => h9) rfl dX4_carryOut_76 ?_
    refine va_get (D := D) (ci := 0) (v := .int (X 6 0)) (C := RX0) (T := TX0) (N := 7) hx hb hts hinX0 hown hK.1 hP 12 rfl rfl 6 (by decide) (hts (.fieldLink RX4 299 "SaltShares$CommandText" "number" "I") (List.mem_of_getElem? (i := 5) rfl)) (fun _ h9 => h9) rfl dX4_carryOut_79 ?_
    refine zcVw (ci := 3) (n := 2) (c_X3_tryRaise l D g h T (X 5 0) (X 6 0)) hx hb hml hown hts gX4_carryOut_X3_tryRaise rfl ⟨rfl, by decide, by decide, by decide⟩ ⟨Nat.le_of_ble_eq_true rfl, Nat.le_of_ble_eq_true rfl⟩ ⟨rfl, rfl⟩ hK (zsubB (cs := [zB_X3 (g 0) h T]) hP [1] rfl (zF1 _)) (zDsubB (cs := [zB_X3 (g 0) h T]) hD [1] (by decide) rfl (zF1 _)) rfl rfl rfl hS hl.1 rfl rfl (Nat.le_of_ble_eq_true rfl) ⟨Nat.zero_le _, Nat.zero_le _⟩ dX4_carryOut_82 (fun H1 locs hP1 hk1 hS => ?_)
    obtain ⟨hP, hD⟩ := zjoinB (cs := [zB_X3 (g 0) h T]) (cs' := [zB_X3 (g 0) h ((v_X3_tryRaise T (X 5 0) (X 6 0)).2)]) hP hD [1] (by decide) rfl rfl (zF1 _) (zF1 _) hk1 hP1
    clear hP1 hk1
    have hP : va_P D vwCl (zF [zB_X4 f h u o x, zB_X3 (g 0) h ((v_X3_tryRaise T (X 5 0) (X 6 0)).2), zB_X0 (g 0) x X]) H1 := hP
    have hD : va_D (zA (zF [zB_X4 f h u o x, zB_X3 (g 0) h T, zB_X0 (g 0) x X])) (zF [zB_X4 f h u o x, zB_X3 (g 0) h ((v_X3_tryRaise T (X 5 0) (X 6 0)).2), zB_X0 (g 0) x X]) := hD
    exact zretw_z (q' := ((v_X3_tryRaise T (X 5 0) (X 6 0)).1)) hx hb hr hlocks dX4_carryOut_85 hP hS (congrArg (fun z9 => z9.1) hq) (congrArg (fun z9 => zF [zB_X4 f h u o x, zB_X3 (g 0) h z9.2, zB_X0 (g 0) x X]) hq)
  · have hq := hq.trans (if_neg c_1)
    by_cases c_3 : (X 4 0) = 45
    · have hq := hq.trans (if_pos c_3)
      have c_3I : Int32.toInt (X 4 0) = 45 := (congrArg Int32.toInt c_3).trans (by decide)
      refine lv_lookup (off := 79) (tgt := 86) hx hb dX4_carryOut_7 (by decide) (by rw [c_3I]; decide) (by decide) ?_
      refine lv_aload_n hx hb dX4_carryOut_86 rfl (lv_at hl 0 rfl) ?_
      refine va_get (D := D) (ci := 4) (v := .ref (h 0)) (C := RX4) (T := TX4) (N := 4) hx hb hts hinX4 hown hK.1 hP 0 rfl rfl 0 (by decide) (hts (.fieldLink RX4 10 "SaltShares" "town" "LSaltShares$Town;") (List.mem_of_getElem? (i := 3) rfl)) (fun _ h9 => h9) rfl dX4_carryOut_87 ?_
      refine lv_aload_n hx hb dX4_carryOut_90 rfl (lv_at hl 0 rfl) ?_
      refine va_get (D := D) (ci := 4) (v := .ref (x 0)) (C := RX4) (T := TX4) (N := 4) hx hb hts hinX4 hown hK.1 hP 0 rfl rfl 3 (by decide) (hts (.fieldLink RX4 33 "SaltShares" "text" "LSaltShares$CommandText;") (List.mem_of_getElem? (i := 1) rfl)) (fun _ h9 => h9) rfl dX4_carryOut_91 ?_
      refine va_get (D := D) (ci := 0) (v := .int (X 5 0)) (C := RX0) (T := TX0) (N := 7) hx hb hts hinX0 hown hK.1 hP 12 rfl rfl 5 (by decide) (hts (.fieldLink RX4 296 "SaltShares$CommandText" "bread" "I") (List.mem_of_getElem? (i := 4) rfl)) (fun _ h9 => h9) rfl dX4_carryOut_94 ?_
      refine lv_aload_n hx hb dX4_carryOut_97 rfl (lv_at hl 0 rfl) ?_
      refine va_get (D := D) (ci := 4) (v := .ref (x 0)) (C := RX4) (T := TX4) (N := 4) hx hb hts hinX4 hown hK.1 hP 0 rfl rfl 3 (by decide) (hts (.fieldLink RX4 33 "SaltShares" "text" "LSaltShares$CommandText;") (List.mem_of_getElem? (i := 1) rfl)) (fun _ h9 => h9) rfl dX4_carryOut_98 ?_
      refine va_get (D := D) (ci := 0) (v := .int (X 6 0)) (C := RX0) (T := TX0) (N := 7) hx hb hts hinX0 hown hK.1 hP 12 rfl rfl 6 (by decide) (hts (.fieldLink RX4 299 "SaltShares$CommandText" "number" "I") (List.mem_of_getElem? (i := 5) rfl)) (fun _ h9 => h9) rfl dX4_carryOut_101 ?_
      refine zcVw (ci := 3) (n := 2) (c_X3_tryLower l D g h T (X 5 0) (X 6 0)) hx hb hml hown hts gX4_carryOut_X3_tryLower rfl ⟨rfl, by decide, by decide, by decide⟩ ⟨Nat.le_of_ble_eq_true rfl, Nat.le_of_ble_eq_true rfl⟩ ⟨rfl, rfl⟩ hK (zsubB (cs := [zB_X3 (g 0) h T]) hP [1] rfl (zF1 _)) (zDsubB (cs := [zB_X3 (g 0) h T]) hD [1] (by decide) rfl (zF1 _)) rfl rfl rfl hS hl.1 rfl rfl (Nat.le_of_ble_eq_true rfl) ⟨Nat.zero_le _, Nat.zero_le _⟩ dX4_carryOut_104 (fun H1 locs hP1 hk1 hS => ?_)
      obtain ⟨hP, hD⟩ := zjoinB (cs := [zB_X3 (g 0) h T]) (cs' := [zB_X3 (g 0) h ((v_X3_tryLower T (X 5 0) (X 6 0)).2)]) hP hD [1] (by decide) rfl rfl (zF1 _) (zF1 _) hk1 hP1
      clear hP1 hk1
      have hP : va_P D vwCl (zF [zB_X4 f h u o x, zB_X3 (g 0) h ((v_X3_tryLower T (X 5 0) (X 6 0)).2), zB_X0 (g 0) x X]) H1 := hP
      have hD : va_D (zA (zF [zB_X4 f h u o x, zB_X3 (g 0) h T, zB_X0 (g 0) x X])) (zF [zB_X4 f h u o x, zB_X3 (g 0) h ((v_X3_tryLower T (X 5 0) (X 6 0)).2), zB_X0 (g 0) x X]) := hD
      exact zretw_z (q' := ((v_X3_tryLower T (X 5 0) (X 6 0)).1)) hx hb hr hlocks dX4_carryOut_107 hP hS (congrArg (fun z9 => z9.1) hq) (congrArg (fun z9 => zF [zB_X4 f h u o x, zB_X3 (g 0) h z9.2, zB_X0 (g 0) x X]) hq)
    · have hq := hq.trans (if_neg c_3)
      by_cases c_5 : (X 4 0) = 100
      · have hq := hq.trans (if_pos c_5)
        have c_5I : Int32.toInt (X 4 0) = 100 := (congrArg Int32.toInt c_5).trans (by decide)
        refine lv_lookup (off := 162) (tgt := 169) hx hb dX4_carryOut_7 (by decide) (by rw [c_5I]; decide) (by decide) ?_
        refine lv_aload_n hx hb dX4_carryOut_169 rfl (lv_at hl 0 rfl) ?_
        refine va_get (D := D) (ci := 4) (v := .ref (h 0)) (C := RX4) (T := TX4) (N := 4) hx hb hts hinX4 hown hK.1 hP 0 rfl rfl 0 (by decide) (hts (.fieldLink RX4 10 "SaltShares" "town" "LSaltShares$Town;") (List.mem_of_getElem? (i := 3) rfl)) (fun _ h9 => h9) rfl dX4_carryOut_170 ?_
        refine lv_aload_n hx hb dX4_carryOut_173 rfl (lv_at hl 0 rfl) ?_
        refine va_get (D := D) (ci := 4) (v := .ref (x 0)) (C := RX4) (T := TX4) (N := 4) hx hb hts hinX4 hown hK.1 hP 0 rfl rfl 3 (by decide) (hts (.fieldLink RX4 33 "SaltShares" "text" "LSaltShares$CommandText;") (List.mem_of_getElem? (i := 1) rfl)) (fun _ h9 => h9) rfl dX4_carryOut_174 ?_
        refine va_get (D := D) (ci := 0) (v := .int (X 6 0)) (C := RX0) (T := TX0) (N := 7) hx hb hts hinX0 hown hK.1 hP 12 rfl rfl 6 (by decide) (hts (.fieldLink RX4 299 "SaltShares$CommandText" "number" "I") (List.mem_of_getElem? (i := 5) rfl)) (fun _ h9 => h9) rfl dX4_carryOut_177 ?_
        refine zcVw (ci := 3) (n := 1) (c_X3_letPass l D g h T (X 6 0)) hx hb hml hown hts gX4_carryOut_X3_letPass rfl ⟨rfl, by decide, by decide, by decide⟩ ⟨Nat.le_of_ble_eq_true rfl, Nat.le_of_ble_eq_true rfl⟩ ⟨rfl, rfl⟩ hK (zsubB (cs := [zB_X3 (g 0) h T]) hP [1] rfl (zF1 _)) (zDsubB (cs := [zB_X3 (g 0) h T]) hD [1] (by decide) rfl (zF1 _)) rfl rfl rfl hS hl.1 rfl rfl (Nat.le_of_ble_eq_true rfl) ⟨Nat.zero_le _, Nat.zero_le _⟩ dX4_carryOut_180 (fun H1 locs hP1 hk1 hS => ?_)
        obtain ⟨hP, hD⟩ := zjoinB (cs := [zB_X3 (g 0) h T]) (cs' := [zB_X3 (g 0) h (v_X3_letPass T (X 6 0))]) hP hD [1] (by decide) rfl rfl (zF1 _) (zF1 _) hk1 hP1
        clear hP1 hk1
        have hP : va_P D vwCl (zF [zB_X4 f h u o x, zB_X3 (g 0) h (v_X3_letPass T (X 6 0)), zB_X0 (g 0) x X]) H1 := hP
        have hD : va_D (zA (zF [zB_X4 f h u o x, zB_X3 (g 0) h T, zB_X0 (g 0) x X])) (zF [zB_X4 f h u o x, zB_X3 (g 0) h (v_X3_letPass T (X 6 0)), zB_X0 (g 0) x X]) := hD
        refine lv_iconst (v := 1) hx hb dX4_carryOut_183 (by decide) ?_
        exact zretw_z (q' := true) hx hb hr hlocks dX4_carryOut_184 hP hS (congrArg (fun z9 => z9.1) hq) (congrArg (fun z9 => zF [zB_X4 f h u o x, zB_X3 (g 0) h z9.2, zB_X0 (g 0) x X]) hq)
      · have hq := hq.trans (if_neg c_5)
        by_cases c_7 : (X 4 0) = 105
        · have hq := hq.trans (if_pos c_7)
          have c_7I : Int32.toInt (X 4 0) = 105 := (congrArg Int32.toInt c_7).trans (by decide)
          refine lv_lookup (off := 101) (tgt := 108) hx hb dX4_carryOut_7 (by decide) (by rw [c_7I]; decide) (by decide) ?_
          refine lv_aload_n hx hb dX4_carryOut_108 rfl (lv_at hl 0 rfl) ?_
          refine va_get (D := D) (ci := 4) (v := .ref (h 0)) (C := RX4) (T := TX4) (N := 4) hx hb hts hinX4 hown hK.1 hP 0 rfl rfl 0 (by decide) (hts (.fieldLink RX4 10 "SaltShares" "town" "LSaltShares$Town;") (List.mem_of_getElem? (i := 3) rfl)) (fun _ h9 => h9) rfl dX4_carryOut_109 ?_
          refine lv_aload_n hx hb dX4_carryOut_112 rfl (lv_at hl 0 rfl) ?_
          refine va_get (D := D) (ci := 4) (v := .ref (x 0)) (C := RX4) (T := TX4) (N := 4) hx hb hts hinX4 hown hK.1 hP 0 rfl rfl 3 (by decide) (hts (.fieldLink RX4 33 "SaltShares" "text" "LSaltShares$CommandText;") (List.mem_of_getElem? (i := 1) rfl)) (fun _ h9 => h9) rfl dX4_carryOut_113 ?_
          refine va_get (D := D) (ci := 0) (v := .int (X 6 0)) (C := RX0) (T := TX0) (N := 7) hx hb hts hinX0 hown hK.1 hP 12 rfl rfl 6 (by decide) (hts (.fieldLink RX4 299 "SaltShares$CommandText" "number" "I") (List.mem_of_getElem? (i := 5) rfl)) (fun _ h9 => h9) rfl dX4_carryOut_116 ?_
          refine lv_aload_n hx hb dX4_carryOut_119 rfl (lv_at hl 0 rfl) ?_
          refine va_get (D := D) (ci := 4) (v := .ref (x 0)) (C := RX4) (T := TX4) (N := 4) hx hb hts hinX4 hown hK.1 hP 0 rfl rfl 3 (by decide) (hts (.fieldLink RX4 33 "SaltShares" "text" "LSaltShares$CommandText;") (List.mem_of_getElem? (i := 1) rfl)) (fun _ h9 => h9) rfl dX4_carryOut_120 ?_
          refine va_get (D := D) (ci := 0) (v := .int (X 5 0)) (C := RX0) (T := TX0) (N := 7) hx hb hts hinX0 hown hK.1 hP 12 rfl rfl 5 (by decide) (hts (.fieldLink RX4 296 "SaltShares$CommandText" "bread" "I") (List.mem_of_getElem? (i := 4) rfl)) (fun _ h9 => h9) rfl dX4_carryOut_123 ?_
          refine lv_iconst (v := 1) hx hb dX4_carryOut_126 (by decide) ?_
          refine zcVw (ci := 3) (n := 3) (c_X3_tryHold l D g h T (X 6 0) (X 5 0) true) hx hb hml hown hts gX4_carryOut_X3_tryHold rfl ⟨rfl, by decide, by decide, by decide⟩ ⟨Nat.le_of_ble_eq_true rfl, Nat.le_of_ble_eq_true rfl⟩ ⟨rfl, rfl⟩ hK (zsubB (cs := [zB_X3 (g 0) h T]) hP [1] rfl (zF1 _)) (zDsubB (cs := [zB_X3 (g 0) h T]) hD [1] (by decide) rfl (zF1 _)) rfl rfl rfl hS hl.1 rfl rfl (Nat.le_of_ble_eq_true rfl) ⟨Nat.zero_le _, Nat.zero_le _⟩ dX4_carryOut_127 (fun H1 locs hP1 hk1 hS => ?_)
          obtain ⟨hP, hD⟩ := zjoinB (cs := [zB_X3 (g 0) h T]) (cs' := [zB_X3 (g 0) h ((v_X3_tryHold T (X 6 0) (X 5 0) true).2)]) hP hD [1] (by decide) rfl rfl (zF1 _) (zF1 _) hk1 hP1
          clear hP1 hk1
          have hP : va_P D vwCl (zF [zB_X4 f h u o x, zB_X3 (g 0) h ((v_X3_tryHold T (X 6 0) (X 5 0) true).2), zB_X0 (g 0) x X]) H1 := hP
          have hD : va_D (zA (zF [zB_X4 f h u o x, zB_X3 (g 0) h T, zB_X0 (g 0) x X])) (zF [zB_X4 f h u o x, zB_X3 (g 0) h ((v_X3_tryHold T (X 6 0) (X 5 0) true).2), zB_X0 (g 0) x X]) := hD
          exact zretw_z (q' := ((v_X3_tryHold T (X 6 0) (X 5 0) true).1)) hx hb hr hlocks dX4_carryOut_130 hP hS (congrArg (fun z9 => z9.1) hq) (congrArg (fun z9 => zF [zB_X4 f h u o x, zB_X3 (g 0) h z9.2, zB_X0 (g 0) x X]) hq)
        · have hq := hq.trans (if_neg c_7)
          by_cases c_9 : (X 4 0) = 111
          · have hq := hq.trans (if_pos c_9)
            have c_9I : Int32.toInt (X 4 0) = 111 := (congrArg Int32.toInt c_9).trans (by decide)
            refine lv_lookup (off := 124) (tgt := 131) hx hb dX4_carryOut_7 (by decide) (by rw [c_9I]; decide) (by decide) ?_
            refine lv_aload_n hx hb dX4_carryOut_131 rfl (lv_at hl 0 rfl) ?_
            refine va_get (D := D) (ci := 4) (v := .ref (h 0)) (C := RX4) (T := TX4) (N := 4) hx hb hts hinX4 hown hK.1 hP 0 rfl rfl 0 (by decide) (hts (.fieldLink RX4 10 "SaltShares" "town" "LSaltShares$Town;") (List.mem_of_getElem? (i := 3) rfl)) (fun _ h9 => h9) rfl dX4_carryOut_132 ?_
            refine lv_aload_n hx hb dX4_carryOut_135 rfl (lv_at hl 0 rfl) ?_
            refine va_get (D := D) (ci := 4) (v := .ref (x 0)) (C := RX4) (T := TX4) (N := 4) hx hb hts hinX4 hown hK.1 hP 0 rfl rfl 3 (by decide) (hts (.fieldLink RX4 33 "SaltShares" "text" "LSaltShares$CommandText;") (List.mem_of_getElem? (i := 1) rfl)) (fun _ h9 => h9) rfl dX4_carryOut_136 ?_
            refine va_get (D := D) (ci := 0) (v := .int (X 6 0)) (C := RX0) (T := TX0) (N := 7) hx hb hts hinX0 hown hK.1 hP 12 rfl rfl 6 (by decide) (hts (.fieldLink RX4 299 "SaltShares$CommandText" "number" "I") (List.mem_of_getElem? (i := 5) rfl)) (fun _ h9 => h9) rfl dX4_carryOut_139 ?_
            refine lv_aload_n hx hb dX4_carryOut_142 rfl (lv_at hl 0 rfl) ?_
            refine va_get (D := D) (ci := 4) (v := .ref (x 0)) (C := RX4) (T := TX4) (N := 4) hx hb hts hinX4 hown hK.1 hP 0 rfl rfl 3 (by decide) (hts (.fieldLink RX4 33 "SaltShares" "text" "LSaltShares$CommandText;") (List.mem_of_getElem? (i := 1) rfl)) (fun _ h9 => h9) rfl dX4_carryOut_143 ?_
            refine va_get (D := D) (ci := 0) (v := .int (X 5 0)) (C := RX0) (T := TX0) (N := 7) hx hb hts hinX0 hown hK.1 hP 12 rfl rfl 5 (by decide) (hts (.fieldLink RX4 296 "SaltShares$CommandText" "bread" "I") (List.mem_of_getElem? (i := 4) rfl)) (fun _ h9 => h9) rfl dX4_carryOut_146 ?_
            refine lv_iconst (v := 0) hx hb dX4_carryOut_149 (by decide) ?_
            refine zcVw (ci := 3) (n := 3) (c_X3_tryHold l D g h T (X 6 0) (X 5 0) false) hx hb hml hown hts gX4_carryOut_X3_tryHold rfl ⟨rfl, by decide, by decide, by decide⟩ ⟨Nat.le_of_ble_eq_true rfl, Nat.le_of_ble_eq_true rfl⟩ ⟨rfl, rfl⟩ hK (zsubB (cs := [zB_X3 (g 0) h T]) hP [1] rfl (zF1 _)) (zDsubB (cs := [zB_X3 (g 0) h T]) hD [1] (by decide) rfl (zF1 _)) rfl rfl rfl hS hl.1 rfl rfl (Nat.le_of_ble_eq_true rfl) ⟨Nat.zero_le _, Nat.zero_le _⟩ dX4_carryOut_150 (fun H1 locs hP1 hk1 hS => ?_)
            obtain ⟨hP, hD⟩ := zjoinB (cs := [zB_X3 (g 0) h T]) (cs' := [zB_X3 (g 0) h ((v_X3_tryHold T (X 6 0) (X 5 0) false).2)]) hP hD [1] (by decide) rfl rfl (zF1 _) (zF1 _) hk1 hP1
            clear hP1 hk1
            have hP : va_P D vwCl (zF [zB_X4 f h u o x, zB_X3 (g 0) h ((v_X3_tryHold T (X 6 0) (X 5 0) false).2), zB_X0 (g 0) x X]) H1 := hP
            have hD : va_D (zA (zF [zB_X4 f h u o x, zB_X3 (g 0) h T, zB_X0 (g 0) x X])) (zF [zB_X4 f h u o x, zB_X3 (g 0) h ((v_X3_tryHold T (X 6 0) (X 5 0) false).2), zB_X0 (g 0) x X]) := hD
            exact zretw_z (q' := ((v_X3_tryHold T (X 6 0) (X 5 0) false).1)) hx hb hr hlocks dX4_carryOut_153 hP hS (congrArg (fun z9 => z9.1) hq) (congrArg (fun z9 => zF [zB_X4 f h u o x, zB_X3 (g 0) h z9.2, zB_X0 (g 0) x X]) hq)
          · have hq := hq.trans (if_neg c_9)
            by_cases c_11 : (X 4 0) = 120
            · have hq := hq.trans (if_pos c_11)
              have c_11I : Int32.toInt (X 4 0) = 120 := (congrArg Int32.toInt c_11).trans (by decide)
              refine lv_lookup (off := 147) (tgt := 154) hx hb dX4_carryOut_7 (by decide) (by rw [c_11I]; decide) (by decide) ?_
              refine lv_aload_n hx hb dX4_carryOut_154 rfl (lv_at hl 0 rfl) ?_
              refine va_get (D := D) (ci := 4) (v := .ref (h 0)) (C := RX4) (T := TX4) (N := 4) hx hb hts hinX4 hown hK.1 hP 0 rfl rfl 0 (by decide) (hts (.fieldLink RX4 10 "SaltShares" "town" "LSaltShares$Town;") (List.mem_of_getElem? (i := 3) rfl)) (fun _ h9 => h9) rfl dX4_carryOut_155 ?_
              refine lv_aload_n hx hb dX4_carryOut_158 rfl (lv_at hl 0 rfl) ?_
              refine va_get (D := D) (ci := 4) (v := .ref (x 0)) (C := RX4) (T := TX4) (N := 4) hx hb hts hinX4 hown hK.1 hP 0 rfl rfl 3 (by decide) (hts (.fieldLink RX4 33 "SaltShares" "text" "LSaltShares$CommandText;") (List.mem_of_getElem? (i := 1) rfl)) (fun _ h9 => h9) rfl dX4_carryOut_159 ?_
              refine va_get (D := D) (ci := 0) (v := .int (X 5 0)) (C := RX0) (T := TX0) (N := 7) hx hb hts hinX0 hown hK.1 hP 12 rfl rfl 5 (by decide) (hts (.fieldLink RX4 296 "SaltShares$CommandText" "bread" "I") (List.mem_of_getElem? (i := 4) rfl)) (fun _ h9 => h9) rfl dX4_carryOut_162 ?_
              refine zcVw (ci := 3) (n := 1) (c_X3_tryClose l D g h T (X 5 0)) hx hb hml hown hts gX4_carryOut_X3_tryClose rfl ⟨rfl, by decide, by decide, by decide⟩ ⟨Nat.le_of_ble_eq_true rfl, Nat.le_of_ble_eq_true rfl⟩ ⟨rfl, rfl⟩ hK (zsubB (cs := [zB_X3 (g 0) h T]) hP [1] rfl (zF1 _)) (zDsubB (cs := [zB_X3 (g 0) h T]) hD [1] (by decide) rfl (zF1 _)) rfl rfl rfl hS hl.1 rfl rfl (Nat.le_of_ble_eq_true rfl) ⟨Nat.zero_le _, Nat.zero_le _⟩ dX4_carryOut_165 (fun H1 locs hP1 hk1 hS => ?_)
              obtain ⟨hP, hD⟩ := zjoinB (cs := [zB_X3 (g 0) h T]) (cs' := [zB_X3 (g 0) h ((v_X3_tryClose T (X 5 0)).2)]) hP hD [1] (by decide) rfl rfl (zF1 _) (zF1 _) hk1 hP1
              clear hP1 hk1
              have hP : va_P D vwCl (zF [zB_X4 f h u o x, zB_X3 (g 0) h ((v_X3_tryClose T (X 5 0)).2), zB_X0 (g 0) x X]) H1 := hP
              have hD : va_D (zA (zF [zB_X4 f h u o x, zB_X3 (g 0) h T, zB_X0 (g 0) x X])) (zF [zB_X4 f h u o x, zB_X3 (g 0) h ((v_X3_tryClose T (X 5 0)).2), zB_X0 (g 0) x X]) := hD
              exact zretw_z (q' := ((v_X3_tryClose T (X 5 0)).1)) hx hb hr hlocks dX4_carryOut_168 hP hS (congrArg (fun z9 => z9.1) hq) (congrArg (fun z9 => zF [zB_X4 f h u o x, zB_X3 (g 0) h z9.2, zB_X0 (g 0) x X]) hq)
            · have hq := hq.trans (if_neg c_11)
              have c_1N : ¬ Int32.toInt (X 4 0) = 43 := lv_neT c_1 (by decide)
              have c_3N : ¬ Int32.toInt (X 4 0) = 45 := lv_neT c_3 (by decide)
              have c_5N : ¬ Int32.toInt (X 4 0) = 100 := lv_neT c_5 (by decide)
              have c_7N : ¬ Int32.toInt (X 4 0) = 105 := lv_neT c_7 (by decide)
              have c_9N : ¬ Int32.toInt (X 4 0) = 111 := lv_neT c_9 (by decide)
              have c_11N : ¬ Int32.toInt (X 4 0) = 120 := lv_neT c_11 (by decide)
              refine lv_lookup (off := 178) (tgt := 185) hx hb dX4_carryOut_7 (by decide) (by simp only [Op.lookupswitch.offset]; (repeat rw [if_neg (by omega)])) (by decide) ?_
              refine lv_iconst (v := 0) hx hb dX4_carryOut_185 (by decide) ?_
              exact zretw_z (q' := false) hx hb hr hlocks dX4_carryOut_186 hP hS (congrArg (fun z9 => z9.1) hq) (congrArg (fun z9 => zF [zB_X4 f h u o x, zB_X3 (g 0) h z9.2, zB_X0 (g 0) x X]) hq)
def v_X4_clearBuffer (X : Nat → Nat → Int32) : Int32 × (Nat → Nat → Int32) := ((X 1 0), zU X 1 (fun _ => 0))
set_option maxHeartbeats 400000 in
set_option maxRecDepth 100000 in
theorem c_X4_clearBuffer (l : Launch) (D : va_G) (g : Nat → ClassId) (f : Nat → Nat) (h : Nat → Nat) (u : Nat → Nat) (o : Nat → Nat) (x : Nat → Nat) (X : Nat → Nat → Int32) : Wr l D (zT g) yX4_clearBuffer wsX4_clearBuffer (rmOf 0 0) [.ref (f 0)] ((zB_X4 f h u o x) ++ (zB_X0 (g 0) x X)) (some (.int ((v_X4_clearBuffer X).1))) ((zB_X4 f h u o x) ++ (zB_X0 (g 0) x ((v_X4_clearBuffer X).2))) := by
  refine Wr.of (cc := cX4_clearBuffer) (maxL := 2) (ret := (some .int)) (by decide) rfl (Nat.le_of_ble_eq_true rfl) ?_
  intro p e s m below meth c ls hx hb hr hml hown hts hlocks hP hD hS hK hl
  have hown : s.vm.findClass RX4 = some m.cls := hown
  have hinX0 : ∀ w ∈ u_ws RX0 TX0 7, w ∈ wsX4_clearBuffer := fun _ h9 => (List.mem_cons_of_mem _ (List.mem_append_right _ h9))
  have hinX4 : ∀ w ∈ u_ws RX4 TX4 4, w ∈ wsX4_clearBuffer := fun _ h9 => (List.mem_cons_of_mem _ (List.mem_append_left _ (List.mem_append_right _ h9)))
  obtain ⟨q, hq⟩ : ∃ q : Int32 × (Nat → Nat → Int32), q = v_X4_clearBuffer X := ⟨_, rfl⟩
  rw [← hq]
  unfold v_X4_clearBuffer at hq
  have hl : lv_has ls 2 [(0, .ref (f 0))] := hl
  refine lv_aload_n hx hb dX4_clearBuffer_0 rfl (lv_at hl 0 rfl) ?_
  refine va_get (D := D) (ci := 4) (v := .ref (x 0)) (C := RX4) (T := TX4) (N := 4) hx hb hts hinX4 hown hK.1 hP 0 rfl rfl 3 (by decide) (hts (.fieldLink RX4 33 "SaltShares" "text" "LSaltShares$CommandText;") (List.mem_of_getElem? (i := 1) rfl)) (fun _ h9 => h9) rfl dX4_clearBuffer_1 ?_
  refine va_get (D := D) (ci := 0) (v := .int (X 1 0)) (C := RX0) (T := TX0) (N := 7) hx hb hts hinX0 hown hK.1 hP 1 rfl rfl 1 (by decide) (hts (.fieldLink RX4 166 "SaltShares$CommandText" "length" "I") (List.mem_of_getElem? (i := 2) rfl)) (fun _ h9 => h9) rfl dX4_clearBuffer_4 ?_
  refine lv_istore_n (lv' := [(1, .int (X 1 0)), (0, .ref (f 0))]) hx hb dX4_clearBuffer_7 rfl hl (by decide) rfl (fun ls hl => ?_)
  refine lv_aload_n hx hb dX4_clearBuffer_8 rfl (lv_at hl 1 rfl) ?_
  refine va_get (D := D) (ci := 4) (v := .ref (x 0)) (C := RX4) (T := TX4) (N := 4) hx hb hts hinX4 hown hK.1 hP 0 rfl rfl 3 (by decide) (hts (.fieldLink RX4 33 "SaltShares" "text" "LSaltShares$CommandText;") (List.mem_of_getElem? (i := 1) rfl)) (fun _ h9 => h9) rfl dX4_clearBuffer_9 ?_
  refine lv_iconst (v := 0) hx hb dX4_clearBuffer_12 (by decide) ?_
  refine va_put (D := D) (ci := 0) (v := .int 0) (ty := .int) (C := RX0) (T := TX0) (N := 7) hx hb hts hinX0 tyX0 tyX0_ok nmX0 hown hK.1 hP hD hS 1 rfl rfl 1 (by decide) (hts (.fieldLink RX4 166 "SaltShares$CommandText" "length" "I") (List.mem_of_getElem? (i := 2) rfl)) (fun _ h9 => h9) rfl (by decide +kernel) rfl rfl (Nat.le_of_ble_eq_true rfl) dX4_clearBuffer_13 (fun H locs hP hD hS => ?_)
  have hP : va_P D vwCl ((zB_X4 f h u o x) ++ (zB_X0 (g 0) x (zU X 1 (fun _ => 0)))) H := hP
  have hD : va_D (zA ((zB_X4 f h u o x) ++ (zB_X0 (g 0) x X))) ((zB_X4 f h u o x) ++ (zB_X0 (g 0) x (zU X 1 (fun _ => 0)))) := hD
  refine lv_iload_n hx hb dX4_clearBuffer_16 rfl (lv_at hl 0 rfl) ?_
  exact zretw_i hx hb hr hlocks dX4_clearBuffer_17 hP hS (congrArg (fun z9 => z9.1) hq) (congrArg (fun z9 => (zB_X4 f h u o x) ++ (zB_X0 (g 0) x z9.2)) hq)
def v_X4_firstError (X : Nat → Nat → Int32) : Int32 × (Nat → Nat → Int32) := (((v_X0_errorIndex X).1), (v_X0_errorIndex X).2)
set_option maxHeartbeats 400000 in
set_option maxRecDepth 100000 in
theorem c_X4_firstError (l : Launch) (D : va_G) (g : Nat → ClassId) (f : Nat → Nat) (h : Nat → Nat) (u : Nat → Nat) (o : Nat → Nat) (x : Nat → Nat) (X : Nat → Nat → Int32) : Wr l D (zT g) yX4_firstError wsX4_firstError (rmOf 5 104) [.ref (f 0)] ((zB_X4 f h u o x) ++ (zB_X0 (g 0) x X)) (some (.int ((v_X4_firstError X).1))) ((zB_X4 f h u o x) ++ (zB_X0 (g 0) x ((v_X4_firstError X).2))) := by
  refine Wr.of (cc := cX4_firstError) (maxL := 1) (ret := (some .int)) (by decide) rfl (Nat.le_of_ble_eq_true rfl) ?_
  intro p e s m below meth c ls hx hb hr hml hown hts hlocks hP hD hS hK hl
  have hown : s.vm.findClass RX4 = some m.cls := hown
  have hinX4 : ∀ w ∈ u_ws RX4 TX4 4, w ∈ wsX4_firstError := fun _ h9 => (List.mem_cons_of_mem _ (List.mem_append_left _ (List.mem_append_right _ h9)))
  obtain ⟨q, hq⟩ : ∃ q : Int32 × (Nat → Nat → Int32), q = v_X4_firstError X := ⟨_, rfl⟩
  rw [← hq]
  unfold v_X4_firstError at hq
  have hl : lv_has ls 1 [(0, .ref (f 0))] := hl
  refine lv_aload_n hx hb dX4_firstError_0 rfl (lv_at hl 0 rfl) ?_
  refine va_get (D := D) (ci := 4) (v := .ref (x 0)) (C := RX4) (T := TX4) (N := 4) hx hb hts hinX4 hown hK.1 hP 0 rfl rfl 3 (by decide) (hts (.fieldLink RX4 33 "SaltShares" "text" "LSaltShares$CommandText;") (List.mem_of_getElem? (i := 1) rfl)) (fun _ h9 => h9) rfl dX4_firstError_1 ?_
  refine zcVw (ci := 0) (n := 0) (c_X0_errorIndex l D g x X) hx hb hml hown hts gX4_firstError_X0_errorIndex rfl ⟨rfl, by decide, by decide, by decide⟩ ⟨Nat.le_of_ble_eq_true rfl, Nat.le_of_ble_eq_true rfl⟩ ⟨rfl, rfl⟩ hK (hP.sub [1, 2] rfl) (hD.sub [1, 2] (by decide) rfl) rfl rfl rfl hS hl.1 rfl rfl (Nat.le_of_ble_eq_true rfl) ⟨Nat.zero_le _, Nat.zero_le _⟩ dX4_firstError_4 (fun H1 locs hP1 hk1 hS => ?_)
  obtain ⟨hP, hD⟩ := zjoin (wc := zB_X0 (g 0) x X) (wc' := zB_X0 (g 0) x ((v_X0_errorIndex X).2)) hP hD [1, 2] rfl rfl hk1 hP1
  clear hP1 hk1
  have hP : va_P D vwCl ((zB_X4 f h u o x) ++ (zB_X0 (g 0) x ((v_X0_errorIndex X).2))) H1 := hP
  have hD : va_D (zA ((zB_X4 f h u o x) ++ (zB_X0 (g 0) x X))) ((zB_X4 f h u o x) ++ (zB_X0 (g 0) x ((v_X0_errorIndex X).2))) := hD
  exact zretw_i hx hb hr hlocks dX4_firstError_7 hP hS (congrArg (fun z9 => z9.1) hq) (congrArg (fun z9 => (zB_X4 f h u o x) ++ (zB_X0 (g 0) x z9.2)) hq)
theorem zrst (X : Nat → Nat → Int32) : vp_in ((v_X0_restart X) 2 0) 61 := by
  unfold v_X0_restart
  rw [zU_n _ _ (by decide), zU_s]
  exact vp_in_nI (n := 0) (by decide) (by decide)
theorem zrd_19 : ∀ (n : Nat) (w : Bool) (X : Nat → Nat → Int32), vp_in (X 2 0) 61 → 60 - Int32.toNatClampNeg (X 2 0) < n → vp_in ((v_X0_readCommand_19 n w X).2 2 0) 61 := by
  intro n
  induction n with
  | zero => intro w X h hn; exact absurd hn (Nat.not_lt_zero _)
  | succ n ih =>
    intro w X h hn
    rw [v_X0_readCommand_19]
    by_cases c1 : w = true
    · rw [if_pos c1]
      by_cases c2 : X 1 0 ≤ X 2 0
      · rw [if_pos c2]; exact h
      · rw [if_neg c2]
        by_cases c3 : 60 ≤ X 2 0
        · rw [if_pos c3]; exact h
        · rw [if_neg c3]
          have a1 := fun w => ih w _ (ztk_in (a := X 0 (Int32.toNatClampNeg (X 2 0))) h c3) (ztk_ms h c3 hn)
          repeat' split
          all_goals exact a1 _
    · rw [if_neg c1]; exact h
theorem zrd_19b : ∀ (n : Nat) (w : Bool) (X : Nat → Nat → Int32), vp_in (X 2 0) 61 → 60 - Int32.toNatClampNeg (X 2 0) < n → vp_in ((v_X0_readCommand_19b n w X).2 2 0) 61 := by
  intro n
  induction n with
  | zero => intro w X h hn; exact absurd hn (Nat.not_lt_zero _)
  | succ n ih =>
    intro w X h hn
    rw [v_X0_readCommand_19b]
    by_cases c1 : w = true
    · rw [if_pos c1]
      by_cases c2 : X 1 0 ≤ X 2 0
      · rw [if_pos c2]; exact h
      · rw [if_neg c2]
        by_cases c3 : 60 ≤ X 2 0
        · rw [if_pos c3]; exact h
        · rw [if_neg c3]
          have a1 := fun w => ih w _ (ztk_in (a := X 0 (Int32.toNatClampNeg (X 2 0))) h c3) (ztk_ms h c3 hn)
          repeat' split
          all_goals exact a1 _
    · rw [if_neg c1]; exact h
theorem zrd_in {X : Nat → Nat → Int32} (h : vp_in (X 2 0) 61) : vp_in ((v_X0_readCommand X).2 2 0) 61 := by
  unfold v_X0_readCommand
  split
  · exact zrd_19 61 _ X h (by omega)
  · exact zrd_19b 61 _ X h (by omega)
theorem zeat_5 (T : Nat → Nat → Int32) (b : Nat) (sal : Int32) : ∀ (n many i : Nat), 150 - i < n → v_X3_eatersBy_5 T b sal n many i ≤ many + (150 - i) := by
  intro n
  induction n with
  | zero => intro many i h; exact absurd h (Nat.not_lt_zero _)
  | succ n ih =>
    intro many i h
    rw [v_X3_eatersBy_5]
    by_cases c : 150 ≤ i
    · rw [if_pos c]; omega
    · rw [if_neg c]
      have a1 := ih many (i + 1) (by omega)
      have a2 := ih (many + 1) (i + 1) (by omega)
      split
      · exact Nat.le_trans a1 (by omega)
      · exact Nat.le_trans a2 (by omega)
theorem zeat_le (T : Nat → Nat → Int32) (b : Nat) : v_X3_eaters T b ≤ 150 := by
  unfold v_X3_eaters v_X3_eatersBy
  exact zeat_5 T b _ 151 0 0 (by omega)
def v_X4_carryOutAll_9  : Nat → Nat → (Nat → Nat → Int32) → (Nat → Nat → Int32) → Int32 × (Nat → Nat → Int32) × (Nat → Nat → Int32)
  | 0, _, _, _ => (0, (fun _ _ => 0), (fun _ _ => 0))
  | n + 1, done, T1, X1 => (if 60 ≤ done then ((nI done), T1, X1) else (if ((v_X0_readCommand X1).1) = true then (if ((v_X4_carryOut T1 ((v_X0_readCommand X1).2)).1) = true then v_X4_carryOutAll_9 n (done + 1) ((v_X4_carryOut T1 ((v_X0_readCommand X1).2)).2) ((v_X0_readCommand X1).2) else ((nI done), (v_X4_carryOut T1 ((v_X0_readCommand X1).2)).2, (v_X0_readCommand X1).2)) else ((nI done), T1, (v_X0_readCommand X1).2)))
def v_X4_carryOutAll (T : Nat → Nat → Int32) (X : Nat → Nat → Int32) : Int32 × (Nat → Nat → Int32) × (Nat → Nat → Int32) := v_X4_carryOutAll_9 61 0 T (v_X0_restart X)
set_option maxHeartbeats 400000 in
set_option maxRecDepth 100000 in
theorem c_X4_carryOutAll (l : Launch) (D : va_G) (g : Nat → ClassId) (f : Nat → Nat) (h : Nat → Nat) (u : Nat → Nat) (o : Nat → Nat) (x : Nat → Nat) (T : Nat → Nat → Int32) (X : Nat → Nat → Int32) : Wr l D (zT g) yX4_carryOutAll wsX4_carryOutAll (rmOf 5 114) [.ref (f 0)] (zF [zB_X4 f h u o x, zB_X3 (g 0) h T, zB_X0 (g 0) x X]) (some (.int ((v_X4_carryOutAll T X).1))) (zF [zB_X4 f h u o x, zB_X3 (g 0) h ((v_X4_carryOutAll T X).2.1), zB_X0 (g 0) x ((v_X4_carryOutAll T X).2.2)]) := by
  refine Wr.of (cc := cX4_carryOutAll) (maxL := 2) (ret := (some .int)) (by decide) rfl (Nat.le_of_ble_eq_true rfl) ?_
  intro p e s m below meth c ls hx hb hr hml hown hts hlocks hP hD hS hK hl
  have hown : s.vm.findClass RX4 = some m.cls := hown
  have hinX4 : ∀ w ∈ u_ws RX4 TX4 4, w ∈ wsX4_carryOutAll := fun _ h9 => (List.mem_cons_of_mem _ (List.mem_append_left _ (List.mem_append_left _ (List.mem_append_right _ h9))))
  obtain ⟨q, hq⟩ : ∃ q : Int32 × (Nat → Nat → Int32) × (Nat → Nat → Int32), q = v_X4_carryOutAll T X := ⟨_, rfl⟩
  rw [← hq]
  unfold v_X4_carryOutAll at hq
  have hl : lv_has ls 2 [(0, .ref (f 0))] := hl
  refine lv_aload_n hx hb dX4_carryOutAll_0 rfl (lv_at hl 0 rfl) ?_
  refine va_get (D := D) (ci := 4) (v := .ref (x 0)) (C := RX4) (T := TX4) (N := 4) hx hb hts hinX4 hown hK.1 hP 0 rfl rfl 3 (by decide) (hts (.fieldLink RX4 33 "SaltShares" "text" "LSaltShares$CommandText;") (List.mem_of_getElem? (i := 1) rfl)) (fun _ h9 => h9) rfl dX4_carryOutAll_1 ?_
  refine zcVw (ci := 0) (n := 0) (c_X0_restart l D g x X) hx hb hml hown hts gX4_carryOutAll_X0_restart rfl ⟨rfl, by decide, by decide, by decide⟩ ⟨Nat.le_of_ble_eq_true rfl, Nat.le_of_ble_eq_true rfl⟩ ⟨rfl, rfl⟩ hK (zsubB (cs := [zB_X0 (g 0) x X]) hP [2] rfl (zF1 _)) (zDsubB (cs := [zB_X0 (g 0) x X]) hD [2] (by decide) rfl (zF1 _)) rfl rfl rfl hS hl.1 rfl rfl (Nat.le_of_ble_eq_true rfl) ⟨Nat.zero_le _, Nat.zero_le _⟩ dX4_carryOutAll_4 (fun H1 locs hP1 hk1 hS => ?_)
  obtain ⟨hP, hD⟩ := zjoinB (cs := [zB_X0 (g 0) x X]) (cs' := [zB_X0 (g 0) x (v_X0_restart X)]) hP hD [2] (by decide) rfl rfl (zF1 _) (zF1 _) hk1 hP1
  clear hP1 hk1
  have hP : va_P D vwCl (zF [zB_X4 f h u o x, zB_X3 (g 0) h T, zB_X0 (g 0) x (v_X0_restart X)]) H1 := hP
  have hD : va_D (zA (zF [zB_X4 f h u o x, zB_X3 (g 0) h T, zB_X0 (g 0) x X])) (zF [zB_X4 f h u o x, zB_X3 (g 0) h T, zB_X0 (g 0) x (v_X0_restart X)]) := hD
  refine lv_iconst (v := 0) hx hb dX4_carryOutAll_7 (by decide) ?_
  refine lv_istore_n (lv' := [(1, .int 0), (0, .ref (f 0))]) hx hb dX4_carryOutAll_8 rfl hl (by decide) rfl (fun ls hl => ?_)
  have L9 : ∀ (n : Nat) (done : Nat) (T1 : Nat → Nat → Int32) (X1 : Nat → Nat → Int32), (done ≤ 60) → (vp_in (X1 2 0) 61) → 60 - done < n → ∀ (H : Heap) (locs : List Loc), va_P D vwCl (zF [zB_X4 f h u o x, zB_X3 (g 0) h T1, zB_X0 (g 0) x X1]) H → va_D (zA (zF [zB_X4 f h u o x, zB_X3 (g 0) h T, zB_X0 (g 0) x X])) (zF [zB_X4 f h u o x, zB_X3 (g 0) h T1, zB_X0 (g 0) x X1]) → va_S (zA (zF [zB_X4 f h u o x, zB_X3 (g 0) h T, zB_X0 (g 0) x X])) s.heap H locs → ∀ (ls : Array Slot), lv_has ls 2 [(0, .ref (f 0)), (1, .int (nI done))] → q = v_X4_carryOutAll_9 n done T1 X1 → W p l e (rmOf 5 114) s m [.ref (f 0)].toArray below meth c H locs 0 0 (MQ below (zQw D (zF [zB_X4 f h u o x, zB_X3 (g 0) h T, zB_X0 (g 0) x X]) (some (.int q.1)) (zF [zB_X4 f h u o x, zB_X3 (g 0) h q.2.1, zB_X0 (g 0) x q.2.2])) [.ref (f 0)].toArray s 0 0 (zA (zF [zB_X4 f h u o x, zB_X3 (g 0) h T, zB_X0 (g 0) x X]))) (F0 m 9 ls []) := by
    intro n
    induction n with
    | zero => intro done T1 X1 v9_0 v9_1 hn; exact absurd hn (Nat.not_lt_zero _)
    | succ n ih9 =>
      intro done T1 X1 v9_0 v9_1 hn9 H locs hP hD hS ls hl hq
      rw [v_X4_carryOutAll_9] at hq
      refine lv_iload_n hx hb dX4_carryOutAll_9 rfl (lv_at hl 1 rfl) ?_
      refine lv_bipush (v := 60) hx hb dX4_carryOutAll_10 (by decide) ?_
      refine lv_icmp_ge (tgt := 38) hx hb dX4_carryOutAll_12 (by decide) (fun c_2 => ?_) (fun c_2 => ?_)
      · have c_2 : 60 ≤ done := (nI_leI (a := 60) (b := done) (by omega) (by omega)).mp c_2
        have hq := hq.trans (if_pos c_2)
        refine lv_iload_n hx hb dX4_carryOutAll_38 rfl (lv_at hl 1 rfl) ?_
        exact zretw_i hx hb hr hlocks dX4_carryOutAll_39 hP hS (congrArg (fun z9 => z9.1) hq) (congrArg (fun z9 => zF [zB_X4 f h u o x, zB_X3 (g 0) h z9.2.1, zB_X0 (g 0) x z9.2.2]) hq)
      · have c_2 : ¬ (60 ≤ done) := fun h9 => c_2 ((nI_leI (a := 60) (b := done) (by omega) (by omega)).mpr h9)
        have hq := hq.trans (if_neg c_2)
        refine lv_aload_n hx hb dX4_carryOutAll_15 rfl (lv_at hl 0 rfl) ?_
        refine va_get (D := D) (ci := 4) (v := .ref (x 0)) (C := RX4) (T := TX4) (N := 4) hx hb hts hinX4 hown hK.1 hP 0 rfl rfl 3 (by decide) (hts (.fieldLink RX4 33 "SaltShares" "text" "LSaltShares$CommandText;") (List.mem_of_getElem? (i := 1) rfl)) (fun _ h9 => h9) rfl dX4_carryOutAll_16 ?_
        refine zcVw (ci := 0) (n := 0) (c_X0_readCommand l D g x X1 v9_1) hx hb hml hown hts gX4_carryOutAll_X0_readCommand rfl ⟨rfl, by decide, by decide, by decide⟩ ⟨Nat.le_of_ble_eq_true rfl, Nat.le_of_ble_eq_true rfl⟩ ⟨rfl, rfl⟩ hK (zsubB (cs := [zB_X0 (g 0) x X1]) hP [2] rfl (zF1 _)) (zDsubB (cs := [zB_X0 (g 0) x X1]) hD [2] (by decide) rfl (zF1 _)) rfl rfl rfl hS hl.1 rfl rfl (Nat.le_of_ble_eq_true rfl) ⟨Nat.zero_le _, Nat.zero_le _⟩ dX4_carryOutAll_19 (fun H1 locs hP1 hk1 hS => ?_)
        obtain ⟨hP, hD⟩ := zjoinB (cs := [zB_X0 (g 0) x X1]) (cs' := [zB_X0 (g 0) x ((v_X0_readCommand X1).2)]) hP hD [2] (by decide) rfl rfl (zF1 _) (zF1 _) hk1 hP1
        clear hP1 hk1
        have hP : va_P D vwCl (zF [zB_X4 f h u o x, zB_X3 (g 0) h T1, zB_X0 (g 0) x ((v_X0_readCommand X1).2)]) H1 := hP
        have hD : va_D (zA (zF [zB_X4 f h u o x, zB_X3 (g 0) h T, zB_X0 (g 0) x X])) (zF [zB_X4 f h u o x, zB_X3 (g 0) h T1, zB_X0 (g 0) x ((v_X0_readCommand X1).2)]) := hD
        refine zif_eq (tgt := 38) hx hb dX4_carryOutAll_22 (by decide) (fun c_4 => ?_) (fun c_4 => ?_)
        · have hq := hq.trans (zif_f c_4)
          refine lv_iload_n hx hb dX4_carryOutAll_38 rfl (lv_at hl 1 rfl) ?_
          exact zretw_i hx hb hr hlocks dX4_carryOutAll_39 hP hS (congrArg (fun z9 => z9.1) hq) (congrArg (fun z9 => zF [zB_X4 f h u o x, zB_X3 (g 0) h z9.2.1, zB_X0 (g 0) x z9.2.2]) hq)
        · have hq := hq.trans (zif_t c_4)
          refine lv_aload_n hx hb dX4_carryOutAll_25 rfl (lv_at hl 0 rfl) ?_
          refine zcVw (ci := 4) (n := 0) (c_X4_carryOut l D g f h u o x T1 ((v_X0_readCommand X1).2)) hx hb hml hown hts gX4_carryOutAll_X4_carryOut rfl ⟨rfl, by decide, by decide, by decide⟩ ⟨Nat.le_of_ble_eq_true rfl, Nat.le_of_ble_eq_true rfl⟩ ⟨rfl, rfl⟩ hK hP hD rfl rfl rfl hS hl.1 rfl rfl (Nat.le_of_ble_eq_true rfl) ⟨Nat.zero_le _, Nat.zero_le _⟩ dX4_carryOutAll_26 (fun H1 locs hP1 hk1 hS => ?_)
          have hD := zD_addr (ws' := zF [zB_X4 f h u o x, zB_X3 (g 0) h ((v_X4_carryOut T1 ((v_X0_readCommand X1).2)).2), zB_X0 (g 0) x ((v_X0_readCommand X1).2)]) hD rfl; have hP := hP1
          clear hP1 hk1
          have hP : va_P D vwCl (zF [zB_X4 f h u o x, zB_X3 (g 0) h ((v_X4_carryOut T1 ((v_X0_readCommand X1).2)).2), zB_X0 (g 0) x ((v_X0_readCommand X1).2)]) H1 := hP
          have hD : va_D (zA (zF [zB_X4 f h u o x, zB_X3 (g 0) h T, zB_X0 (g 0) x X])) (zF [zB_X4 f h u o x, zB_X3 (g 0) h ((v_X4_carryOut T1 ((v_X0_readCommand X1).2)).2), zB_X0 (g 0) x ((v_X0_readCommand X1).2)]) := hD
          refine zif_eq (tgt := 38) hx hb dX4_carryOutAll_29 (by decide) (fun c_6 => ?_) (fun c_6 => ?_)
          · have hq := hq.trans (zif_f c_6)
            refine lv_iload_n hx hb dX4_carryOutAll_38 rfl (lv_at hl 1 rfl) ?_
            exact zretw_i hx hb hr hlocks dX4_carryOutAll_39 hP hS (congrArg (fun z9 => z9.1) hq) (congrArg (fun z9 => zF [zB_X4 f h u o x, zB_X3 (g 0) h z9.2.1, zB_X0 (g 0) x z9.2.2]) hq)
          · have hq := hq.trans (zif_t c_6)
            refine lv_iinc (v := (nI (done + 1))) (lv' := [(1, .int (nI (done + 1))), (0, .ref (f 0))]) hx hb dX4_carryOutAll_32 hl (k := 1) rfl (nI_add _ 1) (by decide) rfl (fun ls hl => ?_)
            refine lv_goto (tgt := 9) hx hb dX4_carryOutAll_35 (by decide) ?_
            exact ih9 (done + 1) ((v_X4_carryOut T1 ((v_X0_readCommand X1).2)).2) ((v_X0_readCommand X1).2) (by omega) (zrd_in v9_1) (by omega) _ _ hP hD hS ls (lv_sub hl [1, 0] rfl) hq
  exact L9 61 0 T (v_X0_restart X) (by omega) (zrst _) (by omega) _ _ hP hD hS ls (lv_sub hl [1, 0] rfl) hq
