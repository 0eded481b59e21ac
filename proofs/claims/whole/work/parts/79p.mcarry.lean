def v_X5_carries (M : Nat → Nat → Int32) (p1 : Nat) : Bool × (Nat → Nat → Int32) := (if (M 7 (3 * p1)) = 100 then (true, (v_X5_passes M (Int32.toNatClampNeg (M 7 (3 * p1 + 2)))).2) else (if (v_X5_isBread M (M 7 (3 * p1 + 1))) = true then (if (M 7 (3 * p1)) = 43 then (if (v_X5_canRaise M (Int32.toNatClampNeg (M 7 (3 * p1 + 1))) (nI (Int32.toNatClampNeg (M 7 (3 * p1 + 2))))) = true then (if (M 7 (3 * p1)) = 120 then (true, v_X5_ends M (Int32.toNatClampNeg (M 7 (3 * p1 + 1)))) else (if (M 7 (3 * p1)) = 43 then (true, v_X5_setShare M (Int32.toNatClampNeg (M 7 (3 * p1 + 1))) (Int32.toNatClampNeg (M 7 (3 * p1 + 2)))) else (if (M 7 (3 * p1)) = 45 then (true, v_X5_setShare M (Int32.toNatClampNeg (M 7 (3 * p1 + 1))) (Int32.toNatClampNeg (M 7 (3 * p1 + 2)))) else (if (M 7 (3 * p1)) = 105 then (if (M 7 (3 * p1)) = 105 then (true, v_X5_holds M (Int32.toNatClampNeg (M 7 (3 * p1 + 2))) (Int32.toNatClampNeg (M 7 (3 * p1 + 1))) 1 0) else (true, v_X5_holds M (Int32.toNatClampNeg (M 7 (3 * p1 + 2))) (Int32.toNatClampNeg (M 7 (3 * p1 + 1))) 1 1)) else (if (M 7 (3 * p1)) = 105 then (true, v_X5_holds M (Int32.toNatClampNeg (M 7 (3 * p1 + 2))) (Int32.toNatClampNeg (M 7 (3 * p1 + 1))) 0 0) else (true, v_X5_holds M (Int32.toNatClampNeg (M 7 (3 * p1 + 2))) (Int32.toNatClampNeg (M 7 (3 * p1 + 1))) 0 1)))))) else (false, M)) else (if (M 7 (3 * p1)) = 45 then (if (v_X5_canLower M (Int32.toNatClampNeg (M 7 (3 * p1 + 1))) (nI (Int32.toNatClampNeg (M 7 (3 * p1 + 2))))) = true then (if (M 7 (3 * p1)) = 120 then (true, v_X5_ends M (Int32.toNatClampNeg (M 7 (3 * p1 + 1)))) else (if (M 7 (3 * p1)) = 43 then (true, v_X5_setShare M (Int32.toNatClampNeg (M 7 (3 * p1 + 1))) (Int32.toNatClampNeg (M 7 (3 * p1 + 2)))) else (if (M 7 (3 * p1)) = 45 then (true, v_X5_setShare M (Int32.toNatClampNeg (M 7 (3 * p1 + 1))) (Int32.toNatClampNeg (M 7 (3 * p1 + 2)))) else (if (M 7 (3 * p1)) = 105 then (if (M 7 (3 * p1)) = 105 then (true, v_X5_holds M (Int32.toNatClampNeg (M 7 (3 * p1 + 2))) (Int32.toNatClampNeg (M 7 (3 * p1 + 1))) 1 0) else (true, v_X5_holds M (Int32.toNatClampNeg (M 7 (3 * p1 + 2))) (Int32.toNatClampNeg (M 7 (3 * p1 + 1))) 1 1)) else (if (M 7 (3 * p1)) = 105 then (true, v_X5_holds M (Int32.toNatClampNeg (M 7 (3 * p1 + 2))) (Int32.toNatClampNeg (M 7 (3 * p1 + 1))) 0 0) else (true, v_X5_holds M (Int32.toNatClampNeg (M 7 (3 * p1 + 2))) (Int32.toNatClampNeg (M 7 (3 * p1 + 1))) 0 1)))))) else (false, M)) else (if (v_X5_isOpen M (Int32.toNatClampNeg (M 7 (3 * p1 + 1)))) = true then (if (M 7 (3 * p1)) = 120 then (true, v_X5_ends M (Int32.toNatClampNeg (M 7 (3 * p1 + 1)))) else (if (M 7 (3 * p1)) = 43 then (true, v_X5_setShare M (Int32.toNatClampNeg (M 7 (3 * p1 + 1))) (Int32.toNatClampNeg (M 7 (3 * p1 + 2)))) else (if (M 7 (3 * p1)) = 45 then (true, v_X5_setShare M (Int32.toNatClampNeg (M 7 (3 * p1 + 1))) (Int32.toNatClampNeg (M 7 (3 * p1 + 2)))) else (if (M 7 (3 * p1)) = 105 then (if (M 7 (3 * p1)) = 105 then (true, v_X5_holds M (Int32.toNatClampNeg (M 7 (3 * p1 + 2))) (Int32.toNatClampNeg (M 7 (3 * p1 + 1))) 1 0) else (true, v_X5_holds M (Int32.toNatClampNeg (M 7 (3 * p1 + 2))) (Int32.toNatClampNeg (M 7 (3 * p1 + 1))) 1 1)) else (if (M 7 (3 * p1)) = 105 then (true, v_X5_holds M (Int32.toNatClampNeg (M 7 (3 * p1 + 2))) (Int32.toNatClampNeg (M 7 (3 * p1 + 1))) 0 0) else (true, v_X5_holds M (Int32.toNatClampNeg (M 7 (3 * p1 + 2))) (Int32.toNatClampNeg (M 7 (3 * p1 + 1))) 0 1)))))) else (false, M)))) else (false, M)))
set_option maxHeartbeats 400000 in
set_option maxRecDepth 100000 in
theorem c_X5_carries (l : Launch) (D : va_G) (g : Nat → ClassId) (u : Nat → Nat) (M : Nat → Nat → Int32) (w : Int64) (p1 : Nat) (z0 : zI M) (z1 : p1 < 24) (z2 : M 7 (3 * p1) = 100 → vp_in (M 7 ((3 * p1) + 2)) 51) (z3 : M 7 (3 * p1) = 43 ∨ M 7 (3 * p1) = 45 → vp_in (M 7 ((3 * p1) + 2)) 101) (z4 : ¬ M 7 (3 * p1) = 100 → ¬ M 7 (3 * p1) = 43 → ¬ M 7 (3 * p1) = 45 → ¬ M 7 (3 * p1) = 120 → vp_in (M 7 ((3 * p1) + 2)) 150) : Wr l D (zT g) yX5_carries wsX5_carries (rmOf 6 136) [.ref (u 0), .int (nI p1)] (zB_X5 (g 0) u M w) (some (.int (bI ((v_X5_carries M p1).1)))) (zB_X5 (g 0) u ((v_X5_carries M p1).2) w) := by
  refine Wr.of (cc := cX5_carries) (maxL := 6) (ret := (some .boolean)) (by decide) rfl (Nat.le_of_ble_eq_true rfl) ?_
  intro p e s m below meth c ls hx hb hr hml hown hts hlocks hP hD hS hK hl
  have hown : s.vm.findClass RX5 = some m.cls := hown
  have hinX5 : ∀ w ∈ u_ws RX5 TX5 13, w ∈ wsX5_carries := fun _ h9 => (List.mem_cons_of_mem _ (List.mem_append_right _ h9))
  obtain ⟨q, hq⟩ : ∃ q : Bool × (Nat → Nat → Int32), q = v_X5_carries M p1 := ⟨_, rfl⟩
  rw [← hq]
  unfold v_X5_carries at hq
  have hl : lv_has ls 6 [(0, .ref (u 0)), (1, .int (nI p1))] := hl
  refine lv_aload_n hx hb dX5_carries_0 rfl (lv_at hl 0 rfl) ?_
  refine va_get (D := D) (ci := 5) (v := .ref (u 8)) (C := RX5) (T := TX5) (N := 13) hx hb hts hinX5 hown hK.1 hP 0 rfl rfl 7 (by decide) (hts (.fieldLink RX5 22 "SaltSharesModel" "parts" "[I") (List.mem_of_getElem? (i := 1) rfl)) (fun _ h9 => h9) rfl dX5_carries_1 ?_
  refine lv_iconst (v := 3) hx hb dX5_carries_4 (by decide) ?_
  refine lv_iload_n hx hb dX5_carries_5 rfl (lv_at hl 1 rfl) ?_
  refine lv_imul hx hb dX5_carries_6 ?_
  refine lv_is (show (3 : Int32) * (nI p1) = (nI (3 * p1)) from pk_mul 3 p1) ?_
  refine z_iald (i := 3 * p1) hx hb hK hP 5 0 rfl rfl (by omega) (by decide) dX5_carries_7 ?_
  refine lv_istore_n (lv' := [(2, .int (M 7 (3 * p1))), (0, .ref (u 0)), (1, .int (nI p1))]) hx hb dX5_carries_8 rfl hl (by decide) rfl (fun ls hl => ?_)
  refine lv_aload_n hx hb dX5_carries_9 rfl (lv_at hl 1 rfl) ?_
  refine va_get (D := D) (ci := 5) (v := .ref (u 8)) (C := RX5) (T := TX5) (N := 13) hx hb hts hinX5 hown hK.1 hP 0 rfl rfl 7 (by decide) (hts (.fieldLink RX5 22 "SaltSharesModel" "parts" "[I") (List.mem_of_getElem? (i := 1) rfl)) (fun _ h9 => h9) rfl dX5_carries_10 ?_
  refine lv_iconst (v := 3) hx hb dX5_carries_13 (by decide) ?_
  refine lv_iload_n hx hb dX5_carries_14 rfl (lv_at hl 2 rfl) ?_
  refine lv_imul hx hb dX5_carries_15 ?_
  refine lv_is (show (3 : Int32) * (nI p1) = (nI (3 * p1)) from pk_mul 3 p1) ?_
  refine lv_iconst (v := 1) hx hb dX5_carries_16 (by decide) ?_
  refine lv_iadd hx hb dX5_carries_17 ?_
  refine lv_is (show (nI (3 * p1)) + 1 = (nI (3 * p1 + 1)) from nI_add (3 * p1) 1) ?_
  refine z_iald (i := 3 * p1 + 1) hx hb hK hP 5 0 rfl rfl (by omega) (by decide) dX5_carries_18 ?_
  refine lv_istore_n (lv' := [(3, .int (M 7 (3 * p1 + 1))), (2, .int (M 7 (3 * p1))), (0, .ref (u 0)), (1, .int (nI p1))]) hx hb dX5_carries_19 rfl hl (by decide) rfl (fun ls hl => ?_)
  refine lv_aload_n hx hb dX5_carries_20 rfl (lv_at hl 2 rfl) ?_
  refine va_get (D := D) (ci := 5) (v := .ref (u 8)) (C := RX5) (T := TX5) (N := 13) hx hb hts hinX5 hown hK.1 hP 0 rfl rfl 7 (by decide) (hts (.fieldLink RX5 22 "SaltSharesModel" "parts" "[I") (List.mem_of_getElem? (i := 1) rfl)) (fun _ h9 => h9) rfl dX5_carries_21 ?_
  refine lv_iconst (v := 3) hx hb dX5_carries_24 (by decide) ?_
  refine lv_iload_n hx hb dX5_carries_25 rfl (lv_at hl 3 rfl) ?_
  refine lv_imul hx hb dX5_carries_26 ?_
  refine lv_is (show (3 : Int32) * (nI p1) = (nI (3 * p1)) from pk_mul 3 p1) ?_
  refine lv_iconst (v := 2) hx hb dX5_carries_27 (by decide) ?_
  refine lv_iadd hx hb dX5_carries_28 ?_
  refine lv_is (show (nI (3 * p1)) + 2 = (nI (3 * p1 + 2)) from nI_add (3 * p1) 2) ?_
  refine z_iald (i := 3 * p1 + 2) hx hb hK hP 5 0 rfl rfl (by omega) (by decide) dX5_carries_29 ?_
  refine lv_istore (lv' := [(4, .int (M 7 (3 * p1 + 2))), (3, .int (M 7 (3 * p1 + 1))), (2, .int (M 7 (3 * p1))), (0, .ref (u 0)), (1, .int (nI p1))]) hx hb dX5_carries_30 hl (by decide) rfl (fun ls hl => ?_)
  refine lv_iload_n hx hb dX5_carries_32 rfl (lv_at hl 2 rfl) ?_
  refine lv_bipush (v := 100) hx hb dX5_carries_33 (by decide) ?_
  refine lv_icmp_ne (tgt := 48) hx hb dX5_carries_35 (by decide) (fun c_1 => ?_) (fun c_1 => ?_)
  · have c_1 : ¬ ((M 7 (3 * p1)) = 100) := c_1
    have hq := hq.trans (if_neg c_1)
    refine lv_aload_n hx hb dX5_carries_48 rfl (lv_at hl 3 rfl) ?_
    refine lv_iload_n hx hb dX5_carries_49 rfl (lv_at hl 1 rfl) ?_
    refine zcV (ci := 5) (n := 1) (c_X5_isBread l D g u M w (M 7 (3 * p1 + 1))) hx hb hml hown hts gX5_carries_X5_isBread rfl ⟨rfl, by decide, by decide, by decide⟩ ⟨Nat.le_of_ble_eq_true rfl, Nat.le_of_ble_eq_true rfl⟩ ⟨rfl, rfl⟩ hK hP rfl rfl rfl hl.1 rfl rfl (Nat.le_of_ble_eq_true rfl) ⟨Nat.zero_le _, Nat.zero_le _⟩ dX5_carries_50 ?_
    refine zif_eq (tgt := 106) hx hb dX5_carries_53 (by decide) (fun c_3 => ?_) (fun c_3 => ?_)
    · have hq := hq.trans (zif_f c_3)
      refine lv_iconst (v := 0) hx hb dX5_carries_106 (by decide) ?_
      refine lv_istore (lv' := [(5, .int 0), (4, .int (M 7 (3 * p1 + 2))), (3, .int (M 7 (3 * p1 + 1))), (2, .int (M 7 (3 * p1))), (0, .ref (u 0)), (1, .int (nI p1))]) hx hb dX5_carries_107 hl (by decide) rfl (fun ls hl => ?_)
      refine lv_iload hx hb dX5_carries_109 (lv_at hl 0 rfl) ?_
      refine lv_if_eq (tgt := 128) hx hb dX5_carries_111 (by decide) (fun c_4 => ?_) (fun c_4 => ?_)
      rotate_left
      · exact absurd c_4 (by decide)
      refine lv_iload hx hb dX5_carries_128 (lv_at hl 0 rfl) ?_
      refine lv_if_eq (tgt := 155) hx hb dX5_carries_130 (by decide) (fun c_5 => ?_) (fun c_5 => ?_)
      rotate_left
      · exact absurd c_5 (by decide)
      refine lv_iload hx hb dX5_carries_155 (lv_at hl 0 rfl) ?_
      refine lv_if_eq (tgt := 189) hx hb dX5_carries_157 (by decide) (fun c_6 => ?_) (fun c_6 => ?_)
      rotate_left
      · exact absurd c_6 (by decide)
      refine lv_iload hx hb dX5_carries_189 (lv_at hl 0 rfl) ?_
      exact zretw_z (q' := false) hx hb hr hlocks dX5_carries_191 hP hS (by with_reducible exact congrArg (fun z9 => z9.1) hq) (by with_reducible exact congrArg (fun z9 => zB_X5 (g 0) u z9.2 w) hq)
    · have hq := hq.trans (zif_t c_3)
      refine lv_iload_n hx hb dX5_carries_56 rfl (lv_at hl 2 rfl) ?_
      refine lv_bipush (v := 43) hx hb dX5_carries_57 (by decide) ?_
      refine lv_icmp_ne (tgt := 75) hx hb dX5_carries_59 (by decide) (fun c_7 => ?_) (fun c_7 => ?_)
      · have c_7 : ¬ ((M 7 (3 * p1)) = 43) := c_7
        have hq := hq.trans (if_neg c_7)
        refine lv_iload_n hx hb dX5_carries_75 rfl (lv_at hl 2 rfl) ?_
        refine lv_bipush (v := 45) hx hb dX5_carries_76 (by decide) ?_
        refine lv_icmp_ne (tgt := 94) hx hb dX5_carries_78 (by decide) (fun c_8 => ?_) (fun c_8 => ?_)
        · have c_8 : ¬ ((M 7 (3 * p1)) = 45) := c_8
          have hq := hq.trans (if_neg c_8)
          have w_9 := znat (zmb (by with_reducible assumption) (zI_B z0))
          have w_9b := w_9.2
          have hl : lv_has ls 6 [(4, .int (M 7 (3 * p1 + 2))), (3, .int (nI (Int32.toNatClampNeg (M 7 (3 * p1 + 1))))), (2, .int (M 7 (3 * p1))), (0, .ref (u 0)), (1, .int (nI p1))] := by rw [← w_9.1]; exact hl
          refine lv_aload_n hx hb dX5_carries_94 rfl (lv_at hl 3 rfl) ?_
          refine lv_iload_n hx hb dX5_carries_95 rfl (lv_at hl 1 rfl) ?_
          refine zcV (ci := 5) (n := 1) (c_X5_isOpen l D g u M w (Int32.toNatClampNeg (M 7 (3 * p1 + 1))) (by omega)) hx hb hml hown hts gX5_carries_X5_isOpen rfl ⟨rfl, by decide, by decide, by decide⟩ ⟨Nat.le_of_ble_eq_true rfl, Nat.le_of_ble_eq_true rfl⟩ ⟨rfl, rfl⟩ hK hP rfl rfl rfl hl.1 rfl rfl (Nat.le_of_ble_eq_true rfl) ⟨Nat.zero_le _, Nat.zero_le _⟩ dX5_carries_96 ?_
          refine zif_eq (tgt := 106) hx hb dX5_carries_99 (by decide) (fun c_11 => ?_) (fun c_11 => ?_)
          · have hq := hq.trans (zif_f c_11)
            refine lv_iconst (v := 0) hx hb dX5_carries_106 (by decide) ?_
            refine lv_istore (lv' := [(5, .int 0), (4, .int (M 7 (3 * p1 + 2))), (3, .int (nI (Int32.toNatClampNeg (M 7 (3 * p1 + 1))))), (2, .int (M 7 (3 * p1))), (0, .ref (u 0)), (1, .int (nI p1))]) hx hb dX5_carries_107 hl (by decide) rfl (fun ls hl => ?_)
            refine lv_iload hx hb dX5_carries_109 (lv_at hl 0 rfl) ?_
            refine lv_if_eq (tgt := 128) hx hb dX5_carries_111 (by decide) (fun c_12 => ?_) (fun c_12 => ?_)
            rotate_left
            · exact absurd c_12 (by decide)
            refine lv_iload hx hb dX5_carries_128 (lv_at hl 0 rfl) ?_
            refine lv_if_eq (tgt := 155) hx hb dX5_carries_130 (by decide) (fun c_13 => ?_) (fun c_13 => ?_)
            rotate_left
            · exact absurd c_13 (by decide)
            refine lv_iload hx hb dX5_carries_155 (lv_at hl 0 rfl) ?_
            refine lv_if_eq (tgt := 189) hx hb dX5_carries_157 (by decide) (fun c_14 => ?_) (fun c_14 => ?_)
            rotate_left
            · exact absurd c_14 (by decide)
            refine lv_iload hx hb dX5_carries_189 (lv_at hl 0 rfl) ?_
            exact zretw_z (q' := false) hx hb hr hlocks dX5_carries_191 hP hS (by with_reducible exact congrArg (fun z9 => z9.1) hq) (by with_reducible exact congrArg (fun z9 => zB_X5 (g 0) u z9.2 w) hq)
          · have hq := hq.trans (zif_t c_11)
            refine lv_iconst (v := 1) hx hb dX5_carries_102 (by decide) ?_
            refine lv_goto (tgt := 107) hx hb dX5_carries_103 (by decide) ?_
            refine lv_istore (lv' := [(5, .int 1), (4, .int (M 7 (3 * p1 + 2))), (3, .int (nI (Int32.toNatClampNeg (M 7 (3 * p1 + 1))))), (2, .int (M 7 (3 * p1))), (0, .ref (u 0)), (1, .int (nI p1))]) hx hb dX5_carries_107 hl (by decide) rfl (fun ls hl => ?_)
            refine lv_iload hx hb dX5_carries_109 (lv_at hl 0 rfl) ?_
            refine lv_if_eq (tgt := 128) hx hb dX5_carries_111 (by decide) (fun c_15 => ?_) (fun c_15 => ?_)
            · exact absurd c_15 (by decide)
            refine lv_iload_n hx hb dX5_carries_114 rfl (lv_at hl 3 rfl) ?_
            refine lv_bipush (v := 120) hx hb dX5_carries_115 (by decide) ?_
            refine lv_icmp_ne (tgt := 128) hx hb dX5_carries_117 (by decide) (fun c_16 => ?_) (fun c_16 => ?_)
            · have c_16 : ¬ ((M 7 (3 * p1)) = 120) := c_16
              have hq := hq.trans (if_neg c_16)
              refine lv_iload hx hb dX5_carries_128 (lv_at hl 0 rfl) ?_
              refine lv_if_eq (tgt := 155) hx hb dX5_carries_130 (by decide) (fun c_17 => ?_) (fun c_17 => ?_)
              · exact absurd c_17 (by decide)
              refine lv_iload_n hx hb dX5_carries_133 rfl (lv_at hl 3 rfl) ?_
              refine lv_bipush (v := 43) hx hb dX5_carries_134 (by decide) ?_
              refine lv_icmp_eq (tgt := 145) hx hb dX5_carries_136 (by decide) (fun c_18 => ?_) (fun c_18 => ?_)
              · have c_18 : (M 7 (3 * p1)) = 43 := c_18
                have hq := hq.trans (if_pos c_18)
                have w_19 := znat (z3 (by first | exact Or.inl (by with_reducible assumption) | exact Or.inr (by with_reducible assumption)))
                have w_19b := w_19.2
                have hl : lv_has ls 6 [(5, .int 1), (4, .int (nI (Int32.toNatClampNeg (M 7 (3 * p1 + 2))))), (3, .int (nI (Int32.toNatClampNeg (M 7 (3 * p1 + 1))))), (2, .int (M 7 (3 * p1))), (0, .ref (u 0)), (1, .int (nI p1))] := by rw [← w_19.1]; exact hl
                refine lv_aload_n hx hb dX5_carries_145 rfl (lv_at hl 4 rfl) ?_
                refine lv_iload_n hx hb dX5_carries_146 rfl (lv_at hl 2 rfl) ?_
                refine lv_iload hx hb dX5_carries_147 (lv_at hl 1 rfl) ?_
                refine zcVw (ci := 5) (n := 2) (c_X5_setShare l D g u M w (Int32.toNatClampNeg (M 7 (3 * p1 + 1))) (Int32.toNatClampNeg (M 7 (3 * p1 + 2))) (by omega) z0 (by omega) (by first | exact zroom (by omega) z0 (by omega) (Or.inl (by with_reducible assumption)) | exact zroom (by omega) z0 (by omega) (Or.inr (by with_reducible assumption)) | (exfalso; contradiction))) hx hb hml hown hts gX5_carries_X5_setShare rfl ⟨rfl, by decide, by decide, by decide⟩ ⟨Nat.le_of_ble_eq_true rfl, Nat.le_of_ble_eq_true rfl⟩ ⟨rfl, rfl⟩ hK hP hD rfl rfl rfl hS hl.1 rfl rfl (Nat.le_of_ble_eq_true rfl) ⟨Nat.zero_le _, Nat.zero_le _⟩ dX5_carries_149 (fun H1 locs hP1 hk1 hS => ?_)
                have hD := zD_addr (ws' := zB_X5 (g 0) u (v_X5_setShare M (Int32.toNatClampNeg (M 7 (3 * p1 + 1))) (Int32.toNatClampNeg (M 7 (3 * p1 + 2)))) w) hD (by simp only [zF, List.flatten_cons, List.flatten_nil, List.append_nil, List.map_append, List.map_cons, List.map_nil, zad_X0, zad_X1, zad_X2, zad_X3, zad_X4, zad_X5]); have hP := hP1
                clear hP1 hk1
                have hP : va_P D vwCl (zB_X5 (g 0) u (v_X5_setShare M (Int32.toNatClampNeg (M 7 (3 * p1 + 1))) (Int32.toNatClampNeg (M 7 (3 * p1 + 2)))) w) H1 := hP
                have hD : va_D (zA (zB_X5 (g 0) u M w)) (zB_X5 (g 0) u (v_X5_setShare M (Int32.toNatClampNeg (M 7 (3 * p1 + 1))) (Int32.toNatClampNeg (M 7 (3 * p1 + 2)))) w) := hD
                refine lv_goto (tgt := 189) hx hb dX5_carries_152 (by decide) ?_
                refine lv_iload hx hb dX5_carries_189 (lv_at hl 0 rfl) ?_
                exact zretw_z (q' := true) hx hb hr hlocks dX5_carries_191 hP hS (by with_reducible exact congrArg (fun z9 => z9.1) hq) (by with_reducible exact congrArg (fun z9 => zB_X5 (g 0) u z9.2 w) hq)
              · have c_18 : ¬ ((M 7 (3 * p1)) = 43) := c_18
                have hq := hq.trans (if_neg c_18)
                refine lv_iload_n hx hb dX5_carries_139 rfl (lv_at hl 3 rfl) ?_
                refine lv_bipush (v := 45) hx hb dX5_carries_140 (by decide) ?_
                refine lv_icmp_ne (tgt := 155) hx hb dX5_carries_142 (by decide) (fun c_21 => ?_) (fun c_21 => ?_)
                · have c_21 : ¬ ((M 7 (3 * p1)) = 45) := c_21
                  have hq := hq.trans (if_neg c_21)
                  refine lv_iload hx hb dX5_carries_155 (lv_at hl 0 rfl) ?_
                  refine lv_if_eq (tgt := 189) hx hb dX5_carries_157 (by decide) (fun c_22 => ?_) (fun c_22 => ?_)
                  · exact absurd c_22 (by decide)
                  have w_23 := znat (z4 (by with_reducible assumption) (by with_reducible assumption) (by with_reducible assumption) (by with_reducible assumption))
                  have w_23b := w_23.2
                  have hl : lv_has ls 6 [(5, .int 1), (4, .int (nI (Int32.toNatClampNeg (M 7 (3 * p1 + 2))))), (3, .int (nI (Int32.toNatClampNeg (M 7 (3 * p1 + 1))))), (2, .int (M 7 (3 * p1))), (0, .ref (u 0)), (1, .int (nI p1))] := by rw [← w_23.1]; exact hl
                  refine lv_aload_n hx hb dX5_carries_160 rfl (lv_at hl 4 rfl) ?_
                  refine lv_iload hx hb dX5_carries_161 (lv_at hl 1 rfl) ?_
                  refine lv_iload_n hx hb dX5_carries_163 rfl (lv_at hl 2 rfl) ?_
                  refine lv_iload_n hx hb dX5_carries_164 rfl (lv_at hl 3 rfl) ?_
                  refine lv_bipush (v := 105) hx hb dX5_carries_165 (by decide) ?_
                  refine lv_icmp_ne (tgt := 174) hx hb dX5_carries_167 (by decide) (fun c_24 => ?_) (fun c_24 => ?_)
                  · have c_24 : ¬ ((M 7 (3 * p1)) = 105) := c_24
                    have hq := hq.trans (if_neg c_24)
                    refine lv_iconst (v := 0) hx hb dX5_carries_174 (by decide) ?_
                    refine lv_iload_n hx hb dX5_carries_175 rfl (lv_at hl 3 rfl) ?_
                    refine lv_bipush (v := 105) hx hb dX5_carries_176 (by decide) ?_
                    refine lv_icmp_ne (tgt := 185) hx hb dX5_carries_178 (by decide) (fun c_25 => ?_) (fun c_25 => ?_)
                    · have c_25 : ¬ ((M 7 (3 * p1)) = 105) := c_25
                      have hq := hq.trans (if_neg c_25)
                      refine lv_iconst (v := 1) hx hb dX5_carries_185 (by decide) ?_
                      refine zcVw (ci := 5) (n := 4) (c_X5_holds l D g u M w (Int32.toNatClampNeg (M 7 (3 * p1 + 2))) (Int32.toNatClampNeg (M 7 (3 * p1 + 1))) 0 1 (by omega) (by omega)) hx hb hml hown hts gX5_carries_X5_holds rfl ⟨rfl, by decide, by decide, by decide⟩ ⟨Nat.le_of_ble_eq_true rfl, Nat.le_of_ble_eq_true rfl⟩ ⟨rfl, rfl⟩ hK hP hD rfl rfl rfl hS hl.1 rfl rfl (Nat.le_of_ble_eq_true rfl) ⟨Nat.zero_le _, Nat.zero_le _⟩ dX5_carries_186 (fun H1 locs hP1 hk1 hS => ?_)
                      have hD := zD_addr (ws' := zB_X5 (g 0) u (v_X5_holds M (Int32.toNatClampNeg (M 7 (3 * p1 + 2))) (Int32.toNatClampNeg (M 7 (3 * p1 + 1))) 0 1) w) hD (by simp only [zF, List.flatten_cons, List.flatten_nil, List.append_nil, List.map_append, List.map_cons, List.map_nil, zad_X0, zad_X1, zad_X2, zad_X3, zad_X4, zad_X5]); have hP := hP1
                      clear hP1 hk1
                      have hP : va_P D vwCl (zB_X5 (g 0) u (v_X5_holds M (Int32.toNatClampNeg (M 7 (3 * p1 + 2))) (Int32.toNatClampNeg (M 7 (3 * p1 + 1))) 0 1) w) H1 := hP
                      have hD : va_D (zA (zB_X5 (g 0) u M w)) (zB_X5 (g 0) u (v_X5_holds M (Int32.toNatClampNeg (M 7 (3 * p1 + 2))) (Int32.toNatClampNeg (M 7 (3 * p1 + 1))) 0 1) w) := hD
                      refine lv_iload hx hb dX5_carries_189 (lv_at hl 0 rfl) ?_
                      exact zretw_z (q' := true) hx hb hr hlocks dX5_carries_191 hP hS (by with_reducible exact congrArg (fun z9 => z9.1) hq) (by with_reducible exact congrArg (fun z9 => zB_X5 (g 0) u z9.2 w) hq)
                    · have c_25 : (M 7 (3 * p1)) = 105 := c_25
                      have hq := hq.trans (if_pos c_25)
                      refine lv_iconst (v := 0) hx hb dX5_carries_181 (by decide) ?_
                      refine lv_goto (tgt := 186) hx hb dX5_carries_182 (by decide) ?_
                      refine zcVw (ci := 5) (n := 4) (c_X5_holds l D g u M w (Int32.toNatClampNeg (M 7 (3 * p1 + 2))) (Int32.toNatClampNeg (M 7 (3 * p1 + 1))) 0 0 (by omega) (by omega)) hx hb hml hown hts gX5_carries_X5_holds rfl ⟨rfl, by decide, by decide, by decide⟩ ⟨Nat.le_of_ble_eq_true rfl, Nat.le_of_ble_eq_true rfl⟩ ⟨rfl, rfl⟩ hK hP hD rfl rfl rfl hS hl.1 rfl rfl (Nat.le_of_ble_eq_true rfl) ⟨Nat.zero_le _, Nat.zero_le _⟩ dX5_carries_186 (fun H1 locs hP1 hk1 hS => ?_)
                      have hD := zD_addr (ws' := zB_X5 (g 0) u (v_X5_holds M (Int32.toNatClampNeg (M 7 (3 * p1 + 2))) (Int32.toNatClampNeg (M 7 (3 * p1 + 1))) 0 0) w) hD (by simp only [zF, List.flatten_cons, List.flatten_nil, List.append_nil, List.map_append, List.map_cons, List.map_nil, zad_X0, zad_X1, zad_X2, zad_X3, zad_X4, zad_X5]); have hP := hP1
                      clear hP1 hk1
                      have hP : va_P D vwCl (zB_X5 (g 0) u (v_X5_holds M (Int32.toNatClampNeg (M 7 (3 * p1 + 2))) (Int32.toNatClampNeg (M 7 (3 * p1 + 1))) 0 0) w) H1 := hP
                      have hD : va_D (zA (zB_X5 (g 0) u M w)) (zB_X5 (g 0) u (v_X5_holds M (Int32.toNatClampNeg (M 7 (3 * p1 + 2))) (Int32.toNatClampNeg (M 7 (3 * p1 + 1))) 0 0) w) := hD
                      refine lv_iload hx hb dX5_carries_189 (lv_at hl 0 rfl) ?_
                      exact zretw_z (q' := true) hx hb hr hlocks dX5_carries_191 hP hS (by with_reducible exact congrArg (fun z9 => z9.1) hq) (by with_reducible exact congrArg (fun z9 => zB_X5 (g 0) u z9.2 w) hq)
                  · have c_24 : (M 7 (3 * p1)) = 105 := c_24
                    have hq := hq.trans (if_pos c_24)
                    refine lv_iconst (v := 1) hx hb dX5_carries_170 (by decide) ?_
                    refine lv_goto (tgt := 175) hx hb dX5_carries_171 (by decide) ?_
                    refine lv_iload_n hx hb dX5_carries_175 rfl (lv_at hl 3 rfl) ?_
                    refine lv_bipush (v := 105) hx hb dX5_carries_176 (by decide) ?_
                    refine lv_icmp_ne (tgt := 185) hx hb dX5_carries_178 (by decide) (fun c_28 => ?_) (fun c_28 => ?_)
                    · have c_28 : ¬ ((M 7 (3 * p1)) = 105) := c_28
                      have hq := hq.trans (if_neg c_28)
                      refine lv_iconst (v := 1) hx hb dX5_carries_185 (by decide) ?_
                      refine zcVw (ci := 5) (n := 4) (c_X5_holds l D g u M w (Int32.toNatClampNeg (M 7 (3 * p1 + 2))) (Int32.toNatClampNeg (M 7 (3 * p1 + 1))) 1 1 (by omega) (by omega)) hx hb hml hown hts gX5_carries_X5_holds rfl ⟨rfl, by decide, by decide, by decide⟩ ⟨Nat.le_of_ble_eq_true rfl, Nat.le_of_ble_eq_true rfl⟩ ⟨rfl, rfl⟩ hK hP hD rfl rfl rfl hS hl.1 rfl rfl (Nat.le_of_ble_eq_true rfl) ⟨Nat.zero_le _, Nat.zero_le _⟩ dX5_carries_186 (fun H1 locs hP1 hk1 hS => ?_)
                      have hD := zD_addr (ws' := zB_X5 (g 0) u (v_X5_holds M (Int32.toNatClampNeg (M 7 (3 * p1 + 2))) (Int32.toNatClampNeg (M 7 (3 * p1 + 1))) 1 1) w) hD (by simp only [zF, List.flatten_cons, List.flatten_nil, List.append_nil, List.map_append, List.map_cons, List.map_nil, zad_X0, zad_X1, zad_X2, zad_X3, zad_X4, zad_X5]); have hP := hP1
                      clear hP1 hk1
                      have hP : va_P D vwCl (zB_X5 (g 0) u (v_X5_holds M (Int32.toNatClampNeg (M 7 (3 * p1 + 2))) (Int32.toNatClampNeg (M 7 (3 * p1 + 1))) 1 1) w) H1 := hP
                      have hD : va_D (zA (zB_X5 (g 0) u M w)) (zB_X5 (g 0) u (v_X5_holds M (Int32.toNatClampNeg (M 7 (3 * p1 + 2))) (Int32.toNatClampNeg (M 7 (3 * p1 + 1))) 1 1) w) := hD
                      refine lv_iload hx hb dX5_carries_189 (lv_at hl 0 rfl) ?_
                      exact zretw_z (q' := true) hx hb hr hlocks dX5_carries_191 hP hS (by with_reducible exact congrArg (fun z9 => z9.1) hq) (by with_reducible exact congrArg (fun z9 => zB_X5 (g 0) u z9.2 w) hq)
                    · have c_28 : (M 7 (3 * p1)) = 105 := c_28
                      have hq := hq.trans (if_pos c_28)
                      refine lv_iconst (v := 0) hx hb dX5_carries_181 (by decide) ?_
                      refine lv_goto (tgt := 186) hx hb dX5_carries_182 (by decide) ?_
                      refine zcVw (ci := 5) (n := 4) (c_X5_holds l D g u M w (Int32.toNatClampNeg (M 7 (3 * p1 + 2))) (Int32.toNatClampNeg (M 7 (3 * p1 + 1))) 1 0 (by omega) (by omega)) hx hb hml hown hts gX5_carries_X5_holds rfl ⟨rfl, by decide, by decide, by decide⟩ ⟨Nat.le_of_ble_eq_true rfl, Nat.le_of_ble_eq_true rfl⟩ ⟨rfl, rfl⟩ hK hP hD rfl rfl rfl hS hl.1 rfl rfl (Nat.le_of_ble_eq_true rfl) ⟨Nat.zero_le _, Nat.zero_le _⟩ dX5_carries_186 (fun H1 locs hP1 hk1 hS => ?_)
                      have hD := zD_addr (ws' := zB_X5 (g 0) u (v_X5_holds M (Int32.toNatClampNeg (M 7 (3 * p1 + 2))) (Int32.toNatClampNeg (M 7 (3 * p1 + 1))) 1 0) w) hD (by simp only [zF, List.flatten_cons, List.flatten_nil, List.append_nil, List.map_append, List.map_cons, List.map_nil, zad_X0, zad_X1, zad_X2, zad_X3, zad_X4, zad_X5]); have hP := hP1
                      clear hP1 hk1
                      have hP : va_P D vwCl (zB_X5 (g 0) u (v_X5_holds M (Int32.toNatClampNeg (M 7 (3 * p1 + 2))) (Int32.toNatClampNeg (M 7 (3 * p1 + 1))) 1 0) w) H1 := hP
                      have hD : va_D (zA (zB_X5 (g 0) u M w)) (zB_X5 (g 0) u (v_X5_holds M (Int32.toNatClampNeg (M 7 (3 * p1 + 2))) (Int32.toNatClampNeg (M 7 (3 * p1 + 1))) 1 0) w) := hD
                      refine lv_iload hx hb dX5_carries_189 (lv_at hl 0 rfl) ?_
                      exact zretw_z (q' := true) hx hb hr hlocks dX5_carries_191 hP hS (by with_reducible exact congrArg (fun z9 => z9.1) hq) (by with_reducible exact congrArg (fun z9 => zB_X5 (g 0) u z9.2 w) hq)
                · have c_21 : (M 7 (3 * p1)) = 45 := c_21
                  have hq := hq.trans (if_pos c_21)
                  have w_31 := znat (z3 (by first | exact Or.inl (by with_reducible assumption) | exact Or.inr (by with_reducible assumption)))
                  have w_31b := w_31.2
                  have hl : lv_has ls 6 [(5, .int 1), (4, .int (nI (Int32.toNatClampNeg (M 7 (3 * p1 + 2))))), (3, .int (nI (Int32.toNatClampNeg (M 7 (3 * p1 + 1))))), (2, .int (M 7 (3 * p1))), (0, .ref (u 0)), (1, .int (nI p1))] := by rw [← w_31.1]; exact hl
                  refine lv_aload_n hx hb dX5_carries_145 rfl (lv_at hl 4 rfl) ?_
                  refine lv_iload_n hx hb dX5_carries_146 rfl (lv_at hl 2 rfl) ?_
                  refine lv_iload hx hb dX5_carries_147 (lv_at hl 1 rfl) ?_
                  refine zcVw (ci := 5) (n := 2) (c_X5_setShare l D g u M w (Int32.toNatClampNeg (M 7 (3 * p1 + 1))) (Int32.toNatClampNeg (M 7 (3 * p1 + 2))) (by omega) z0 (by omega) (by first | exact zroom (by omega) z0 (by omega) (Or.inl (by with_reducible assumption)) | exact zroom (by omega) z0 (by omega) (Or.inr (by with_reducible assumption)) | (exfalso; contradiction))) hx hb hml hown hts gX5_carries_X5_setShare rfl ⟨rfl, by decide, by decide, by decide⟩ ⟨Nat.le_of_ble_eq_true rfl, Nat.le_of_ble_eq_true rfl⟩ ⟨rfl, rfl⟩ hK hP hD rfl rfl rfl hS hl.1 rfl rfl (Nat.le_of_ble_eq_true rfl) ⟨Nat.zero_le _, Nat.zero_le _⟩ dX5_carries_149 (fun H1 locs hP1 hk1 hS => ?_)
                  have hD := zD_addr (ws' := zB_X5 (g 0) u (v_X5_setShare M (Int32.toNatClampNeg (M 7 (3 * p1 + 1))) (Int32.toNatClampNeg (M 7 (3 * p1 + 2)))) w) hD (by simp only [zF, List.flatten_cons, List.flatten_nil, List.append_nil, List.map_append, List.map_cons, List.map_nil, zad_X0, zad_X1, zad_X2, zad_X3, zad_X4, zad_X5]); have hP := hP1
                  clear hP1 hk1
                  have hP : va_P D vwCl (zB_X5 (g 0) u (v_X5_setShare M (Int32.toNatClampNeg (M 7 (3 * p1 + 1))) (Int32.toNatClampNeg (M 7 (3 * p1 + 2)))) w) H1 := hP
                  have hD : va_D (zA (zB_X5 (g 0) u M w)) (zB_X5 (g 0) u (v_X5_setShare M (Int32.toNatClampNeg (M 7 (3 * p1 + 1))) (Int32.toNatClampNeg (M 7 (3 * p1 + 2)))) w) := hD
                  refine lv_goto (tgt := 189) hx hb dX5_carries_152 (by decide) ?_
                  refine lv_iload hx hb dX5_carries_189 (lv_at hl 0 rfl) ?_
                  exact zretw_z (q' := true) hx hb hr hlocks dX5_carries_191 hP hS (by with_reducible exact congrArg (fun z9 => z9.1) hq) (by with_reducible exact congrArg (fun z9 => zB_X5 (g 0) u z9.2 w) hq)
            · have c_16 : (M 7 (3 * p1)) = 120 := c_16
              have hq := hq.trans (if_pos c_16)
              refine lv_aload_n hx hb dX5_carries_120 rfl (lv_at hl 4 rfl) ?_
              refine lv_iload_n hx hb dX5_carries_121 rfl (lv_at hl 2 rfl) ?_
              refine zcVw (ci := 5) (n := 1) (c_X5_ends l D g u M w (Int32.toNatClampNeg (M 7 (3 * p1 + 1))) (by omega) z0) hx hb hml hown hts gX5_carries_X5_ends rfl ⟨rfl, by decide, by decide, by decide⟩ ⟨Nat.le_of_ble_eq_true rfl, Nat.le_of_ble_eq_true rfl⟩ ⟨rfl, rfl⟩ hK hP hD rfl rfl rfl hS hl.1 rfl rfl (Nat.le_of_ble_eq_true rfl) ⟨Nat.zero_le _, Nat.zero_le _⟩ dX5_carries_122 (fun H1 locs hP1 hk1 hS => ?_)
              have hD := zD_addr (ws' := zB_X5 (g 0) u (v_X5_ends M (Int32.toNatClampNeg (M 7 (3 * p1 + 1)))) w) hD (by simp only [zF, List.flatten_cons, List.flatten_nil, List.append_nil, List.map_append, List.map_cons, List.map_nil, zad_X0, zad_X1, zad_X2, zad_X3, zad_X4, zad_X5]); have hP := hP1
              clear hP1 hk1
              have hP : va_P D vwCl (zB_X5 (g 0) u (v_X5_ends M (Int32.toNatClampNeg (M 7 (3 * p1 + 1)))) w) H1 := hP
              have hD : va_D (zA (zB_X5 (g 0) u M w)) (zB_X5 (g 0) u (v_X5_ends M (Int32.toNatClampNeg (M 7 (3 * p1 + 1)))) w) := hD
              refine lv_goto (tgt := 189) hx hb dX5_carries_125 (by decide) ?_
              refine lv_iload hx hb dX5_carries_189 (lv_at hl 0 rfl) ?_
              exact zretw_z (q' := true) hx hb hr hlocks dX5_carries_191 hP hS (by with_reducible exact congrArg (fun z9 => z9.1) hq) (by with_reducible exact congrArg (fun z9 => zB_X5 (g 0) u z9.2 w) hq)
        · have c_8 : (M 7 (3 * p1)) = 45 := c_8
          have hq := hq.trans (if_pos c_8)
          have w_34 := znat (zmb (by with_reducible assumption) (zI_B z0))
          have w_34b := w_34.2
          have hl : lv_has ls 6 [(4, .int (M 7 (3 * p1 + 2))), (3, .int (nI (Int32.toNatClampNeg (M 7 (3 * p1 + 1))))), (2, .int (M 7 (3 * p1))), (0, .ref (u 0)), (1, .int (nI p1))] := by rw [← w_34.1]; exact hl
          have w_35 := znat (z3 (Or.inr (by with_reducible assumption)))
          have w_35b := w_35.2
          have hl : lv_has ls 6 [(4, .int (nI (Int32.toNatClampNeg (M 7 (3 * p1 + 2))))), (3, .int (nI (Int32.toNatClampNeg (M 7 (3 * p1 + 1))))), (2, .int (M 7 (3 * p1))), (0, .ref (u 0)), (1, .int (nI p1))] := by rw [← w_35.1]; exact hl
          refine lv_aload_n hx hb dX5_carries_81 rfl (lv_at hl 3 rfl) ?_
          refine lv_iload_n hx hb dX5_carries_82 rfl (lv_at hl 1 rfl) ?_
          refine lv_iload hx hb dX5_carries_83 (lv_at hl 0 rfl) ?_
          refine zcV (ci := 5) (n := 2) (c_X5_canLower l D g u M w (Int32.toNatClampNeg (M 7 (3 * p1 + 1))) (nI (Int32.toNatClampNeg (M 7 (3 * p1 + 2)))) (by omega)) hx hb hml hown hts gX5_carries_X5_canLower rfl ⟨rfl, by decide, by decide, by decide⟩ ⟨Nat.le_of_ble_eq_true rfl, Nat.le_of_ble_eq_true rfl⟩ ⟨rfl, rfl⟩ hK hP rfl rfl rfl hl.1 rfl rfl (Nat.le_of_ble_eq_true rfl) ⟨Nat.zero_le _, Nat.zero_le _⟩ dX5_carries_85 ?_
          refine zif_eq (tgt := 106) hx hb dX5_carries_88 (by decide) (fun c_37 => ?_) (fun c_37 => ?_)
          · have hq := hq.trans (zif_f c_37)
            refine lv_iconst (v := 0) hx hb dX5_carries_106 (by decide) ?_
            refine lv_istore (lv' := [(5, .int 0), (4, .int (nI (Int32.toNatClampNeg (M 7 (3 * p1 + 2))))), (3, .int (nI (Int32.toNatClampNeg (M 7 (3 * p1 + 1))))), (2, .int (M 7 (3 * p1))), (0, .ref (u 0)), (1, .int (nI p1))]) hx hb dX5_carries_107 hl (by decide) rfl (fun ls hl => ?_)
            refine lv_iload hx hb dX5_carries_109 (lv_at hl 0 rfl) ?_
            refine lv_if_eq (tgt := 128) hx hb dX5_carries_111 (by decide) (fun c_38 => ?_) (fun c_38 => ?_)
            rotate_left
            · exact absurd c_38 (by decide)
            refine lv_iload hx hb dX5_carries_128 (lv_at hl 0 rfl) ?_
            refine lv_if_eq (tgt := 155) hx hb dX5_carries_130 (by decide) (fun c_39 => ?_) (fun c_39 => ?_)
            rotate_left
            · exact absurd c_39 (by decide)
            refine lv_iload hx hb dX5_carries_155 (lv_at hl 0 rfl) ?_
            refine lv_if_eq (tgt := 189) hx hb dX5_carries_157 (by decide) (fun c_40 => ?_) (fun c_40 => ?_)
            rotate_left
            · exact absurd c_40 (by decide)
            refine lv_iload hx hb dX5_carries_189 (lv_at hl 0 rfl) ?_
            exact zretw_z (q' := false) hx hb hr hlocks dX5_carries_191 hP hS (by with_reducible exact congrArg (fun z9 => z9.1) hq) (by with_reducible exact congrArg (fun z9 => zB_X5 (g 0) u z9.2 w) hq)
          · have hq := hq.trans (zif_t c_37)
            refine lv_goto (tgt := 102) hx hb dX5_carries_91 (by decide) ?_
            refine lv_iconst (v := 1) hx hb dX5_carries_102 (by decide) ?_
            refine lv_goto (tgt := 107) hx hb dX5_carries_103 (by decide) ?_
            refine lv_istore (lv' := [(5, .int 1), (4, .int (nI (Int32.toNatClampNeg (M 7 (3 * p1 + 2))))), (3, .int (nI (Int32.toNatClampNeg (M 7 (3 * p1 + 1))))), (2, .int (M 7 (3 * p1))), (0, .ref (u 0)), (1, .int (nI p1))]) hx hb dX5_carries_107 hl (by decide) rfl (fun ls hl => ?_)
            refine lv_iload hx hb dX5_carries_109 (lv_at hl 0 rfl) ?_
            refine lv_if_eq (tgt := 128) hx hb dX5_carries_111 (by decide) (fun c_41 => ?_) (fun c_41 => ?_)
            · exact absurd c_41 (by decide)
            refine lv_iload_n hx hb dX5_carries_114 rfl (lv_at hl 3 rfl) ?_
            refine lv_bipush (v := 120) hx hb dX5_carries_115 (by decide) ?_
            refine lv_icmp_ne (tgt := 128) hx hb dX5_carries_117 (by decide) (fun c_42 => ?_) (fun c_42 => ?_)
            · have c_42 : ¬ ((M 7 (3 * p1)) = 120) := c_42
              have hq := hq.trans (if_neg c_42)
              refine lv_iload hx hb dX5_carries_128 (lv_at hl 0 rfl) ?_
              refine lv_if_eq (tgt := 155) hx hb dX5_carries_130 (by decide) (fun c_43 => ?_) (fun c_43 => ?_)
              · exact absurd c_43 (by decide)
              refine lv_iload_n hx hb dX5_carries_133 rfl (lv_at hl 3 rfl) ?_
              refine lv_bipush (v := 43) hx hb dX5_carries_134 (by decide) ?_
              refine lv_icmp_eq (tgt := 145) hx hb dX5_carries_136 (by decide) (fun c_44 => ?_) (fun c_44 => ?_)
              · have c_44 : (M 7 (3 * p1)) = 43 := c_44
                have hq := hq.trans (if_pos c_44)
                refine lv_aload_n hx hb dX5_carries_145 rfl (lv_at hl 4 rfl) ?_
                refine lv_iload_n hx hb dX5_carries_146 rfl (lv_at hl 2 rfl) ?_
                refine lv_iload hx hb dX5_carries_147 (lv_at hl 1 rfl) ?_
                refine zcVw (ci := 5) (n := 2) (c_X5_setShare l D g u M w (Int32.toNatClampNeg (M 7 (3 * p1 + 1))) (Int32.toNatClampNeg (M 7 (3 * p1 + 2))) (by omega) z0 (by omega) (by first | exact zroom (by omega) z0 (by omega) (Or.inl (by with_reducible assumption)) | exact zroom (by omega) z0 (by omega) (Or.inr (by with_reducible assumption)) | (exfalso; contradiction))) hx hb hml hown hts gX5_carries_X5_setShare rfl ⟨rfl, by decide, by decide, by decide⟩ ⟨Nat.le_of_ble_eq_true rfl, Nat.le_of_ble_eq_true rfl⟩ ⟨rfl, rfl⟩ hK hP hD rfl rfl rfl hS hl.1 rfl rfl (Nat.le_of_ble_eq_true rfl) ⟨Nat.zero_le _, Nat.zero_le _⟩ dX5_carries_149 (fun H1 locs hP1 hk1 hS => ?_)
                have hD := zD_addr (ws' := zB_X5 (g 0) u (v_X5_setShare M (Int32.toNatClampNeg (M 7 (3 * p1 + 1))) (Int32.toNatClampNeg (M 7 (3 * p1 + 2)))) w) hD (by simp only [zF, List.flatten_cons, List.flatten_nil, List.append_nil, List.map_append, List.map_cons, List.map_nil, zad_X0, zad_X1, zad_X2, zad_X3, zad_X4, zad_X5]); have hP := hP1
                clear hP1 hk1
                have hP : va_P D vwCl (zB_X5 (g 0) u (v_X5_setShare M (Int32.toNatClampNeg (M 7 (3 * p1 + 1))) (Int32.toNatClampNeg (M 7 (3 * p1 + 2)))) w) H1 := hP
                have hD : va_D (zA (zB_X5 (g 0) u M w)) (zB_X5 (g 0) u (v_X5_setShare M (Int32.toNatClampNeg (M 7 (3 * p1 + 1))) (Int32.toNatClampNeg (M 7 (3 * p1 + 2)))) w) := hD
                refine lv_goto (tgt := 189) hx hb dX5_carries_152 (by decide) ?_
                refine lv_iload hx hb dX5_carries_189 (lv_at hl 0 rfl) ?_
                exact zretw_z (q' := true) hx hb hr hlocks dX5_carries_191 hP hS (by with_reducible exact congrArg (fun z9 => z9.1) hq) (by with_reducible exact congrArg (fun z9 => zB_X5 (g 0) u z9.2 w) hq)
              · have c_44 : ¬ ((M 7 (3 * p1)) = 43) := c_44
                have hq := hq.trans (if_neg c_44)
                refine lv_iload_n hx hb dX5_carries_139 rfl (lv_at hl 3 rfl) ?_
                refine lv_bipush (v := 45) hx hb dX5_carries_140 (by decide) ?_
                refine lv_icmp_ne (tgt := 155) hx hb dX5_carries_142 (by decide) (fun c_47 => ?_) (fun c_47 => ?_)
                · have c_47 : ¬ ((M 7 (3 * p1)) = 45) := c_47
                  have hq := hq.trans (if_neg c_47)
                  refine lv_iload hx hb dX5_carries_155 (lv_at hl 0 rfl) ?_
                  refine lv_if_eq (tgt := 189) hx hb dX5_carries_157 (by decide) (fun c_48 => ?_) (fun c_48 => ?_)
                  · exact absurd c_48 (by decide)
                  refine lv_aload_n hx hb dX5_carries_160 rfl (lv_at hl 4 rfl) ?_
                  refine lv_iload hx hb dX5_carries_161 (lv_at hl 1 rfl) ?_
                  refine lv_iload_n hx hb dX5_carries_163 rfl (lv_at hl 2 rfl) ?_
                  refine lv_iload_n hx hb dX5_carries_164 rfl (lv_at hl 3 rfl) ?_
                  refine lv_bipush (v := 105) hx hb dX5_carries_165 (by decide) ?_
                  refine lv_icmp_ne (tgt := 174) hx hb dX5_carries_167 (by decide) (fun c_50 => ?_) (fun c_50 => ?_)
                  · have c_50 : ¬ ((M 7 (3 * p1)) = 105) := c_50
                    have hq := hq.trans (if_neg c_50)
                    refine lv_iconst (v := 0) hx hb dX5_carries_174 (by decide) ?_
                    refine lv_iload_n hx hb dX5_carries_175 rfl (lv_at hl 3 rfl) ?_
                    refine lv_bipush (v := 105) hx hb dX5_carries_176 (by decide) ?_
                    refine lv_icmp_ne (tgt := 185) hx hb dX5_carries_178 (by decide) (fun c_51 => ?_) (fun c_51 => ?_)
                    · have c_51 : ¬ ((M 7 (3 * p1)) = 105) := c_51
                      have hq := hq.trans (if_neg c_51)
                      refine lv_iconst (v := 1) hx hb dX5_carries_185 (by decide) ?_
                      refine zcVw (ci := 5) (n := 4) (c_X5_holds l D g u M w (Int32.toNatClampNeg (M 7 (3 * p1 + 2))) (Int32.toNatClampNeg (M 7 (3 * p1 + 1))) 0 1 (by omega) (by omega)) hx hb hml hown hts gX5_carries_X5_holds rfl ⟨rfl, by decide, by decide, by decide⟩ ⟨Nat.le_of_ble_eq_true rfl, Nat.le_of_ble_eq_true rfl⟩ ⟨rfl, rfl⟩ hK hP hD rfl rfl rfl hS hl.1 rfl rfl (Nat.le_of_ble_eq_true rfl) ⟨Nat.zero_le _, Nat.zero_le _⟩ dX5_carries_186 (fun H1 locs hP1 hk1 hS => ?_)
                      have hD := zD_addr (ws' := zB_X5 (g 0) u (v_X5_holds M (Int32.toNatClampNeg (M 7 (3 * p1 + 2))) (Int32.toNatClampNeg (M 7 (3 * p1 + 1))) 0 1) w) hD (by simp only [zF, List.flatten_cons, List.flatten_nil, List.append_nil, List.map_append, List.map_cons, List.map_nil, zad_X0, zad_X1, zad_X2, zad_X3, zad_X4, zad_X5]); have hP := hP1
                      clear hP1 hk1
                      have hP : va_P D vwCl (zB_X5 (g 0) u (v_X5_holds M (Int32.toNatClampNeg (M 7 (3 * p1 + 2))) (Int32.toNatClampNeg (M 7 (3 * p1 + 1))) 0 1) w) H1 := hP
                      have hD : va_D (zA (zB_X5 (g 0) u M w)) (zB_X5 (g 0) u (v_X5_holds M (Int32.toNatClampNeg (M 7 (3 * p1 + 2))) (Int32.toNatClampNeg (M 7 (3 * p1 + 1))) 0 1) w) := hD
                      refine lv_iload hx hb dX5_carries_189 (lv_at hl 0 rfl) ?_
                      exact zretw_z (q' := true) hx hb hr hlocks dX5_carries_191 hP hS (by with_reducible exact congrArg (fun z9 => z9.1) hq) (by with_reducible exact congrArg (fun z9 => zB_X5 (g 0) u z9.2 w) hq)
                    · have c_51 : (M 7 (3 * p1)) = 105 := c_51
                      have hq := hq.trans (if_pos c_51)
                      refine lv_iconst (v := 0) hx hb dX5_carries_181 (by decide) ?_
                      refine lv_goto (tgt := 186) hx hb dX5_carries_182 (by decide) ?_
                      refine zcVw (ci := 5) (n := 4) (c_X5_holds l D g u M w (Int32.toNatClampNeg (M 7 (3 * p1 + 2))) (Int32.toNatClampNeg (M 7 (3 * p1 + 1))) 0 0 (by omega) (by omega)) hx hb hml hown hts gX5_carries_X5_holds rfl ⟨rfl, by decide, by decide, by decide⟩ ⟨Nat.le_of_ble_eq_true rfl, Nat.le_of_ble_eq_true rfl⟩ ⟨rfl, rfl⟩ hK hP hD rfl rfl rfl hS hl.1 rfl rfl (Nat.le_of_ble_eq_true rfl) ⟨Nat.zero_le _, Nat.zero_le _⟩ dX5_carries_186 (fun H1 locs hP1 hk1 hS => ?_)
                      have hD := zD_addr (ws' := zB_X5 (g 0) u (v_X5_holds M (Int32.toNatClampNeg (M 7 (3 * p1 + 2))) (Int32.toNatClampNeg (M 7 (3 * p1 + 1))) 0 0) w) hD (by simp only [zF, List.flatten_cons, List.flatten_nil, List.append_nil, List.map_append, List.map_cons, List.map_nil, zad_X0, zad_X1, zad_X2, zad_X3, zad_X4, zad_X5]); have hP := hP1
                      clear hP1 hk1
                      have hP : va_P D vwCl (zB_X5 (g 0) u (v_X5_holds M (Int32.toNatClampNeg (M 7 (3 * p1 + 2))) (Int32.toNatClampNeg (M 7 (3 * p1 + 1))) 0 0) w) H1 := hP
                      have hD : va_D (zA (zB_X5 (g 0) u M w)) (zB_X5 (g 0) u (v_X5_holds M (Int32.toNatClampNeg (M 7 (3 * p1 + 2))) (Int32.toNatClampNeg (M 7 (3 * p1 + 1))) 0 0) w) := hD
                      refine lv_iload hx hb dX5_carries_189 (lv_at hl 0 rfl) ?_
                      exact zretw_z (q' := true) hx hb hr hlocks dX5_carries_191 hP hS (by with_reducible exact congrArg (fun z9 => z9.1) hq) (by with_reducible exact congrArg (fun z9 => zB_X5 (g 0) u z9.2 w) hq)
                  · have c_50 : (M 7 (3 * p1)) = 105 := c_50
                    have hq := hq.trans (if_pos c_50)
                    refine lv_iconst (v := 1) hx hb dX5_carries_170 (by decide) ?_
                    refine lv_goto (tgt := 175) hx hb dX5_carries_171 (by decide) ?_
                    refine lv_iload_n hx hb dX5_carries_175 rfl (lv_at hl 3 rfl) ?_
                    refine lv_bipush (v := 105) hx hb dX5_carries_176 (by decide) ?_
                    refine lv_icmp_ne (tgt := 185) hx hb dX5_carries_178 (by decide) (fun c_54 => ?_) (fun c_54 => ?_)
                    · have c_54 : ¬ ((M 7 (3 * p1)) = 105) := c_54
                      have hq := hq.trans (if_neg c_54)
                      refine lv_iconst (v := 1) hx hb dX5_carries_185 (by decide) ?_
                      refine zcVw (ci := 5) (n := 4) (c_X5_holds l D g u M w (Int32.toNatClampNeg (M 7 (3 * p1 + 2))) (Int32.toNatClampNeg (M 7 (3 * p1 + 1))) 1 1 (by omega) (by omega)) hx hb hml hown hts gX5_carries_X5_holds rfl ⟨rfl, by decide, by decide, by decide⟩ ⟨Nat.le_of_ble_eq_true rfl, Nat.le_of_ble_eq_true rfl⟩ ⟨rfl, rfl⟩ hK hP hD rfl rfl rfl hS hl.1 rfl rfl (Nat.le_of_ble_eq_true rfl) ⟨Nat.zero_le _, Nat.zero_le _⟩ dX5_carries_186 (fun H1 locs hP1 hk1 hS => ?_)
                      have hD := zD_addr (ws' := zB_X5 (g 0) u (v_X5_holds M (Int32.toNatClampNeg (M 7 (3 * p1 + 2))) (Int32.toNatClampNeg (M 7 (3 * p1 + 1))) 1 1) w) hD (by simp only [zF, List.flatten_cons, List.flatten_nil, List.append_nil, List.map_append, List.map_cons, List.map_nil, zad_X0, zad_X1, zad_X2, zad_X3, zad_X4, zad_X5]); have hP := hP1
                      clear hP1 hk1
                      have hP : va_P D vwCl (zB_X5 (g 0) u (v_X5_holds M (Int32.toNatClampNeg (M 7 (3 * p1 + 2))) (Int32.toNatClampNeg (M 7 (3 * p1 + 1))) 1 1) w) H1 := hP
                      have hD : va_D (zA (zB_X5 (g 0) u M w)) (zB_X5 (g 0) u (v_X5_holds M (Int32.toNatClampNeg (M 7 (3 * p1 + 2))) (Int32.toNatClampNeg (M 7 (3 * p1 + 1))) 1 1) w) := hD
                      refine lv_iload hx hb dX5_carries_189 (lv_at hl 0 rfl) ?_
                      exact zretw_z (q' := true) hx hb hr hlocks dX5_carries_191 hP hS (by with_reducible exact congrArg (fun z9 => z9.1) hq) (by with_reducible exact congrArg (fun z9 => zB_X5 (g 0) u z9.2 w) hq)
                    · have c_54 : (M 7 (3 * p1)) = 105 := c_54
                      have hq := hq.trans (if_pos c_54)
                      refine lv_iconst (v := 0) hx hb dX5_carries_181 (by decide) ?_
                      refine lv_goto (tgt := 186) hx hb dX5_carries_182 (by decide) ?_
                      refine zcVw (ci := 5) (n := 4) (c_X5_holds l D g u M w (Int32.toNatClampNeg (M 7 (3 * p1 + 2))) (Int32.toNatClampNeg (M 7 (3 * p1 + 1))) 1 0 (by omega) (by omega)) hx hb hml hown hts gX5_carries_X5_holds rfl ⟨rfl, by decide, by decide, by decide⟩ ⟨Nat.le_of_ble_eq_true rfl, Nat.le_of_ble_eq_true rfl⟩ ⟨rfl, rfl⟩ hK hP hD rfl rfl rfl hS hl.1 rfl rfl (Nat.le_of_ble_eq_true rfl) ⟨Nat.zero_le _, Nat.zero_le _⟩ dX5_carries_186 (fun H1 locs hP1 hk1 hS => ?_)
                      have hD := zD_addr (ws' := zB_X5 (g 0) u (v_X5_holds M (Int32.toNatClampNeg (M 7 (3 * p1 + 2))) (Int32.toNatClampNeg (M 7 (3 * p1 + 1))) 1 0) w) hD (by simp only [zF, List.flatten_cons, List.flatten_nil, List.append_nil, List.map_append, List.map_cons, List.map_nil, zad_X0, zad_X1, zad_X2, zad_X3, zad_X4, zad_X5]); have hP := hP1
                      clear hP1 hk1
                      have hP : va_P D vwCl (zB_X5 (g 0) u (v_X5_holds M (Int32.toNatClampNeg (M 7 (3 * p1 + 2))) (Int32.toNatClampNeg (M 7 (3 * p1 + 1))) 1 0) w) H1 := hP
                      have hD : va_D (zA (zB_X5 (g 0) u M w)) (zB_X5 (g 0) u (v_X5_holds M (Int32.toNatClampNeg (M 7 (3 * p1 + 2))) (Int32.toNatClampNeg (M 7 (3 * p1 + 1))) 1 0) w) := hD
                      refine lv_iload hx hb dX5_carries_189 (lv_at hl 0 rfl) ?_
                      exact zretw_z (q' := true) hx hb hr hlocks dX5_carries_191 hP hS (by with_reducible exact congrArg (fun z9 => z9.1) hq) (by with_reducible exact congrArg (fun z9 => zB_X5 (g 0) u z9.2 w) hq)
                · have c_47 : (M 7 (3 * p1)) = 45 := c_47
                  have hq := hq.trans (if_pos c_47)
                  refine lv_aload_n hx hb dX5_carries_145 rfl (lv_at hl 4 rfl) ?_
                  refine lv_iload_n hx hb dX5_carries_146 rfl (lv_at hl 2 rfl) ?_
                  refine lv_iload hx hb dX5_carries_147 (lv_at hl 1 rfl) ?_
                  refine zcVw (ci := 5) (n := 2) (c_X5_setShare l D g u M w (Int32.toNatClampNeg (M 7 (3 * p1 + 1))) (Int32.toNatClampNeg (M 7 (3 * p1 + 2))) (by omega) z0 (by omega) (by first | exact zroom (by omega) z0 (by omega) (Or.inl (by with_reducible assumption)) | exact zroom (by omega) z0 (by omega) (Or.inr (by with_reducible assumption)) | (exfalso; contradiction))) hx hb hml hown hts gX5_carries_X5_setShare rfl ⟨rfl, by decide, by decide, by decide⟩ ⟨Nat.le_of_ble_eq_true rfl, Nat.le_of_ble_eq_true rfl⟩ ⟨rfl, rfl⟩ hK hP hD rfl rfl rfl hS hl.1 rfl rfl (Nat.le_of_ble_eq_true rfl) ⟨Nat.zero_le _, Nat.zero_le _⟩ dX5_carries_149 (fun H1 locs hP1 hk1 hS => ?_)
                  have hD := zD_addr (ws' := zB_X5 (g 0) u (v_X5_setShare M (Int32.toNatClampNeg (M 7 (3 * p1 + 1))) (Int32.toNatClampNeg (M 7 (3 * p1 + 2)))) w) hD (by simp only [zF, List.flatten_cons, List.flatten_nil, List.append_nil, List.map_append, List.map_cons, List.map_nil, zad_X0, zad_X1, zad_X2, zad_X3, zad_X4, zad_X5]); have hP := hP1
                  clear hP1 hk1
                  have hP : va_P D vwCl (zB_X5 (g 0) u (v_X5_setShare M (Int32.toNatClampNeg (M 7 (3 * p1 + 1))) (Int32.toNatClampNeg (M 7 (3 * p1 + 2)))) w) H1 := hP
                  have hD : va_D (zA (zB_X5 (g 0) u M w)) (zB_X5 (g 0) u (v_X5_setShare M (Int32.toNatClampNeg (M 7 (3 * p1 + 1))) (Int32.toNatClampNeg (M 7 (3 * p1 + 2)))) w) := hD
                  refine lv_goto (tgt := 189) hx hb dX5_carries_152 (by decide) ?_
                  refine lv_iload hx hb dX5_carries_189 (lv_at hl 0 rfl) ?_
                  exact zretw_z (q' := true) hx hb hr hlocks dX5_carries_191 hP hS (by with_reducible exact congrArg (fun z9 => z9.1) hq) (by with_reducible exact congrArg (fun z9 => zB_X5 (g 0) u z9.2 w) hq)
            · have c_42 : (M 7 (3 * p1)) = 120 := c_42
              have hq := hq.trans (if_pos c_42)
              refine lv_aload_n hx hb dX5_carries_120 rfl (lv_at hl 4 rfl) ?_
              refine lv_iload_n hx hb dX5_carries_121 rfl (lv_at hl 2 rfl) ?_
              refine zcVw (ci := 5) (n := 1) (c_X5_ends l D g u M w (Int32.toNatClampNeg (M 7 (3 * p1 + 1))) (by omega) z0) hx hb hml hown hts gX5_carries_X5_ends rfl ⟨rfl, by decide, by decide, by decide⟩ ⟨Nat.le_of_ble_eq_true rfl, Nat.le_of_ble_eq_true rfl⟩ ⟨rfl, rfl⟩ hK hP hD rfl rfl rfl hS hl.1 rfl rfl (Nat.le_of_ble_eq_true rfl) ⟨Nat.zero_le _, Nat.zero_le _⟩ dX5_carries_122 (fun H1 locs hP1 hk1 hS => ?_)
              have hD := zD_addr (ws' := zB_X5 (g 0) u (v_X5_ends M (Int32.toNatClampNeg (M 7 (3 * p1 + 1)))) w) hD (by simp only [zF, List.flatten_cons, List.flatten_nil, List.append_nil, List.map_append, List.map_cons, List.map_nil, zad_X0, zad_X1, zad_X2, zad_X3, zad_X4, zad_X5]); have hP := hP1
              clear hP1 hk1
              have hP : va_P D vwCl (zB_X5 (g 0) u (v_X5_ends M (Int32.toNatClampNeg (M 7 (3 * p1 + 1)))) w) H1 := hP
              have hD : va_D (zA (zB_X5 (g 0) u M w)) (zB_X5 (g 0) u (v_X5_ends M (Int32.toNatClampNeg (M 7 (3 * p1 + 1)))) w) := hD
              refine lv_goto (tgt := 189) hx hb dX5_carries_125 (by decide) ?_
              refine lv_iload hx hb dX5_carries_189 (lv_at hl 0 rfl) ?_
              exact zretw_z (q' := true) hx hb hr hlocks dX5_carries_191 hP hS (by with_reducible exact congrArg (fun z9 => z9.1) hq) (by with_reducible exact congrArg (fun z9 => zB_X5 (g 0) u z9.2 w) hq)
      · have c_7 : (M 7 (3 * p1)) = 43 := c_7
        have hq := hq.trans (if_pos c_7)
        have w_60 := znat (zmb (by with_reducible assumption) (zI_B z0))
        have w_60b := w_60.2
        have hl : lv_has ls 6 [(4, .int (M 7 (3 * p1 + 2))), (3, .int (nI (Int32.toNatClampNeg (M 7 (3 * p1 + 1))))), (2, .int (M 7 (3 * p1))), (0, .ref (u 0)), (1, .int (nI p1))] := by rw [← w_60.1]; exact hl
        have w_61 := znat (z3 (Or.inl (by with_reducible assumption)))
        have w_61b := w_61.2
        have hl : lv_has ls 6 [(4, .int (nI (Int32.toNatClampNeg (M 7 (3 * p1 + 2))))), (3, .int (nI (Int32.toNatClampNeg (M 7 (3 * p1 + 1))))), (2, .int (M 7 (3 * p1))), (0, .ref (u 0)), (1, .int (nI p1))] := by rw [← w_61.1]; exact hl
        refine lv_aload_n hx hb dX5_carries_62 rfl (lv_at hl 3 rfl) ?_
        refine lv_iload_n hx hb dX5_carries_63 rfl (lv_at hl 1 rfl) ?_
        refine lv_iload hx hb dX5_carries_64 (lv_at hl 0 rfl) ?_
        refine zcV (ci := 5) (n := 2) (c_X5_canRaise l D g u M w (Int32.toNatClampNeg (M 7 (3 * p1 + 1))) (nI (Int32.toNatClampNeg (M 7 (3 * p1 + 2)))) (by omega) (zI_G z0)) hx hb hml hown hts gX5_carries_X5_canRaise rfl ⟨rfl, by decide, by decide, by decide⟩ ⟨Nat.le_of_ble_eq_true rfl, Nat.le_of_ble_eq_true rfl⟩ ⟨rfl, rfl⟩ hK hP rfl rfl rfl hl.1 rfl rfl (Nat.le_of_ble_eq_true rfl) ⟨Nat.zero_le _, Nat.zero_le _⟩ dX5_carries_66 ?_
        refine zif_eq (tgt := 106) hx hb dX5_carries_69 (by decide) (fun c_63 => ?_) (fun c_63 => ?_)
        · have hq := hq.trans (zif_f c_63)
          refine lv_iconst (v := 0) hx hb dX5_carries_106 (by decide) ?_
          refine lv_istore (lv' := [(5, .int 0), (4, .int (nI (Int32.toNatClampNeg (M 7 (3 * p1 + 2))))), (3, .int (nI (Int32.toNatClampNeg (M 7 (3 * p1 + 1))))), (2, .int (M 7 (3 * p1))), (0, .ref (u 0)), (1, .int (nI p1))]) hx hb dX5_carries_107 hl (by decide) rfl (fun ls hl => ?_)
          refine lv_iload hx hb dX5_carries_109 (lv_at hl 0 rfl) ?_
          refine lv_if_eq (tgt := 128) hx hb dX5_carries_111 (by decide) (fun c_64 => ?_) (fun c_64 => ?_)
          rotate_left
          · exact absurd c_64 (by decide)
          refine lv_iload hx hb dX5_carries_128 (lv_at hl 0 rfl) ?_
          refine lv_if_eq (tgt := 155) hx hb dX5_carries_130 (by decide) (fun c_65 => ?_) (fun c_65 => ?_)
          rotate_left
          · exact absurd c_65 (by decide)
          refine lv_iload hx hb dX5_carries_155 (lv_at hl 0 rfl) ?_
          refine lv_if_eq (tgt := 189) hx hb dX5_carries_157 (by decide) (fun c_66 => ?_) (fun c_66 => ?_)
          rotate_left
          · exact absurd c_66 (by decide)
          refine lv_iload hx hb dX5_carries_189 (lv_at hl 0 rfl) ?_
          exact zretw_z (q' := false) hx hb hr hlocks dX5_carries_191 hP hS (by with_reducible exact congrArg (fun z9 => z9.1) hq) (by with_reducible exact congrArg (fun z9 => zB_X5 (g 0) u z9.2 w) hq)
        · have hq := hq.trans (zif_t c_63)
          refine lv_goto (tgt := 102) hx hb dX5_carries_72 (by decide) ?_
          refine lv_iconst (v := 1) hx hb dX5_carries_102 (by decide) ?_
          refine lv_goto (tgt := 107) hx hb dX5_carries_103 (by decide) ?_
          refine lv_istore (lv' := [(5, .int 1), (4, .int (nI (Int32.toNatClampNeg (M 7 (3 * p1 + 2))))), (3, .int (nI (Int32.toNatClampNeg (M 7 (3 * p1 + 1))))), (2, .int (M 7 (3 * p1))), (0, .ref (u 0)), (1, .int (nI p1))]) hx hb dX5_carries_107 hl (by decide) rfl (fun ls hl => ?_)
          refine lv_iload hx hb dX5_carries_109 (lv_at hl 0 rfl) ?_
          refine lv_if_eq (tgt := 128) hx hb dX5_carries_111 (by decide) (fun c_67 => ?_) (fun c_67 => ?_)
          · exact absurd c_67 (by decide)
          refine lv_iload_n hx hb dX5_carries_114 rfl (lv_at hl 3 rfl) ?_
          refine lv_bipush (v := 120) hx hb dX5_carries_115 (by decide) ?_
          refine lv_icmp_ne (tgt := 128) hx hb dX5_carries_117 (by decide) (fun c_68 => ?_) (fun c_68 => ?_)
          · have c_68 : ¬ ((M 7 (3 * p1)) = 120) := c_68
            have hq := hq.trans (if_neg c_68)
            refine lv_iload hx hb dX5_carries_128 (lv_at hl 0 rfl) ?_
            refine lv_if_eq (tgt := 155) hx hb dX5_carries_130 (by decide) (fun c_69 => ?_) (fun c_69 => ?_)
            · exact absurd c_69 (by decide)
            refine lv_iload_n hx hb dX5_carries_133 rfl (lv_at hl 3 rfl) ?_
            refine lv_bipush (v := 43) hx hb dX5_carries_134 (by decide) ?_
            refine lv_icmp_eq (tgt := 145) hx hb dX5_carries_136 (by decide) (fun c_70 => ?_) (fun c_70 => ?_)
            · have c_70 : (M 7 (3 * p1)) = 43 := c_70
              have hq := hq.trans (if_pos c_70)
              refine lv_aload_n hx hb dX5_carries_145 rfl (lv_at hl 4 rfl) ?_
              refine lv_iload_n hx hb dX5_carries_146 rfl (lv_at hl 2 rfl) ?_
              refine lv_iload hx hb dX5_carries_147 (lv_at hl 1 rfl) ?_
              refine zcVw (ci := 5) (n := 2) (c_X5_setShare l D g u M w (Int32.toNatClampNeg (M 7 (3 * p1 + 1))) (Int32.toNatClampNeg (M 7 (3 * p1 + 2))) (by omega) z0 (by omega) (by first | exact zroom (by omega) z0 (by omega) (Or.inl (by with_reducible assumption)) | exact zroom (by omega) z0 (by omega) (Or.inr (by with_reducible assumption)) | (exfalso; contradiction))) hx hb hml hown hts gX5_carries_X5_setShare rfl ⟨rfl, by decide, by decide, by decide⟩ ⟨Nat.le_of_ble_eq_true rfl, Nat.le_of_ble_eq_true rfl⟩ ⟨rfl, rfl⟩ hK hP hD rfl rfl rfl hS hl.1 rfl rfl (Nat.le_of_ble_eq_true rfl) ⟨Nat.zero_le _, Nat.zero_le _⟩ dX5_carries_149 (fun H1 locs hP1 hk1 hS => ?_)
              have hD := zD_addr (ws' := zB_X5 (g 0) u (v_X5_setShare M (Int32.toNatClampNeg (M 7 (3 * p1 + 1))) (Int32.toNatClampNeg (M 7 (3 * p1 + 2)))) w) hD (by simp only [zF, List.flatten_cons, List.flatten_nil, List.append_nil, List.map_append, List.map_cons, List.map_nil, zad_X0, zad_X1, zad_X2, zad_X3, zad_X4, zad_X5]); have hP := hP1
              clear hP1 hk1
              have hP : va_P D vwCl (zB_X5 (g 0) u (v_X5_setShare M (Int32.toNatClampNeg (M 7 (3 * p1 + 1))) (Int32.toNatClampNeg (M 7 (3 * p1 + 2)))) w) H1 := hP
              have hD : va_D (zA (zB_X5 (g 0) u M w)) (zB_X5 (g 0) u (v_X5_setShare M (Int32.toNatClampNeg (M 7 (3 * p1 + 1))) (Int32.toNatClampNeg (M 7 (3 * p1 + 2)))) w) := hD
              refine lv_goto (tgt := 189) hx hb dX5_carries_152 (by decide) ?_
              refine lv_iload hx hb dX5_carries_189 (lv_at hl 0 rfl) ?_
              exact zretw_z (q' := true) hx hb hr hlocks dX5_carries_191 hP hS (by with_reducible exact congrArg (fun z9 => z9.1) hq) (by with_reducible exact congrArg (fun z9 => zB_X5 (g 0) u z9.2 w) hq)
            · have c_70 : ¬ ((M 7 (3 * p1)) = 43) := c_70
              have hq := hq.trans (if_neg c_70)
              refine lv_iload_n hx hb dX5_carries_139 rfl (lv_at hl 3 rfl) ?_
              refine lv_bipush (v := 45) hx hb dX5_carries_140 (by decide) ?_
              refine lv_icmp_ne (tgt := 155) hx hb dX5_carries_142 (by decide) (fun c_73 => ?_) (fun c_73 => ?_)
              · have c_73 : ¬ ((M 7 (3 * p1)) = 45) := c_73
                have hq := hq.trans (if_neg c_73)
                refine lv_iload hx hb dX5_carries_155 (lv_at hl 0 rfl) ?_
                refine lv_if_eq (tgt := 189) hx hb dX5_carries_157 (by decide) (fun c_74 => ?_) (fun c_74 => ?_)
                · exact absurd c_74 (by decide)
                refine lv_aload_n hx hb dX5_carries_160 rfl (lv_at hl 4 rfl) ?_
                refine lv_iload hx hb dX5_carries_161 (lv_at hl 1 rfl) ?_
                refine lv_iload_n hx hb dX5_carries_163 rfl (lv_at hl 2 rfl) ?_
                refine lv_iload_n hx hb dX5_carries_164 rfl (lv_at hl 3 rfl) ?_
                refine lv_bipush (v := 105) hx hb dX5_carries_165 (by decide) ?_
                refine lv_icmp_ne (tgt := 174) hx hb dX5_carries_167 (by decide) (fun c_76 => ?_) (fun c_76 => ?_)
                · have c_76 : ¬ ((M 7 (3 * p1)) = 105) := c_76
                  have hq := hq.trans (if_neg c_76)
                  refine lv_iconst (v := 0) hx hb dX5_carries_174 (by decide) ?_
                  refine lv_iload_n hx hb dX5_carries_175 rfl (lv_at hl 3 rfl) ?_
                  refine lv_bipush (v := 105) hx hb dX5_carries_176 (by decide) ?_
                  refine lv_icmp_ne (tgt := 185) hx hb dX5_carries_178 (by decide) (fun c_77 => ?_) (fun c_77 => ?_)
                  · have c_77 : ¬ ((M 7 (3 * p1)) = 105) := c_77
                    have hq := hq.trans (if_neg c_77)
                    refine lv_iconst (v := 1) hx hb dX5_carries_185 (by decide) ?_
                    refine zcVw (ci := 5) (n := 4) (c_X5_holds l D g u M w (Int32.toNatClampNeg (M 7 (3 * p1 + 2))) (Int32.toNatClampNeg (M 7 (3 * p1 + 1))) 0 1 (by omega) (by omega)) hx hb hml hown hts gX5_carries_X5_holds rfl ⟨rfl, by decide, by decide, by decide⟩ ⟨Nat.le_of_ble_eq_true rfl, Nat.le_of_ble_eq_true rfl⟩ ⟨rfl, rfl⟩ hK hP hD rfl rfl rfl hS hl.1 rfl rfl (Nat.le_of_ble_eq_true rfl) ⟨Nat.zero_le _, Nat.zero_le _⟩ dX5_carries_186 (fun H1 locs hP1 hk1 hS => ?_)
                    have hD := zD_addr (ws' := zB_X5 (g 0) u (v_X5_holds M (Int32.toNatClampNeg (M 7 (3 * p1 + 2))) (Int32.toNatClampNeg (M 7 (3 * p1 + 1))) 0 1) w) hD (by simp only [zF, List.flatten_cons, List.flatten_nil, List.append_nil, List.map_append, List.map_cons, List.map_nil, zad_X0, zad_X1, zad_X2, zad_X3, zad_X4, zad_X5]); have hP := hP1
                    clear hP1 hk1
                    have hP : va_P D vwCl (zB_X5 (g 0) u (v_X5_holds M (Int32.toNatClampNeg (M 7 (3 * p1 + 2))) (Int32.toNatClampNeg (M 7 (3 * p1 + 1))) 0 1) w) H1 := hP
                    have hD : va_D (zA (zB_X5 (g 0) u M w)) (zB_X5 (g 0) u (v_X5_holds M (Int32.toNatClampNeg (M 7 (3 * p1 + 2))) (Int32.toNatClampNeg (M 7 (3 * p1 + 1))) 0 1) w) := hD
                    refine lv_iload hx hb dX5_carries_189 (lv_at hl 0 rfl) ?_
                    exact zretw_z (q' := true) hx hb hr hlocks dX5_carries_191 hP hS (by with_reducible exact congrArg (fun z9 => z9.1) hq) (by with_reducible exact congrArg (fun z9 => zB_X5 (g 0) u z9.2 w) hq)
                  · have c_77 : (M 7 (3 * p1)) = 105 := c_77
                    have hq := hq.trans (if_pos c_77)
                    refine lv_iconst (v := 0) hx hb dX5_carries_181 (by decide) ?_
                    refine lv_goto (tgt := 186) hx hb dX5_carries_182 (by decide) ?_
                    refine zcVw (ci := 5) (n := 4) (c_X5_holds l D g u M w (Int32.toNatClampNeg (M 7 (3 * p1 + 2))) (Int32.toNatClampNeg (M 7 (3 * p1 + 1))) 0 0 (by omega) (by omega)) hx hb hml hown hts gX5_carries_X5_holds rfl ⟨rfl, by decide, by decide, by decide⟩ ⟨Nat.le_of_ble_eq_true rfl, Nat.le_of_ble_eq_true rfl⟩ ⟨rfl, rfl⟩ hK hP hD rfl rfl rfl hS hl.1 rfl rfl (Nat.le_of_ble_eq_true rfl) ⟨Nat.zero_le _, Nat.zero_le _⟩ dX5_carries_186 (fun H1 locs hP1 hk1 hS => ?_)
                    have hD := zD_addr (ws' := zB_X5 (g 0) u (v_X5_holds M (Int32.toNatClampNeg (M 7 (3 * p1 + 2))) (Int32.toNatClampNeg (M 7 (3 * p1 + 1))) 0 0) w) hD (by simp only [zF, List.flatten_cons, List.flatten_nil, List.append_nil, List.map_append, List.map_cons, List.map_nil, zad_X0, zad_X1, zad_X2, zad_X3, zad_X4, zad_X5]); have hP := hP1
                    clear hP1 hk1
                    have hP : va_P D vwCl (zB_X5 (g 0) u (v_X5_holds M (Int32.toNatClampNeg (M 7 (3 * p1 + 2))) (Int32.toNatClampNeg (M 7 (3 * p1 + 1))) 0 0) w) H1 := hP
                    have hD : va_D (zA (zB_X5 (g 0) u M w)) (zB_X5 (g 0) u (v_X5_holds M (Int32.toNatClampNeg (M 7 (3 * p1 + 2))) (Int32.toNatClampNeg (M 7 (3 * p1 + 1))) 0 0) w) := hD
                    refine lv_iload hx hb dX5_carries_189 (lv_at hl 0 rfl) ?_
                    exact zretw_z (q' := true) hx hb hr hlocks dX5_carries_191 hP hS (by with_reducible exact congrArg (fun z9 => z9.1) hq) (by with_reducible exact congrArg (fun z9 => zB_X5 (g 0) u z9.2 w) hq)
                · have c_76 : (M 7 (3 * p1)) = 105 := c_76
                  have hq := hq.trans (if_pos c_76)
                  refine lv_iconst (v := 1) hx hb dX5_carries_170 (by decide) ?_
                  refine lv_goto (tgt := 175) hx hb dX5_carries_171 (by decide) ?_
                  refine lv_iload_n hx hb dX5_carries_175 rfl (lv_at hl 3 rfl) ?_
                  refine lv_bipush (v := 105) hx hb dX5_carries_176 (by decide) ?_
                  refine lv_icmp_ne (tgt := 185) hx hb dX5_carries_178 (by decide) (fun c_80 => ?_) (fun c_80 => ?_)
                  · have c_80 : ¬ ((M 7 (3 * p1)) = 105) := c_80
                    have hq := hq.trans (if_neg c_80)
                    refine lv_iconst (v := 1) hx hb dX5_carries_185 (by decide) ?_
                    refine zcVw (ci := 5) (n := 4) (c_X5_holds l D g u M w (Int32.toNatClampNeg (M 7 (3 * p1 + 2))) (Int32.toNatClampNeg (M 7 (3 * p1 + 1))) 1 1 (by omega) (by omega)) hx hb hml hown hts gX5_carries_X5_holds rfl ⟨rfl, by decide, by decide, by decide⟩ ⟨Nat.le_of_ble_eq_true rfl, Nat.le_of_ble_eq_true rfl⟩ ⟨rfl, rfl⟩ hK hP hD rfl rfl rfl hS hl.1 rfl rfl (Nat.le_of_ble_eq_true rfl) ⟨Nat.zero_le _, Nat.zero_le _⟩ dX5_carries_186 (fun H1 locs hP1 hk1 hS => ?_)
                    have hD := zD_addr (ws' := zB_X5 (g 0) u (v_X5_holds M (Int32.toNatClampNeg (M 7 (3 * p1 + 2))) (Int32.toNatClampNeg (M 7 (3 * p1 + 1))) 1 1) w) hD (by simp only [zF, List.flatten_cons, List.flatten_nil, List.append_nil, List.map_append, List.map_cons, List.map_nil, zad_X0, zad_X1, zad_X2, zad_X3, zad_X4, zad_X5]); have hP := hP1
                    clear hP1 hk1
                    have hP : va_P D vwCl (zB_X5 (g 0) u (v_X5_holds M (Int32.toNatClampNeg (M 7 (3 * p1 + 2))) (Int32.toNatClampNeg (M 7 (3 * p1 + 1))) 1 1) w) H1 := hP
                    have hD : va_D (zA (zB_X5 (g 0) u M w)) (zB_X5 (g 0) u (v_X5_holds M (Int32.toNatClampNeg (M 7 (3 * p1 + 2))) (Int32.toNatClampNeg (M 7 (3 * p1 + 1))) 1 1) w) := hD
                    refine lv_iload hx hb dX5_carries_189 (lv_at hl 0 rfl) ?_
                    exact zretw_z (q' := true) hx hb hr hlocks dX5_carries_191 hP hS (by with_reducible exact congrArg (fun z9 => z9.1) hq) (by with_reducible exact congrArg (fun z9 => zB_X5 (g 0) u z9.2 w) hq)
                  · have c_80 : (M 7 (3 * p1)) = 105 := c_80
                    have hq := hq.trans (if_pos c_80)
                    refine lv_iconst (v := 0) hx hb dX5_carries_181 (by decide) ?_
                    refine lv_goto (tgt := 186) hx hb dX5_carries_182 (by decide) ?_
                    refine zcVw (ci := 5) (n := 4) (c_X5_holds l D g u M w (Int32.toNatClampNeg (M 7 (3 * p1 + 2))) (Int32.toNatClampNeg (M 7 (3 * p1 + 1))) 1 0 (by omega) (by omega)) hx hb hml hown hts gX5_carries_X5_holds rfl ⟨rfl, by decide, by decide, by decide⟩ ⟨Nat.le_of_ble_eq_true rfl, Nat.le_of_ble_eq_true rfl⟩ ⟨rfl, rfl⟩ hK hP hD rfl rfl rfl hS hl.1 rfl rfl (Nat.le_of_ble_eq_true rfl) ⟨Nat.zero_le _, Nat.zero_le _⟩ dX5_carries_186 (fun H1 locs hP1 hk1 hS => ?_)
                    have hD := zD_addr (ws' := zB_X5 (g 0) u (v_X5_holds M (Int32.toNatClampNeg (M 7 (3 * p1 + 2))) (Int32.toNatClampNeg (M 7 (3 * p1 + 1))) 1 0) w) hD (by simp only [zF, List.flatten_cons, List.flatten_nil, List.append_nil, List.map_append, List.map_cons, List.map_nil, zad_X0, zad_X1, zad_X2, zad_X3, zad_X4, zad_X5]); have hP := hP1
                    clear hP1 hk1
                    have hP : va_P D vwCl (zB_X5 (g 0) u (v_X5_holds M (Int32.toNatClampNeg (M 7 (3 * p1 + 2))) (Int32.toNatClampNeg (M 7 (3 * p1 + 1))) 1 0) w) H1 := hP
                    have hD : va_D (zA (zB_X5 (g 0) u M w)) (zB_X5 (g 0) u (v_X5_holds M (Int32.toNatClampNeg (M 7 (3 * p1 + 2))) (Int32.toNatClampNeg (M 7 (3 * p1 + 1))) 1 0) w) := hD
                    refine lv_iload hx hb dX5_carries_189 (lv_at hl 0 rfl) ?_
                    exact zretw_z (q' := true) hx hb hr hlocks dX5_carries_191 hP hS (by with_reducible exact congrArg (fun z9 => z9.1) hq) (by with_reducible exact congrArg (fun z9 => zB_X5 (g 0) u z9.2 w) hq)
              · have c_73 : (M 7 (3 * p1)) = 45 := c_73
                have hq := hq.trans (if_pos c_73)
                refine lv_aload_n hx hb dX5_carries_145 rfl (lv_at hl 4 rfl) ?_
                refine lv_iload_n hx hb dX5_carries_146 rfl (lv_at hl 2 rfl) ?_
                refine lv_iload hx hb dX5_carries_147 (lv_at hl 1 rfl) ?_
                refine zcVw (ci := 5) (n := 2) (c_X5_setShare l D g u M w (Int32.toNatClampNeg (M 7 (3 * p1 + 1))) (Int32.toNatClampNeg (M 7 (3 * p1 + 2))) (by omega) z0 (by omega) (by first | exact zroom (by omega) z0 (by omega) (Or.inl (by with_reducible assumption)) | exact zroom (by omega) z0 (by omega) (Or.inr (by with_reducible assumption)) | (exfalso; contradiction))) hx hb hml hown hts gX5_carries_X5_setShare rfl ⟨rfl, by decide, by decide, by decide⟩ ⟨Nat.le_of_ble_eq_true rfl, Nat.le_of_ble_eq_true rfl⟩ ⟨rfl, rfl⟩ hK hP hD rfl rfl rfl hS hl.1 rfl rfl (Nat.le_of_ble_eq_true rfl) ⟨Nat.zero_le _, Nat.zero_le _⟩ dX5_carries_149 (fun H1 locs hP1 hk1 hS => ?_)
                have hD := zD_addr (ws' := zB_X5 (g 0) u (v_X5_setShare M (Int32.toNatClampNeg (M 7 (3 * p1 + 1))) (Int32.toNatClampNeg (M 7 (3 * p1 + 2)))) w) hD (by simp only [zF, List.flatten_cons, List.flatten_nil, List.append_nil, List.map_append, List.map_cons, List.map_nil, zad_X0, zad_X1, zad_X2, zad_X3, zad_X4, zad_X5]); have hP := hP1
                clear hP1 hk1
                have hP : va_P D vwCl (zB_X5 (g 0) u (v_X5_setShare M (Int32.toNatClampNeg (M 7 (3 * p1 + 1))) (Int32.toNatClampNeg (M 7 (3 * p1 + 2)))) w) H1 := hP
                have hD : va_D (zA (zB_X5 (g 0) u M w)) (zB_X5 (g 0) u (v_X5_setShare M (Int32.toNatClampNeg (M 7 (3 * p1 + 1))) (Int32.toNatClampNeg (M 7 (3 * p1 + 2)))) w) := hD
                refine lv_goto (tgt := 189) hx hb dX5_carries_152 (by decide) ?_
                refine lv_iload hx hb dX5_carries_189 (lv_at hl 0 rfl) ?_
                exact zretw_z (q' := true) hx hb hr hlocks dX5_carries_191 hP hS (by with_reducible exact congrArg (fun z9 => z9.1) hq) (by with_reducible exact congrArg (fun z9 => zB_X5 (g 0) u z9.2 w) hq)
          · have c_68 : (M 7 (3 * p1)) = 120 := c_68
            have hq := hq.trans (if_pos c_68)
            refine lv_aload_n hx hb dX5_carries_120 rfl (lv_at hl 4 rfl) ?_
            refine lv_iload_n hx hb dX5_carries_121 rfl (lv_at hl 2 rfl) ?_
            refine zcVw (ci := 5) (n := 1) (c_X5_ends l D g u M w (Int32.toNatClampNeg (M 7 (3 * p1 + 1))) (by omega) z0) hx hb hml hown hts gX5_carries_X5_ends rfl ⟨rfl, by decide, by decide, by decide⟩ ⟨Nat.le_of_ble_eq_true rfl, Nat.le_of_ble_eq_true rfl⟩ ⟨rfl, rfl⟩ hK hP hD rfl rfl rfl hS hl.1 rfl rfl (Nat.le_of_ble_eq_true rfl) ⟨Nat.zero_le _, Nat.zero_le _⟩ dX5_carries_122 (fun H1 locs hP1 hk1 hS => ?_)
            have hD := zD_addr (ws' := zB_X5 (g 0) u (v_X5_ends M (Int32.toNatClampNeg (M 7 (3 * p1 + 1)))) w) hD (by simp only [zF, List.flatten_cons, List.flatten_nil, List.append_nil, List.map_append, List.map_cons, List.map_nil, zad_X0, zad_X1, zad_X2, zad_X3, zad_X4, zad_X5]); have hP := hP1
            clear hP1 hk1
            have hP : va_P D vwCl (zB_X5 (g 0) u (v_X5_ends M (Int32.toNatClampNeg (M 7 (3 * p1 + 1)))) w) H1 := hP
            have hD : va_D (zA (zB_X5 (g 0) u M w)) (zB_X5 (g 0) u (v_X5_ends M (Int32.toNatClampNeg (M 7 (3 * p1 + 1)))) w) := hD
            refine lv_goto (tgt := 189) hx hb dX5_carries_125 (by decide) ?_
            refine lv_iload hx hb dX5_carries_189 (lv_at hl 0 rfl) ?_
            exact zretw_z (q' := true) hx hb hr hlocks dX5_carries_191 hP hS (by with_reducible exact congrArg (fun z9 => z9.1) hq) (by with_reducible exact congrArg (fun z9 => zB_X5 (g 0) u z9.2 w) hq)
  · have c_1 : (M 7 (3 * p1)) = 100 := c_1
    have hq := hq.trans (if_pos c_1)
    have w_86 := znat (z2 (by with_reducible assumption))
    have w_86b := w_86.2
    have hl : lv_has ls 6 [(4, .int (nI (Int32.toNatClampNeg (M 7 (3 * p1 + 2))))), (3, .int (M 7 (3 * p1 + 1))), (2, .int (M 7 (3 * p1))), (0, .ref (u 0)), (1, .int (nI p1))] := by rw [← w_86.1]; exact hl
    refine lv_aload_n hx hb dX5_carries_38 rfl (lv_at hl 3 rfl) ?_
    refine lv_iload hx hb dX5_carries_39 (lv_at hl 0 rfl) ?_
    refine zcVw (ci := 5) (n := 1) (c_X5_passes l D g u M w (Int32.toNatClampNeg (M 7 (3 * p1 + 2))) z0 (by omega)) hx hb hml hown hts gX5_carries_X5_passes rfl ⟨rfl, by decide, by decide, by decide⟩ ⟨Nat.le_of_ble_eq_true rfl, Nat.le_of_ble_eq_true rfl⟩ ⟨rfl, rfl⟩ hK hP hD rfl rfl rfl hS hl.1 rfl rfl (Nat.le_of_ble_eq_true rfl) ⟨Nat.zero_le _, Nat.zero_le _⟩ dX5_carries_41 (fun H1 locs hP1 hk1 hS => ?_)
    have hD := zD_addr (ws' := zB_X5 (g 0) u ((v_X5_passes M (Int32.toNatClampNeg (M 7 (3 * p1 + 2)))).2) w) hD (by simp only [zF, List.flatten_cons, List.flatten_nil, List.append_nil, List.map_append, List.map_cons, List.map_nil, zad_X0, zad_X1, zad_X2, zad_X3, zad_X4, zad_X5]); have hP := hP1
    clear hP1 hk1
    have hP : va_P D vwCl (zB_X5 (g 0) u ((v_X5_passes M (Int32.toNatClampNeg (M 7 (3 * p1 + 2)))).2) w) H1 := hP
    have hD : va_D (zA (zB_X5 (g 0) u M w)) (zB_X5 (g 0) u ((v_X5_passes M (Int32.toNatClampNeg (M 7 (3 * p1 + 2)))).2) w) := hD
    refine lv_istore (lv' := [(5, .int ((v_X5_passes M (Int32.toNatClampNeg (M 7 (3 * p1 + 2)))).1)), (4, .int (nI (Int32.toNatClampNeg (M 7 (3 * p1 + 2))))), (3, .int (M 7 (3 * p1 + 1))), (2, .int (M 7 (3 * p1))), (0, .ref (u 0)), (1, .int (nI p1))]) hx hb dX5_carries_44 hl (by decide) rfl (fun ls hl => ?_)
    refine lv_iconst (v := 1) hx hb dX5_carries_46 (by decide) ?_
    exact zretw_z (q' := true) hx hb hr hlocks dX5_carries_47 hP hS (by with_reducible exact congrArg (fun z9 => z9.1) hq) (by with_reducible exact congrArg (fun z9 => zB_X5 (g 0) u z9.2 w) hq)
