def v_L_eats (I : Nat → Nat → Int32) (Q : Nat → Nat → Int64) (pe : Nat) (b : Nat) : Int32 := (if (I 1 (6 * b)) = 0 then 0 else (if (v_L_has_2 Q 3 b pe) = true then 0 else (if (v_L_has_1 Q 3 b pe) = true then 1 else (if 0 ≤ (I 1 (6 * b + 1)) then (if (v_L_has_0 Q 2 b (v_L_bucket pe (I 0 (4 + (Int32.toNatClampNeg (I 1 (6 * b + 1))))))) = true then 3 else (if (I 1 (6 * b + 4)) = 1 then (if (v_L_has_3 Q 3 b pe) = true then 2 else 0) else 0)) else (if (v_L_has_0 Q 2 b (v_L_bucket pe (I 1 (6 * b + 2)))) = true then 3 else (if (I 1 (6 * b + 4)) = 1 then (if (v_L_has_3 Q 3 b pe) = true then 2 else 0) else 0))))))
set_option maxHeartbeats 400000 in
set_option maxRecDepth 100000 in
theorem c_L_eats (l : Launch) (D : va_G) (g : Nat → ClassId) (yi : Nat → Nat) (yq : Nat → Nat) (I : Nat → Nat → Int32) (Q : Nat → Nat → Int64) (pe : Nat) (b : Nat) (z0 : pe < 150) (z1 : b < 5) (z2 : zgr (I 1 (6 * b + 1))) : Rd l D (zT g) yL_eats wsL_eats (rmOf 1 23) [.ref (yi 1), .ref (yi 2), .ref (yq 1), .ref (yq 2), .ref (yq 3), .ref (yq 4), .int (nI pe), .int (nI b)] ((zB_LI (g 0) yi I) ++ (zB_LQ (g 2) yq Q)) (.int (v_L_eats I Q pe b)) := by
  refine Rd.of (cc := cL_eats) (maxL := 9) (ret := (some .int)) (by decide) rfl (Nat.le_of_ble_eq_true rfl) ?_
  intro p e s m below meth c ls hx hb hr hml hown hts hlocks hP hK hl
  have hown : s.vm.findClass RL = some m.cls := hown
  obtain ⟨q, hq⟩ : ∃ q : Int32, q = v_L_eats I Q pe b := ⟨_, rfl⟩
  rw [← hq]
  unfold v_L_eats at hq
  have hl : lv_has ls 9 [(0, .ref (yi 1)), (1, .ref (yi 2)), (2, .ref (yq 1)), (3, .ref (yq 2)), (4, .ref (yq 3)), (5, .ref (yq 4)), (6, .int (nI pe)), (7, .int (nI b))] := hl
  refine lv_aload_n hx hb dL_eats_0 rfl (lv_at hl 1 rfl) ?_
  refine lv_bipush (v := 6) hx hb dL_eats_1 (by decide) ?_
  refine lv_iload hx hb dL_eats_3 (lv_at hl 7 rfl) ?_
  refine lv_imul hx hb dL_eats_5 ?_
  refine lv_is (show (6 : Int32) * (nI b) = (nI (6 * b)) from pk_mul 6 b) ?_
  refine z_iald (i := 6 * b) hx hb hK hP 1 0 rfl rfl (by omega) (by decide) dL_eats_6 ?_
  refine lv_if_eq (tgt := 23) hx hb dL_eats_7 (by decide) (fun c_1 => ?_) (fun c_1 => ?_)
  · have c_1 : (I 1 (6 * b)) = 0 := c_1
    have hq := hq.trans (if_pos c_1)
    refine lv_iconst (v := 0) hx hb dL_eats_23 (by decide) ?_
    exact zret_i hx hb hr hlocks dL_eats_24 hq
  · have c_1 : ¬ ((I 1 (6 * b)) = 0) := c_1
    have hq := hq.trans (if_neg c_1)
    refine lv_aload hx hb dL_eats_10 (lv_at hl 4 rfl) ?_
    refine lv_iconst (v := 3) hx hb dL_eats_12 (by decide) ?_
    refine lv_iload hx hb dL_eats_13 (lv_at hl 7 rfl) ?_
    refine lv_iload hx hb dL_eats_15 (lv_at hl 6 rfl) ?_
    refine zcSO (n := 4) (c_L_has_2 l D g yq Q 3 b pe (by omega) (by omega)) hx hb hml hown hts gL_eats_L_has rfl ⟨by decide, by decide, by decide⟩ ⟨Nat.le_of_ble_eq_true rfl, Nat.le_of_ble_eq_true rfl⟩ ⟨rfl, rfl⟩ hK (hP.sub [2, 3, 4, 5] rfl) hl.1 rfl rfl (Nat.le_of_ble_eq_true rfl) ⟨Nat.zero_le _, Nat.zero_le _⟩ dL_eats_17 ?_
    refine zif_eq (tgt := 25) hx hb dL_eats_20 (by decide) (fun c_3 => ?_) (fun c_3 => ?_)
    · have hq := hq.trans (zif_f c_3)
      refine lv_aload_n hx hb dL_eats_25 rfl (lv_at hl 3 rfl) ?_
      refine lv_iconst (v := 3) hx hb dL_eats_26 (by decide) ?_
      refine lv_iload hx hb dL_eats_27 (lv_at hl 7 rfl) ?_
      refine lv_iload hx hb dL_eats_29 (lv_at hl 6 rfl) ?_
      refine zcSO (n := 4) (c_L_has_1 l D g yq Q 3 b pe (by omega) (by omega)) hx hb hml hown hts gL_eats_L_has rfl ⟨by decide, by decide, by decide⟩ ⟨Nat.le_of_ble_eq_true rfl, Nat.le_of_ble_eq_true rfl⟩ ⟨rfl, rfl⟩ hK (hP.sub [2, 3, 4, 5] rfl) hl.1 rfl rfl (Nat.le_of_ble_eq_true rfl) ⟨Nat.zero_le _, Nat.zero_le _⟩ dL_eats_31 ?_
      refine zif_eq (tgt := 39) hx hb dL_eats_34 (by decide) (fun c_5 => ?_) (fun c_5 => ?_)
      · have hq := hq.trans (zif_f c_5)
        refine lv_aload_n hx hb dL_eats_39 rfl (lv_at hl 1 rfl) ?_
        refine lv_bipush (v := 6) hx hb dL_eats_40 (by decide) ?_
        refine lv_iload hx hb dL_eats_42 (lv_at hl 7 rfl) ?_
        refine lv_imul hx hb dL_eats_44 ?_
        refine lv_is (show (6 : Int32) * (nI b) = (nI (6 * b)) from pk_mul 6 b) ?_
        refine lv_iconst (v := 1) hx hb dL_eats_45 (by decide) ?_
        refine lv_iadd hx hb dL_eats_46 ?_
        refine lv_is (show (nI (6 * b)) + 1 = (nI (6 * b + 1)) from nI_add (6 * b) 1) ?_
        refine z_iald (i := 6 * b + 1) hx hb hK hP 1 0 rfl rfl (by omega) (by decide) dL_eats_47 ?_
        refine lv_istore (lv' := [(8, .int (I 1 (6 * b + 1))), (0, .ref (yi 1)), (1, .ref (yi 2)), (2, .ref (yq 1)), (3, .ref (yq 2)), (4, .ref (yq 3)), (5, .ref (yq 4)), (6, .int (nI pe)), (7, .int (nI b))]) hx hb dL_eats_48 hl (by decide) rfl (fun ls hl => ?_)
        refine lv_aload_n hx hb dL_eats_50 rfl (lv_at hl 3 rfl) ?_
        refine lv_iconst (v := 2) hx hb dL_eats_51 (by decide) ?_
        refine lv_iload hx hb dL_eats_52 (lv_at hl 8 rfl) ?_
        refine lv_iload hx hb dL_eats_54 (lv_at hl 7 rfl) ?_
        refine lv_iload hx hb dL_eats_56 (lv_at hl 0 rfl) ?_
        refine lv_if_ge (tgt := 73) hx hb dL_eats_58 (by decide) (fun c_6 => ?_) (fun c_6 => ?_)
        · have c_6 : 0 ≤ (I 1 (6 * b + 1)) := c_6
          have hq := hq.trans (if_pos c_6)
          have w_7 := znat (zgr_in z2 (by with_reducible assumption))
          have w_7b := w_7.2
          have hl : lv_has ls 9 [(8, .int (nI (Int32.toNatClampNeg (I 1 (6 * b + 1))))), (0, .ref (yi 1)), (1, .ref (yi 2)), (2, .ref (yq 1)), (3, .ref (yq 2)), (4, .ref (yq 3)), (5, .ref (yq 4)), (6, .int (nI pe)), (7, .int (nI b))] := by rw [← w_7.1]; exact hl
          refine lv_aload_n hx hb dL_eats_73 rfl (lv_at hl 1 rfl) ?_
          refine lv_iconst (v := 4) hx hb dL_eats_74 (by decide) ?_
          refine lv_iload hx hb dL_eats_75 (lv_at hl 0 rfl) ?_
          refine lv_iadd hx hb dL_eats_77 ?_
          refine lv_is (show (4 : Int32) + (nI (Int32.toNatClampNeg (I 1 (6 * b + 1)))) = (nI (4 + (Int32.toNatClampNeg (I 1 (6 * b + 1))))) from nI_add 4 (Int32.toNatClampNeg (I 1 (6 * b + 1)))) ?_
          refine z_iald (i := 4 + (Int32.toNatClampNeg (I 1 (6 * b + 1)))) hx hb hK hP 0 0 rfl rfl (by omega) (by decide) dL_eats_78 ?_
          refine zcSO (n := 2) (c_L_bucket l D g pe (I 0 (4 + (Int32.toNatClampNeg (I 1 (6 * b + 1)))))) hx hb hml hown hts gL_eats_L_bucket rfl ⟨by decide, by decide, by decide⟩ ⟨Nat.le_of_ble_eq_true rfl, Nat.le_of_ble_eq_true rfl⟩ ⟨rfl, rfl⟩ hK (hP.sub [] rfl) hl.1 rfl rfl (Nat.le_of_ble_eq_true rfl) ⟨Nat.zero_le _, Nat.zero_le _⟩ dL_eats_79 ?_
          have p_9 := v_L_bucket_lt pe (I 0 (4 + (Int32.toNatClampNeg (I 1 (6 * b + 1)))))
          refine zcSO (n := 4) (c_L_has_0 l D g yq Q 2 b (v_L_bucket pe (I 0 (4 + (Int32.toNatClampNeg (I 1 (6 * b + 1)))))) (by omega) (by omega)) hx hb hml hown hts gL_eats_L_has rfl ⟨by decide, by decide, by decide⟩ ⟨Nat.le_of_ble_eq_true rfl, Nat.le_of_ble_eq_true rfl⟩ ⟨rfl, rfl⟩ hK (hP.sub [2, 3, 4, 5] rfl) hl.1 rfl rfl (Nat.le_of_ble_eq_true rfl) ⟨Nat.zero_le _, Nat.zero_le _⟩ dL_eats_82 ?_
          refine zif_eq (tgt := 90) hx hb dL_eats_85 (by decide) (fun c_11 => ?_) (fun c_11 => ?_)
          · have hq := hq.trans (zif_f c_11)
            refine lv_aload_n hx hb dL_eats_90 rfl (lv_at hl 2 rfl) ?_
            refine lv_bipush (v := 6) hx hb dL_eats_91 (by decide) ?_
            refine lv_iload hx hb dL_eats_93 (lv_at hl 8 rfl) ?_
            refine lv_imul hx hb dL_eats_95 ?_
            refine lv_is (show (6 : Int32) * (nI b) = (nI (6 * b)) from pk_mul 6 b) ?_
            refine lv_iconst (v := 4) hx hb dL_eats_96 (by decide) ?_
            refine lv_iadd hx hb dL_eats_97 ?_
            refine lv_is (show (nI (6 * b)) + 4 = (nI (6 * b + 4)) from nI_add (6 * b) 4) ?_
            refine z_iald (i := 6 * b + 4) hx hb hK hP 1 0 rfl rfl (by omega) (by decide) dL_eats_98 ?_
            refine lv_iconst (v := 1) hx hb dL_eats_99 (by decide) ?_
            refine lv_icmp_ne (tgt := 120) hx hb dL_eats_100 (by decide) (fun c_12 => ?_) (fun c_12 => ?_)
            · have c_12 : ¬ ((I 1 (6 * b + 4)) = 1) := c_12
              have hq := hq.trans (if_neg c_12)
              refine lv_iconst (v := 0) hx hb dL_eats_120 (by decide) ?_
              exact zret_i hx hb hr hlocks dL_eats_121 hq
            · have c_12 : (I 1 (6 * b + 4)) = 1 := c_12
              have hq := hq.trans (if_pos c_12)
              refine lv_aload hx hb dL_eats_103 (lv_at hl 6 rfl) ?_
              refine lv_iconst (v := 3) hx hb dL_eats_105 (by decide) ?_
              refine lv_iload hx hb dL_eats_106 (lv_at hl 8 rfl) ?_
              refine lv_iload hx hb dL_eats_108 (lv_at hl 7 rfl) ?_
              refine zcSO (n := 4) (c_L_has_3 l D g yq Q 3 b pe (by omega) (by omega)) hx hb hml hown hts gL_eats_L_has rfl ⟨by decide, by decide, by decide⟩ ⟨Nat.le_of_ble_eq_true rfl, Nat.le_of_ble_eq_true rfl⟩ ⟨rfl, rfl⟩ hK (hP.sub [2, 3, 4, 5] rfl) hl.1 rfl rfl (Nat.le_of_ble_eq_true rfl) ⟨Nat.zero_le _, Nat.zero_le _⟩ dL_eats_110 ?_
              refine zif_eq (tgt := 120) hx hb dL_eats_113 (by decide) (fun c_14 => ?_) (fun c_14 => ?_)
              · have hq := hq.trans (zif_f c_14)
                refine lv_iconst (v := 0) hx hb dL_eats_120 (by decide) ?_
                exact zret_i hx hb hr hlocks dL_eats_121 hq
              · have hq := hq.trans (zif_t c_14)
                refine lv_iconst (v := 2) hx hb dL_eats_116 (by decide) ?_
                refine lv_goto (tgt := 121) hx hb dL_eats_117 (by decide) ?_
                exact zret_i hx hb hr hlocks dL_eats_121 hq
          · have hq := hq.trans (zif_t c_11)
            refine lv_iconst (v := 3) hx hb dL_eats_88 (by decide) ?_
            exact zret_i hx hb hr hlocks dL_eats_89 hq
        · have c_6 : ¬ (0 ≤ (I 1 (6 * b + 1))) := c_6
          have hq := hq.trans (if_neg c_6)
          refine lv_aload_n hx hb dL_eats_61 rfl (lv_at hl 2 rfl) ?_
          refine lv_bipush (v := 6) hx hb dL_eats_62 (by decide) ?_
          refine lv_iload hx hb dL_eats_64 (lv_at hl 8 rfl) ?_
          refine lv_imul hx hb dL_eats_66 ?_
          refine lv_is (show (6 : Int32) * (nI b) = (nI (6 * b)) from pk_mul 6 b) ?_
          refine lv_iconst (v := 2) hx hb dL_eats_67 (by decide) ?_
          refine lv_iadd hx hb dL_eats_68 ?_
          refine lv_is (show (nI (6 * b)) + 2 = (nI (6 * b + 2)) from nI_add (6 * b) 2) ?_
          refine z_iald (i := 6 * b + 2) hx hb hK hP 1 0 rfl rfl (by omega) (by decide) dL_eats_69 ?_
          refine lv_goto (tgt := 79) hx hb dL_eats_70 (by decide) ?_
          refine zcSO (n := 2) (c_L_bucket l D g pe (I 1 (6 * b + 2))) hx hb hml hown hts gL_eats_L_bucket rfl ⟨by decide, by decide, by decide⟩ ⟨Nat.le_of_ble_eq_true rfl, Nat.le_of_ble_eq_true rfl⟩ ⟨rfl, rfl⟩ hK (hP.sub [] rfl) hl.1 rfl rfl (Nat.le_of_ble_eq_true rfl) ⟨Nat.zero_le _, Nat.zero_le _⟩ dL_eats_79 ?_
          have p_16 := v_L_bucket_lt pe (I 1 (6 * b + 2))
          refine zcSO (n := 4) (c_L_has_0 l D g yq Q 2 b (v_L_bucket pe (I 1 (6 * b + 2))) (by omega) (by omega)) hx hb hml hown hts gL_eats_L_has rfl ⟨by decide, by decide, by decide⟩ ⟨Nat.le_of_ble_eq_true rfl, Nat.le_of_ble_eq_true rfl⟩ ⟨rfl, rfl⟩ hK (hP.sub [2, 3, 4, 5] rfl) hl.1 rfl rfl (Nat.le_of_ble_eq_true rfl) ⟨Nat.zero_le _, Nat.zero_le _⟩ dL_eats_82 ?_
          refine zif_eq (tgt := 90) hx hb dL_eats_85 (by decide) (fun c_18 => ?_) (fun c_18 => ?_)
          · have hq := hq.trans (zif_f c_18)
            refine lv_aload_n hx hb dL_eats_90 rfl (lv_at hl 2 rfl) ?_
            refine lv_bipush (v := 6) hx hb dL_eats_91 (by decide) ?_
            refine lv_iload hx hb dL_eats_93 (lv_at hl 8 rfl) ?_
            refine lv_imul hx hb dL_eats_95 ?_
            refine lv_is (show (6 : Int32) * (nI b) = (nI (6 * b)) from pk_mul 6 b) ?_
            refine lv_iconst (v := 4) hx hb dL_eats_96 (by decide) ?_
            refine lv_iadd hx hb dL_eats_97 ?_
            refine lv_is (show (nI (6 * b)) + 4 = (nI (6 * b + 4)) from nI_add (6 * b) 4) ?_
            refine z_iald (i := 6 * b + 4) hx hb hK hP 1 0 rfl rfl (by omega) (by decide) dL_eats_98 ?_
            refine lv_iconst (v := 1) hx hb dL_eats_99 (by decide) ?_
            refine lv_icmp_ne (tgt := 120) hx hb dL_eats_100 (by decide) (fun c_19 => ?_) (fun c_19 => ?_)
            · have c_19 : ¬ ((I 1 (6 * b + 4)) = 1) := c_19
              have hq := hq.trans (if_neg c_19)
              refine lv_iconst (v := 0) hx hb dL_eats_120 (by decide) ?_
              exact zret_i hx hb hr hlocks dL_eats_121 hq
            · have c_19 : (I 1 (6 * b + 4)) = 1 := c_19
              have hq := hq.trans (if_pos c_19)
              refine lv_aload hx hb dL_eats_103 (lv_at hl 6 rfl) ?_
              refine lv_iconst (v := 3) hx hb dL_eats_105 (by decide) ?_
              refine lv_iload hx hb dL_eats_106 (lv_at hl 8 rfl) ?_
              refine lv_iload hx hb dL_eats_108 (lv_at hl 7 rfl) ?_
              refine zcSO (n := 4) (c_L_has_3 l D g yq Q 3 b pe (by omega) (by omega)) hx hb hml hown hts gL_eats_L_has rfl ⟨by decide, by decide, by decide⟩ ⟨Nat.le_of_ble_eq_true rfl, Nat.le_of_ble_eq_true rfl⟩ ⟨rfl, rfl⟩ hK (hP.sub [2, 3, 4, 5] rfl) hl.1 rfl rfl (Nat.le_of_ble_eq_true rfl) ⟨Nat.zero_le _, Nat.zero_le _⟩ dL_eats_110 ?_
              refine zif_eq (tgt := 120) hx hb dL_eats_113 (by decide) (fun c_21 => ?_) (fun c_21 => ?_)
              · have hq := hq.trans (zif_f c_21)
                refine lv_iconst (v := 0) hx hb dL_eats_120 (by decide) ?_
                exact zret_i hx hb hr hlocks dL_eats_121 hq
              · have hq := hq.trans (zif_t c_21)
                refine lv_iconst (v := 2) hx hb dL_eats_116 (by decide) ?_
                refine lv_goto (tgt := 121) hx hb dL_eats_117 (by decide) ?_
                exact zret_i hx hb hr hlocks dL_eats_121 hq
          · have hq := hq.trans (zif_t c_18)
            refine lv_iconst (v := 3) hx hb dL_eats_88 (by decide) ?_
            exact zret_i hx hb hr hlocks dL_eats_89 hq
      · have hq := hq.trans (zif_t c_5)
        refine lv_iconst (v := 1) hx hb dL_eats_37 (by decide) ?_
        exact zret_i hx hb hr hlocks dL_eats_38 hq
    · have hq := hq.trans (zif_t c_3)
      refine lv_iconst (v := 0) hx hb dL_eats_23 (by decide) ?_
      exact zret_i hx hb hr hlocks dL_eats_24 hq
def v_L_eaters_6 (I : Nat → Nat → Int32) (Q : Nat → Nat → Int64) (b : Nat) : Nat → Nat → Nat → Nat
  | 0, _, _ => (0)
  | n + 1, many, pe => (if 150 ≤ pe then many else (if (v_L_eats I Q pe b) ≤ 0 then v_L_eaters_6 I Q b n many (pe + 1) else v_L_eaters_6 I Q b n (many + 1) (pe + 1)))
def v_L_eaters (I : Nat → Nat → Int32) (Q : Nat → Nat → Int64) (b : Nat) : Nat := v_L_eaters_6 I Q b 151 0 0
set_option maxHeartbeats 400000 in
set_option maxRecDepth 100000 in
theorem c_L_eaters (l : Launch) (D : va_G) (g : Nat → ClassId) (yi : Nat → Nat) (yq : Nat → Nat) (I : Nat → Nat → Int32) (Q : Nat → Nat → Int64) (b : Nat) (z0 : b < 5) (z1 : zgr (I 1 (6 * b + 1))) : Rd l D (zT g) yL_eaters wsL_eaters (rmOf 2 51) [.ref (yi 1), .ref (yi 2), .ref (yq 1), .ref (yq 2), .ref (yq 3), .ref (yq 4), .int (nI b)] ((zB_LI (g 0) yi I) ++ (zB_LQ (g 2) yq Q)) (.int (nI (v_L_eaters I Q b))) := by
  refine Rd.of (cc := cL_eaters) (maxL := 9) (ret := (some .int)) (by decide) rfl (Nat.le_of_ble_eq_true rfl) ?_
  intro p e s m below meth c ls hx hb hr hml hown hts hlocks hP hK hl
  have hown : s.vm.findClass RL = some m.cls := hown
  obtain ⟨q, hq⟩ : ∃ q : Nat, q = v_L_eaters I Q b := ⟨_, rfl⟩
  rw [← hq]
  unfold v_L_eaters at hq
  have hl : lv_has ls 9 [(0, .ref (yi 1)), (1, .ref (yi 2)), (2, .ref (yq 1)), (3, .ref (yq 2)), (4, .ref (yq 3)), (5, .ref (yq 4)), (6, .int (nI b))] := hl
  refine lv_iconst (v := 0) hx hb dL_eaters_0 (by decide) ?_
  refine lv_istore (lv' := [(7, .int 0), (0, .ref (yi 1)), (1, .ref (yi 2)), (2, .ref (yq 1)), (3, .ref (yq 2)), (4, .ref (yq 3)), (5, .ref (yq 4)), (6, .int (nI b))]) hx hb dL_eaters_1 hl (by decide) rfl (fun ls hl => ?_)
  refine lv_iconst (v := 0) hx hb dL_eaters_3 (by decide) ?_
  refine lv_istore (lv' := [(8, .int 0), (7, .int 0), (0, .ref (yi 1)), (1, .ref (yi 2)), (2, .ref (yq 1)), (3, .ref (yq 2)), (4, .ref (yq 3)), (5, .ref (yq 4)), (6, .int (nI b))]) hx hb dL_eaters_4 hl (by decide) rfl (fun ls hl => ?_)
  have L6 : ∀ (n : Nat) (many : Nat) (pe : Nat), (pe ≤ 150) → 150 - pe < n → ∀ (ls : Array Slot), lv_has ls 9 [(0, .ref (yi 1)), (1, .ref (yi 2)), (2, .ref (yq 1)), (3, .ref (yq 2)), (4, .ref (yq 3)), (5, .ref (yq 4)), (6, .int (nI b)), (7, .int (nI many)), (8, .int (nI pe))] → q = v_L_eaters_6 I Q b n many pe → W p l e (rmOf 2 51) s m [.ref (yi 1), .ref (yi 2), .ref (yq 1), .ref (yq 2), .ref (yq 3), .ref (yq 4), .int (nI b)].toArray below meth c s.heap [] 0 0 (MQ below (zQ (.int (nI q))) [.ref (yi 1), .ref (yi 2), .ref (yq 1), .ref (yq 2), .ref (yq 3), .ref (yq 4), .int (nI b)].toArray s 0 0 (fun _ => False)) (F0 m 6 ls []) := by
    intro n
    induction n with
    | zero => intro many pe v6_0 hn; exact absurd hn (Nat.not_lt_zero _)
    | succ n ih6 =>
      intro many pe v6_0 hn6 ls hl hq
      rw [v_L_eaters_6] at hq
      refine lv_iload hx hb dL_eaters_6 (lv_at hl 8 rfl) ?_
      refine lv_sipush (v := 150) hx hb dL_eaters_8 (by decide) ?_
      refine lv_icmp_ge (tgt := 41) hx hb dL_eaters_11 (by decide) (fun c_1 => ?_) (fun c_1 => ?_)
      · have c_1 : 150 ≤ pe := (nI_leI (a := 150) (b := pe) (by omega) (by omega)).mp c_1
        have hq := hq.trans (if_pos c_1)
        refine lv_iload hx hb dL_eaters_41 (lv_at hl 7 rfl) ?_
        exact zret_i hx hb hr hlocks dL_eaters_43 (congrArg nI hq)
      · have c_1 : ¬ (150 ≤ pe) := fun h9 => c_1 ((nI_leI (a := 150) (b := pe) (by omega) (by omega)).mpr h9)
        have hq := hq.trans (if_neg c_1)
        refine lv_aload_n hx hb dL_eaters_14 rfl (lv_at hl 0 rfl) ?_
        refine lv_aload_n hx hb dL_eaters_15 rfl (lv_at hl 1 rfl) ?_
        refine lv_aload_n hx hb dL_eaters_16 rfl (lv_at hl 2 rfl) ?_
        refine lv_aload_n hx hb dL_eaters_17 rfl (lv_at hl 3 rfl) ?_
        refine lv_aload hx hb dL_eaters_18 (lv_at hl 4 rfl) ?_
        refine lv_aload hx hb dL_eaters_20 (lv_at hl 5 rfl) ?_
        refine lv_iload hx hb dL_eaters_22 (lv_at hl 8 rfl) ?_
        refine lv_iload hx hb dL_eaters_24 (lv_at hl 6 rfl) ?_
        refine zcSO (n := 8) (c_L_eats l D g yi yq I Q pe b (by omega) (by omega) z1) hx hb hml hown hts gL_eaters_L_eats rfl ⟨by decide, by decide, by decide⟩ ⟨Nat.le_of_ble_eq_true rfl, Nat.le_of_ble_eq_true rfl⟩ ⟨rfl, rfl⟩ hK hP hl.1 rfl rfl (Nat.le_of_ble_eq_true rfl) ⟨Nat.zero_le _, Nat.zero_le _⟩ dL_eaters_26 ?_
        refine lv_if_le (tgt := 35) hx hb dL_eaters_29 (by decide) (fun c_3 => ?_) (fun c_3 => ?_)
        · have c_3 : (v_L_eats I Q pe b) ≤ 0 := c_3
          have hq := hq.trans (if_pos c_3)
          refine lv_iinc (v := (nI (pe + 1))) (lv' := [(8, .int (nI (pe + 1))), (0, .ref (yi 1)), (1, .ref (yi 2)), (2, .ref (yq 1)), (3, .ref (yq 2)), (4, .ref (yq 3)), (5, .ref (yq 4)), (6, .int (nI b)), (7, .int (nI many))]) hx hb dL_eaters_35 hl (k := 8) rfl (nI_add _ 1) (by decide) rfl (fun ls hl => ?_)
          refine lv_goto (tgt := 6) hx hb dL_eaters_38 (by decide) ?_
          exact ih6 many (pe + 1) (by omega) (by omega) ls (lv_sub hl [1, 2, 3, 4, 5, 6, 7, 8, 0] rfl) hq
        · have c_3 : ¬ ((v_L_eats I Q pe b) ≤ 0) := c_3
          have hq := hq.trans (if_neg c_3)
          refine lv_iinc (v := (nI (many + 1))) (lv' := [(7, .int (nI (many + 1))), (0, .ref (yi 1)), (1, .ref (yi 2)), (2, .ref (yq 1)), (3, .ref (yq 2)), (4, .ref (yq 3)), (5, .ref (yq 4)), (6, .int (nI b)), (8, .int (nI pe))]) hx hb dL_eaters_32 hl (k := 7) rfl (nI_add _ 1) (by decide) rfl (fun ls hl => ?_)
          refine lv_iinc (v := (nI (pe + 1))) (lv' := [(8, .int (nI (pe + 1))), (7, .int (nI (many + 1))), (0, .ref (yi 1)), (1, .ref (yi 2)), (2, .ref (yq 1)), (3, .ref (yq 2)), (4, .ref (yq 3)), (5, .ref (yq 4)), (6, .int (nI b))]) hx hb dL_eaters_35 hl (k := 8) rfl (nI_add _ 1) (by decide) rfl (fun ls hl => ?_)
          refine lv_goto (tgt := 6) hx hb dL_eaters_38 (by decide) ?_
          exact ih6 (many + 1) (pe + 1) (by omega) (by omega) ls (lv_sub hl [2, 3, 4, 5, 6, 7, 8, 1, 0] rfl) hq
  exact L6 151 0 0 (by omega) (by omega) ls (lv_sub hl [2, 3, 4, 5, 6, 7, 8, 1, 0] rfl) hq
def v_L_free_3 (I : Nat → Nat → Int32) (Q : Nat → Nat → Int64) (gr : Int32) (k : Nat) : Nat → Nat → Bool
  | 0, _ => (false)
  | n + 1, b => (if (I 0 0) ≤ (nI b) then true else (if (I 1 (6 * b + 1)) = gr then (if (v_L_has_0 Q 2 b k) = true then false else v_L_free_3 I Q gr k n (b + 1)) else v_L_free_3 I Q gr k n (b + 1)))
def v_L_free (I : Nat → Nat → Int32) (Q : Nat → Nat → Int64) (gr : Int32) (k : Nat) : Bool := v_L_free_3 I Q gr k 6 0
set_option maxHeartbeats 400000 in
set_option maxRecDepth 100000 in
theorem c_L_free (l : Launch) (D : va_G) (g : Nat → ClassId) (yi : Nat → Nat) (yq : Nat → Nat) (I : Nat → Nat → Int32) (Q : Nat → Nat → Int64) (gr : Int32) (k : Nat) (z0 : k < 100) (z1 : vp_in (I 0 0) 6) : Rd l D (zT g) yL_free wsL_free (rmOf 1 23) [.ref (yi 1), .ref (yi 2), .ref (yq 1), .int gr, .int (nI k)] ((zB_LI (g 0) yi I) ++ (zB_LQ (g 2) yq Q)) (.int (bI (v_L_free I Q gr k))) := by
  refine Rd.of (cc := cL_free) (maxL := 6) (ret := (some .boolean)) (by decide) rfl (Nat.le_of_ble_eq_true rfl) ?_
  intro p e s m below meth c ls hx hb hr hml hown hts hlocks hP hK hl
  have hown : s.vm.findClass RL = some m.cls := hown
  obtain ⟨q, hq⟩ : ∃ q : Bool, q = v_L_free I Q gr k := ⟨_, rfl⟩
  rw [← hq]
  unfold v_L_free at hq
  have hl : lv_has ls 6 [(0, .ref (yi 1)), (1, .ref (yi 2)), (2, .ref (yq 1)), (3, .int gr), (4, .int (nI k))] := hl
  refine lv_iconst (v := 0) hx hb dL_free_0 (by decide) ?_
  refine lv_istore (lv' := [(5, .int 0), (0, .ref (yi 1)), (1, .ref (yi 2)), (2, .ref (yq 1)), (3, .int gr), (4, .int (nI k))]) hx hb dL_free_1 hl (by decide) rfl (fun ls hl => ?_)
  have L3 : ∀ (n : Nat) (b : Nat), (b ≤ 5) → 5 - b < n → ∀ (ls : Array Slot), lv_has ls 6 [(0, .ref (yi 1)), (1, .ref (yi 2)), (2, .ref (yq 1)), (3, .int gr), (4, .int (nI k)), (5, .int (nI b))] → q = v_L_free_3 I Q gr k n b → W p l e (rmOf 1 23) s m [.ref (yi 1), .ref (yi 2), .ref (yq 1), .int gr, .int (nI k)].toArray below meth c s.heap [] 0 0 (MQ below (zQ (.int (bI q))) [.ref (yi 1), .ref (yi 2), .ref (yq 1), .int gr, .int (nI k)].toArray s 0 0 (fun _ => False)) (F0 m 3 ls []) := by
    intro n
    induction n with
    | zero => intro b v3_0 hn; exact absurd hn (Nat.not_lt_zero _)
    | succ n ih3 =>
      intro b v3_0 hn3 ls hl hq
      rw [v_L_free_3] at hq
      refine lv_iload hx hb dL_free_3 (lv_at hl 5 rfl) ?_
      refine lv_aload_n hx hb dL_free_5 rfl (lv_at hl 0 rfl) ?_
      refine lv_iconst (v := 0) hx hb dL_free_6 (by decide) ?_
      refine z_iald (i := 0) hx hb hK hP 0 0 rfl rfl (by omega) (by decide) dL_free_7 ?_
      refine lv_icmp_ge (tgt := 44) hx hb dL_free_8 (by decide) (fun c_1 => ?_) (fun c_1 => ?_)
      · have c_1 : (I 0 0) ≤ (nI b) := c_1
        have hq := hq.trans (if_pos c_1)
        refine lv_iconst (v := 1) hx hb dL_free_44 (by decide) ?_
        exact zret_z (q' := true) hx hb hr hlocks dL_free_45 hq
      · have c_1 : ¬ ((I 0 0) ≤ (nI b)) := c_1
        have hq := hq.trans (if_neg c_1)
        have hb5 : b < 5 := (znb5 z1 (by with_reducible assumption) v3_0)
        refine lv_aload_n hx hb dL_free_11 rfl (lv_at hl 1 rfl) ?_
        refine lv_bipush (v := 6) hx hb dL_free_12 (by decide) ?_
        refine lv_iload hx hb dL_free_14 (lv_at hl 5 rfl) ?_
        refine lv_imul hx hb dL_free_16 ?_
        refine lv_is (show (6 : Int32) * (nI b) = (nI (6 * b)) from pk_mul 6 b) ?_
        refine lv_iconst (v := 1) hx hb dL_free_17 (by decide) ?_
        refine lv_iadd hx hb dL_free_18 ?_
        refine lv_is (show (nI (6 * b)) + 1 = (nI (6 * b + 1)) from nI_add (6 * b) 1) ?_
        refine z_iald (i := 6 * b + 1) hx hb hK hP 1 0 rfl rfl (by omega) (by decide) dL_free_19 ?_
        refine lv_iload_n hx hb dL_free_20 rfl (lv_at hl 3 rfl) ?_
        refine lv_icmp_ne (tgt := 38) hx hb dL_free_21 (by decide) (fun c_2 => ?_) (fun c_2 => ?_)
        · have c_2 : ¬ ((I 1 (6 * b + 1)) = gr) := c_2
          have hq := hq.trans (if_neg c_2)
          refine lv_iinc (v := (nI (b + 1))) (lv' := [(5, .int (nI (b + 1))), (0, .ref (yi 1)), (1, .ref (yi 2)), (2, .ref (yq 1)), (3, .int gr), (4, .int (nI k))]) hx hb dL_free_38 hl (k := 5) rfl (nI_add _ 1) (by decide) rfl (fun ls hl => ?_)
          refine lv_goto (tgt := 3) hx hb dL_free_41 (by decide) ?_
          exact ih3 (b + 1) (by omega) (by omega) ls (lv_sub hl [1, 2, 3, 4, 5, 0] rfl) hq
        · have c_2 : (I 1 (6 * b + 1)) = gr := c_2
          have hq := hq.trans (if_pos c_2)
          refine lv_aload_n hx hb dL_free_24 rfl (lv_at hl 2 rfl) ?_
          refine lv_iconst (v := 2) hx hb dL_free_25 (by decide) ?_
          refine lv_iload hx hb dL_free_26 (lv_at hl 5 rfl) ?_
          refine lv_iload hx hb dL_free_28 (lv_at hl 4 rfl) ?_
          refine zcSO (n := 4) (c_L_has_0 l D g yq Q 2 b k (by omega) (by omega)) hx hb hml hown hts gL_free_L_has rfl ⟨by decide, by decide, by decide⟩ ⟨Nat.le_of_ble_eq_true rfl, Nat.le_of_ble_eq_true rfl⟩ ⟨rfl, rfl⟩ hK (hP.sub [2, 3, 4, 5] rfl) hl.1 rfl rfl (Nat.le_of_ble_eq_true rfl) ⟨Nat.zero_le _, Nat.zero_le _⟩ dL_free_30 ?_
          refine zif_eq (tgt := 38) hx hb dL_free_33 (by decide) (fun c_4 => ?_) (fun c_4 => ?_)
          · have hq := hq.trans (zif_f c_4)
            refine lv_iinc (v := (nI (b + 1))) (lv' := [(5, .int (nI (b + 1))), (0, .ref (yi 1)), (1, .ref (yi 2)), (2, .ref (yq 1)), (3, .int gr), (4, .int (nI k))]) hx hb dL_free_38 hl (k := 5) rfl (nI_add _ 1) (by decide) rfl (fun ls hl => ?_)
            refine lv_goto (tgt := 3) hx hb dL_free_41 (by decide) ?_
            exact ih3 (b + 1) (by omega) (by omega) ls (lv_sub hl [1, 2, 3, 4, 5, 0] rfl) hq
          · have hq := hq.trans (zif_t c_4)
            refine lv_iconst (v := 0) hx hb dL_free_36 (by decide) ?_
            exact zret_z (q' := false) hx hb hr hlocks dL_free_37 hq
  exact L3 6 0 (by omega) (by omega) ls (lv_sub hl [1, 2, 3, 4, 5, 0] rfl) hq
def v_L_room_6 (I : Nat → Nat → Int32) (Q : Nat → Nat → Int64) (gr : Int32) : Nat → Nat → Nat → Nat
  | 0, _, _ => (0)
  | n + 1, many, k => (if 100 ≤ k then many else (if (v_L_free I Q gr k) = true then v_L_room_6 I Q gr n (many + 1) (k + 1) else v_L_room_6 I Q gr n many (k + 1)))
def v_L_room (I : Nat → Nat → Int32) (Q : Nat → Nat → Int64) (gr : Int32) : Nat := v_L_room_6 I Q gr 101 0 0
set_option maxHeartbeats 400000 in
set_option maxRecDepth 100000 in
theorem c_L_room (l : Launch) (D : va_G) (g : Nat → ClassId) (yi : Nat → Nat) (yq : Nat → Nat) (I : Nat → Nat → Int32) (Q : Nat → Nat → Int64) (gr : Int32) (z0 : vp_in (I 0 0) 6) : Rd l D (zT g) yL_room wsL_room (rmOf 2 48) [.ref (yi 1), .ref (yi 2), .ref (yq 1), .int gr] ((zB_LI (g 0) yi I) ++ (zB_LQ (g 2) yq Q)) (.int (nI (v_L_room I Q gr))) := by
  refine Rd.of (cc := cL_room) (maxL := 6) (ret := (some .int)) (by decide) rfl (Nat.le_of_ble_eq_true rfl) ?_
  intro p e s m below meth c ls hx hb hr hml hown hts hlocks hP hK hl
  have hown : s.vm.findClass RL = some m.cls := hown
  obtain ⟨q, hq⟩ : ∃ q : Nat, q = v_L_room I Q gr := ⟨_, rfl⟩
  rw [← hq]
  unfold v_L_room at hq
  have hl : lv_has ls 6 [(0, .ref (yi 1)), (1, .ref (yi 2)), (2, .ref (yq 1)), (3, .int gr)] := hl
  refine lv_iconst (v := 0) hx hb dL_room_0 (by decide) ?_
  refine lv_istore (lv' := [(4, .int 0), (0, .ref (yi 1)), (1, .ref (yi 2)), (2, .ref (yq 1)), (3, .int gr)]) hx hb dL_room_1 hl (by decide) rfl (fun ls hl => ?_)
  refine lv_iconst (v := 0) hx hb dL_room_3 (by decide) ?_
  refine lv_istore (lv' := [(5, .int 0), (4, .int 0), (0, .ref (yi 1)), (1, .ref (yi 2)), (2, .ref (yq 1)), (3, .int gr)]) hx hb dL_room_4 hl (by decide) rfl (fun ls hl => ?_)
  have L6 : ∀ (n : Nat) (many : Nat) (k : Nat), (k ≤ 100) → 100 - k < n → ∀ (ls : Array Slot), lv_has ls 6 [(0, .ref (yi 1)), (1, .ref (yi 2)), (2, .ref (yq 1)), (3, .int gr), (4, .int (nI many)), (5, .int (nI k))] → q = v_L_room_6 I Q gr n many k → W p l e (rmOf 2 48) s m [.ref (yi 1), .ref (yi 2), .ref (yq 1), .int gr].toArray below meth c s.heap [] 0 0 (MQ below (zQ (.int (nI q))) [.ref (yi 1), .ref (yi 2), .ref (yq 1), .int gr].toArray s 0 0 (fun _ => False)) (F0 m 6 ls []) := by
    intro n
    induction n with
    | zero => intro many k v6_0 hn; exact absurd hn (Nat.not_lt_zero _)
    | succ n ih6 =>
      intro many k v6_0 hn6 ls hl hq
      rw [v_L_room_6] at hq
      refine lv_iload hx hb dL_room_6 (lv_at hl 5 rfl) ?_
      refine lv_bipush (v := 100) hx hb dL_room_8 (by decide) ?_
      refine lv_icmp_ge (tgt := 34) hx hb dL_room_10 (by decide) (fun c_1 => ?_) (fun c_1 => ?_)
      · have c_1 : 100 ≤ k := (nI_leI (a := 100) (b := k) (by omega) (by omega)).mp c_1
        have hq := hq.trans (if_pos c_1)
        refine lv_iload hx hb dL_room_34 (lv_at hl 4 rfl) ?_
        exact zret_i hx hb hr hlocks dL_room_36 (congrArg nI hq)
      · have c_1 : ¬ (100 ≤ k) := fun h9 => c_1 ((nI_leI (a := 100) (b := k) (by omega) (by omega)).mpr h9)
        have hq := hq.trans (if_neg c_1)
        refine lv_aload_n hx hb dL_room_13 rfl (lv_at hl 0 rfl) ?_
        refine lv_aload_n hx hb dL_room_14 rfl (lv_at hl 1 rfl) ?_
        refine lv_aload_n hx hb dL_room_15 rfl (lv_at hl 2 rfl) ?_
        refine lv_iload_n hx hb dL_room_16 rfl (lv_at hl 3 rfl) ?_
        refine lv_iload hx hb dL_room_17 (lv_at hl 5 rfl) ?_
        refine zcSO (n := 5) (c_L_free l D g yi yq I Q gr k (by omega) z0) hx hb hml hown hts gL_room_L_free rfl ⟨by decide, by decide, by decide⟩ ⟨Nat.le_of_ble_eq_true rfl, Nat.le_of_ble_eq_true rfl⟩ ⟨rfl, rfl⟩ hK hP hl.1 rfl rfl (Nat.le_of_ble_eq_true rfl) ⟨Nat.zero_le _, Nat.zero_le _⟩ dL_room_19 ?_
        refine zif_eq (tgt := 28) hx hb dL_room_22 (by decide) (fun c_3 => ?_) (fun c_3 => ?_)
        · have hq := hq.trans (zif_f c_3)
          refine lv_iinc (v := (nI (k + 1))) (lv' := [(5, .int (nI (k + 1))), (0, .ref (yi 1)), (1, .ref (yi 2)), (2, .ref (yq 1)), (3, .int gr), (4, .int (nI many))]) hx hb dL_room_28 hl (k := 5) rfl (nI_add _ 1) (by decide) rfl (fun ls hl => ?_)
          refine lv_goto (tgt := 6) hx hb dL_room_31 (by decide) ?_
          exact ih6 many (k + 1) (by omega) (by omega) ls (lv_sub hl [1, 2, 3, 4, 5, 0] rfl) hq
        · have hq := hq.trans (zif_t c_3)
          refine lv_iinc (v := (nI (many + 1))) (lv' := [(4, .int (nI (many + 1))), (0, .ref (yi 1)), (1, .ref (yi 2)), (2, .ref (yq 1)), (3, .int gr), (5, .int (nI k))]) hx hb dL_room_25 hl (k := 4) rfl (nI_add _ 1) (by decide) rfl (fun ls hl => ?_)
          refine lv_iinc (v := (nI (k + 1))) (lv' := [(5, .int (nI (k + 1))), (4, .int (nI (many + 1))), (0, .ref (yi 1)), (1, .ref (yi 2)), (2, .ref (yq 1)), (3, .int gr)]) hx hb dL_room_28 hl (k := 5) rfl (nI_add _ 1) (by decide) rfl (fun ls hl => ?_)
          refine lv_goto (tgt := 6) hx hb dL_room_31 (by decide) ?_
          exact ih6 (many + 1) (k + 1) (by omega) (by omega) ls (lv_sub hl [2, 3, 4, 5, 1, 0] rfl) hq
  exact L6 101 0 0 (by omega) (by omega) ls (lv_sub hl [2, 3, 4, 5, 1, 0] rfl) hq
