theorem zdivn {a b : Nat} (ha : a < 2 ^ 31) (h0 : 0 < b) (hb : b < 2 ^ 31) : nI a / nI b = nI (a / b) := by
  apply Int32.toInt_inj.mp
  have h1 : a / b ≤ a := Nat.div_le_self a b
  have e : nI a ≠ Int32.minValue := fun h => by
    have h2 := congrArg Int32.toInt h
    rw [nI_toInt ha] at h2
    have m : Int32.minValue.toInt = -2147483648 := by decide
    omega
  rw [Int32.toInt_div_of_ne_left _ _ e, nI_toInt ha, nI_toInt hb, nI_toInt (by omega)]
  rfl
theorem zI_day {M : Nat → Nat → Int32} {x : Int32} (i : zI M) : zI (zU M 0 (upd (M 0) 0 x)) := by
  unfold zI; rw [zU_s]
  exact zRow_upd i (by decide) (fun b hb => by omega) (by omega)
theorem zI_u2 {M : Nat → Nat → Int32} {t t2 : Nat} {x y : Int32} (i : zI M) (h : 353 ≤ t) (h2 : 353 ≤ t2) : zI (zU M 0 (upd (upd (M 0) t x) t2 y)) := by
  unfold zI; rw [zU_s]
  exact zRow_upd (zRow_upd i (by omega) (fun b hb => by omega) (by omega)) (by omega) (fun b hb => by omega) (by omega)
def v_X5_dayPasses_14  : Nat → Nat → Nat → (Nat → Nat → Int32) → Int32 × (Nat → Nat → Int32)
  | 0, _, _, _ => (0, (fun _ _ => 0))
  | n + 1, many, i, M1 => (if 150 * (Int32.toNatClampNeg (M1 0 1)) ≤ i then ((nI many), M1) else (if (v_X5_eatsNow M1 (i / (Int32.toNatClampNeg (M1 0 1))) (i % (Int32.toNatClampNeg (M1 0 1)))) ≤ 0 then v_X5_dayPasses_14 n many (i + 1) M1 else v_X5_dayPasses_14 n (many + 1) (i + 1) (v_X5_put (zU M1 0 (upd (upd (M1 0) (653 + (i / (Int32.toNatClampNeg (M1 0 1)))) ((M1 0 (653 + (i / (Int32.toNatClampNeg (M1 0 1))))) ||| ((1 : Int32) <<< ((nI (i % (Int32.toNatClampNeg (M1 0 1)))) &&& 31)))) (803 + (i / (Int32.toNatClampNeg (M1 0 1)))) (((upd (M1 0) (653 + (i / (Int32.toNatClampNeg (M1 0 1)))) ((M1 0 (653 + (i / (Int32.toNatClampNeg (M1 0 1))))) ||| ((1 : Int32) <<< ((nI (i % (Int32.toNatClampNeg (M1 0 1)))) &&& 31)))) (803 + (i / (Int32.toNatClampNeg (M1 0 1))))) + 1))) (i % (Int32.toNatClampNeg (M1 0 1))) 5 ((v_X5_of (zU M1 0 (upd (upd (M1 0) (653 + (i / (Int32.toNatClampNeg (M1 0 1)))) ((M1 0 (653 + (i / (Int32.toNatClampNeg (M1 0 1))))) ||| ((1 : Int32) <<< ((nI (i % (Int32.toNatClampNeg (M1 0 1)))) &&& 31)))) (803 + (i / (Int32.toNatClampNeg (M1 0 1)))) (((upd (M1 0) (653 + (i / (Int32.toNatClampNeg (M1 0 1)))) ((M1 0 (653 + (i / (Int32.toNatClampNeg (M1 0 1))))) ||| ((1 : Int32) <<< ((nI (i % (Int32.toNatClampNeg (M1 0 1)))) &&& 31)))) (803 + (i / (Int32.toNatClampNeg (M1 0 1))))) + 1))) (i % (Int32.toNatClampNeg (M1 0 1))) 5) + 1))))
def v_X5_dayPasses (M : Nat → Nat → Int32) : Int32 × (Nat → Nat → Int32) := v_X5_dayPasses_14 1201 0 0 (zU M 0 (upd (M 0) 0 ((M 0 0) + 1)))
set_option maxHeartbeats 400000 in
set_option maxRecDepth 100000 in
theorem c_X5_dayPasses (l : Launch) (D : va_G) (g : Nat → ClassId) (u : Nat → Nat) (M : Nat → Nat → Int32) (w : Int64) (z0 : zI M) : Wr l D (zT g) yX5_dayPasses wsX5_dayPasses (rmOf 4 88) [.ref (u 0)] (zB_X5 (g 0) u M w) (some (.int ((v_X5_dayPasses M).1))) (zB_X5 (g 0) u ((v_X5_dayPasses M).2) w) := by
  refine Wr.of (cc := cX5_dayPasses) (maxL := 5) (ret := (some .int)) (by decide) rfl (Nat.le_of_ble_eq_true rfl) ?_
  intro p e s m below meth c ls hx hb hr hml hown hts hlocks hP hD hS hK hl
  have hown : s.vm.findClass RX5 = some m.cls := hown
  have hinX5 : ∀ w ∈ u_ws RX5 TX5 13, w ∈ wsX5_dayPasses := fun _ h9 => (List.mem_cons_of_mem _ (List.mem_append_right _ h9))
  obtain ⟨q, hq⟩ : ∃ q : Int32 × (Nat → Nat → Int32), q = v_X5_dayPasses M := ⟨_, rfl⟩
  rw [← hq]
  unfold v_X5_dayPasses at hq
  have hl : lv_has ls 5 [(0, .ref (u 0))] := hl
  refine lv_aload_n hx hb dX5_dayPasses_0 rfl (lv_at hl 0 rfl) ?_
  refine va_get (D := D) (ci := 5) (v := .ref (u 1)) (C := RX5) (T := TX5) (N := 13) hx hb hts hinX5 hown hK.1 hP 0 rfl rfl 0 (by decide) (hts (.fieldLink RX5 7 "SaltSharesModel" "z" "[I") (List.mem_of_getElem? (i := 1) rfl)) (fun _ h9 => h9) rfl dX5_dayPasses_1 ?_
  refine lv_iconst (v := 0) hx hb dX5_dayPasses_4 (by decide) ?_
  refine lv_dup2_11 hx hb dX5_dayPasses_5 rfl rfl ?_
  refine z_iald (i := 0) hx hb hK hP 1 0 rfl rfl (by omega) (by decide) dX5_dayPasses_6 ?_
  refine lv_iconst (v := 1) hx hb dX5_dayPasses_7 (by decide) ?_
  refine lv_iadd hx hb dX5_dayPasses_8 ?_
  refine z_iast (i := 0) (x := ((M 0 0) + 1)) hx hb hK hP hD hS 1 0 rfl rfl (by omega) (by decide) dX5_dayPasses_9 (fun H locs hP hD hS => ?_)
  have hP : va_P D vwCl (zB_X5 (g 0) u (zU M 0 (upd (M 0) 0 ((M 0 0) + 1))) w) H := hP
  have hD : va_D (zA (zB_X5 (g 0) u M w)) (zB_X5 (g 0) u (zU M 0 (upd (M 0) 0 ((M 0 0) + 1))) w) := hD
  refine lv_iconst (v := 0) hx hb dX5_dayPasses_10 (by decide) ?_
  refine lv_istore_n (lv' := [(1, .int 0), (0, .ref (u 0))]) hx hb dX5_dayPasses_11 rfl hl (by decide) rfl (fun ls hl => ?_)
  refine lv_iconst (v := 0) hx hb dX5_dayPasses_12 (by decide) ?_
  refine lv_istore_n (lv' := [(2, .int 0), (1, .int 0), (0, .ref (u 0))]) hx hb dX5_dayPasses_13 rfl hl (by decide) rfl (fun ls hl => ?_)
  have L14 : ∀ (n : Nat) (many : Nat) (i : Nat) (M1 : Nat → Nat → Int32), (i ≤ 1200) → (zI M1) → 1200 - i < n → ∀ (H : Heap) (locs : List Loc), va_P D vwCl (zB_X5 (g 0) u M1 w) H → va_D (zA (zB_X5 (g 0) u M w)) (zB_X5 (g 0) u M1 w) → va_S (zA (zB_X5 (g 0) u M w)) s.heap H locs → ∀ (ls : Array Slot), lv_has ls 5 [(0, .ref (u 0)), (1, .int (nI many)), (2, .int (nI i))] → q = v_X5_dayPasses_14 n many i M1 → W p l e (rmOf 4 88) s m [.ref (u 0)].toArray below meth c H locs 0 0 (MQ below (zQw D (zB_X5 (g 0) u M w) (some (.int q.1)) (zB_X5 (g 0) u q.2 w)) [.ref (u 0)].toArray s 0 0 (zA (zB_X5 (g 0) u M w))) (F0 m 14 ls []) := by
    intro n
    induction n with
    | zero => intro many i M1 v14_0 v14_1 hn; exact absurd hn (Nat.not_lt_zero _)
    | succ n ih14 =>
      intro many i M1 v14_0 v14_1 hn14 H locs hP hD hS ls hl hq
      rw [v_X5_dayPasses_14] at hq
      refine lv_iload_n hx hb dX5_dayPasses_14 rfl (lv_at hl 2 rfl) ?_
      refine lv_sipush (v := 150) hx hb dX5_dayPasses_15 (by decide) ?_
      refine lv_aload_n hx hb dX5_dayPasses_18 rfl (lv_at hl 0 rfl) ?_
      refine va_get (D := D) (ci := 5) (v := .ref (u 1)) (C := RX5) (T := TX5) (N := 13) hx hb hts hinX5 hown hK.1 hP 0 rfl rfl 0 (by decide) (hts (.fieldLink RX5 7 "SaltSharesModel" "z" "[I") (List.mem_of_getElem? (i := 1) rfl)) (fun _ h9 => h9) rfl dX5_dayPasses_19 ?_
      refine lv_iconst (v := 1) hx hb dX5_dayPasses_22 (by decide) ?_
      refine z_iald (i := 1) hx hb hK hP 1 0 rfl rfl (by omega) (by decide) dX5_dayPasses_23 ?_
      have w_1 := znat (zI_B v14_1)
      have w_1b := w_1.2
      refine lv_is w_1.1 ?_
      refine lv_imul hx hb dX5_dayPasses_24 ?_
      refine lv_is (show (150 : Int32) * (nI (Int32.toNatClampNeg (M1 0 1))) = (nI (150 * (Int32.toNatClampNeg (M1 0 1)))) from pk_mul 150 (Int32.toNatClampNeg (M1 0 1))) ?_
      refine lv_icmp_ge (tgt := 113) hx hb dX5_dayPasses_25 (by decide) (fun c_2 => ?_) (fun c_2 => ?_)
      · have c_2 : 150 * (Int32.toNatClampNeg (M1 0 1)) ≤ i := (nI_leI (a := 150 * (Int32.toNatClampNeg (M1 0 1))) (b := i) (by omega) (by omega)).mp c_2
        have hq := hq.trans (if_pos c_2)
        refine lv_iload_n hx hb dX5_dayPasses_113 rfl (lv_at hl 1 rfl) ?_
        exact zretw_i hx hb hr hlocks dX5_dayPasses_114 hP hS (by with_reducible exact congrArg (fun z9 => z9.1) hq) (by with_reducible exact congrArg (fun z9 => zB_X5 (g 0) u z9.2 w) hq)
      · have c_2 : ¬ (150 * (Int32.toNatClampNeg (M1 0 1)) ≤ i) := fun h9 => c_2 ((nI_leI (a := 150 * (Int32.toNatClampNeg (M1 0 1))) (b := i) (by omega) (by omega)).mpr h9)
        have hq := hq.trans (if_neg c_2)
        refine lv_iload_n hx hb dX5_dayPasses_28 rfl (lv_at hl 2 rfl) ?_
        refine lv_aload_n hx hb dX5_dayPasses_29 rfl (lv_at hl 0 rfl) ?_
        refine va_get (D := D) (ci := 5) (v := .ref (u 1)) (C := RX5) (T := TX5) (N := 13) hx hb hts hinX5 hown hK.1 hP 0 rfl rfl 0 (by decide) (hts (.fieldLink RX5 7 "SaltSharesModel" "z" "[I") (List.mem_of_getElem? (i := 1) rfl)) (fun _ h9 => h9) rfl dX5_dayPasses_30 ?_
        refine lv_iconst (v := 1) hx hb dX5_dayPasses_33 (by decide) ?_
        refine z_iald (i := 1) hx hb hK hP 1 0 rfl rfl (by omega) (by decide) dX5_dayPasses_34 ?_
        have w_3 := znat (zI_B v14_1)
        have w_3b := w_3.2
        refine lv_is w_3.1 ?_
        refine lv_idiv hx hb dX5_dayPasses_35 (fun h9 => by have := (nI_eq (a := Int32.toNatClampNeg (M1 0 1)) (b := 0) (by omega) (by omega)).mp h9; omega) ?_
        refine lv_is (show (nI i) / (nI (Int32.toNatClampNeg (M1 0 1))) = (nI (i / (Int32.toNatClampNeg (M1 0 1)))) from (zdivn (by omega) (by omega) (by omega))) ?_
        refine lv_istore_n (lv' := [(3, .int (nI (i / (Int32.toNatClampNeg (M1 0 1))))), (0, .ref (u 0)), (1, .int (nI many)), (2, .int (nI i))]) hx hb dX5_dayPasses_36 rfl hl (by decide) rfl (fun ls hl => ?_)
        refine lv_iload_n hx hb dX5_dayPasses_37 rfl (lv_at hl 3 rfl) ?_
        refine lv_aload_n hx hb dX5_dayPasses_38 rfl (lv_at hl 1 rfl) ?_
        refine va_get (D := D) (ci := 5) (v := .ref (u 1)) (C := RX5) (T := TX5) (N := 13) hx hb hts hinX5 hown hK.1 hP 0 rfl rfl 0 (by decide) (hts (.fieldLink RX5 7 "SaltSharesModel" "z" "[I") (List.mem_of_getElem? (i := 1) rfl)) (fun _ h9 => h9) rfl dX5_dayPasses_39 ?_
        refine lv_iconst (v := 1) hx hb dX5_dayPasses_42 (by decide) ?_
        refine z_iald (i := 1) hx hb hK hP 1 0 rfl rfl (by omega) (by decide) dX5_dayPasses_43 ?_
        have w_4 := znat (zI_B v14_1)
        have w_4b := w_4.2
        refine lv_is w_4.1 ?_
        refine lv_irem hx hb dX5_dayPasses_44 (fun h9 => by have := (nI_eq (a := Int32.toNatClampNeg (M1 0 1)) (b := 0) (by omega) (by omega)).mp h9; omega) ?_
        refine lv_is (show (nI i) - (nI i) / (nI (Int32.toNatClampNeg (M1 0 1))) * (nI (Int32.toNatClampNeg (M1 0 1))) = (nI (i % (Int32.toNatClampNeg (M1 0 1)))) from (pk_rem (by omega) (by omega) (by omega))) ?_
        refine lv_istore (lv' := [(4, .int (nI (i % (Int32.toNatClampNeg (M1 0 1))))), (3, .int (nI (i / (Int32.toNatClampNeg (M1 0 1))))), (0, .ref (u 0)), (1, .int (nI many)), (2, .int (nI i))]) hx hb dX5_dayPasses_45 hl (by decide) rfl (fun ls hl => ?_)
        have d1 : i / (Int32.toNatClampNeg (M1 0 1)) < 150 := Nat.div_lt_of_lt_mul (by omega)
        have d2 : i % (Int32.toNatClampNeg (M1 0 1)) < 8 := by have := Nat.mod_lt i (show 0 < Int32.toNatClampNeg (M1 0 1) by omega); omega
        refine lv_aload_n hx hb dX5_dayPasses_47 rfl (lv_at hl 2 rfl) ?_
        refine lv_iload_n hx hb dX5_dayPasses_48 rfl (lv_at hl 1 rfl) ?_
        refine lv_iload hx hb dX5_dayPasses_49 (lv_at hl 0 rfl) ?_
        refine zcV (ci := 5) (n := 2) (c_X5_eatsNow l D g u M1 w (i / (Int32.toNatClampNeg (M1 0 1))) (i % (Int32.toNatClampNeg (M1 0 1))) d1 d2 (zI_G v14_1)) hx hb hml hown hts gX5_dayPasses_X5_eatsNow rfl ⟨rfl, by decide, by decide, by decide⟩ ⟨Nat.le_of_ble_eq_true rfl, Nat.le_of_ble_eq_true rfl⟩ ⟨rfl, rfl⟩ hK hP rfl rfl rfl hl.1 rfl rfl (Nat.le_of_ble_eq_true rfl) ⟨Nat.zero_le _, Nat.zero_le _⟩ dX5_dayPasses_51 ?_
        refine lv_if_le (tgt := 107) hx hb dX5_dayPasses_54 (by decide) (fun c_6 => ?_) (fun c_6 => ?_)
        · have c_6 : (v_X5_eatsNow M1 (i / (Int32.toNatClampNeg (M1 0 1))) (i % (Int32.toNatClampNeg (M1 0 1)))) ≤ 0 := c_6
          have hq := hq.trans (if_pos c_6)
          refine lv_iinc (v := (nI (i + 1))) (lv' := [(2, .int (nI (i + 1))), (4, .int (nI (i % (Int32.toNatClampNeg (M1 0 1))))), (3, .int (nI (i / (Int32.toNatClampNeg (M1 0 1))))), (0, .ref (u 0)), (1, .int (nI many))]) hx hb dX5_dayPasses_107 hl (k := 4) rfl (nI_add _ 1) (by decide) rfl (fun ls hl => ?_)
          refine lv_goto (tgt := 14) hx hb dX5_dayPasses_110 (by decide) ?_
          exact ih14 many (i + 1) M1 (by omega) (by first | with_reducible exact v14_1 | exact zI_put (k := 5) d2 (by decide) (zI_u2 v14_1 (Nat.le_trans (by decide) (Nat.le_add_right 653 _)) (Nat.le_trans (by decide) (Nat.le_add_right 803 _)))) (by omega) _ _ hP hD hS ls (lv_sub hl [3, 4, 0] rfl) hq
        · have c_6 : ¬ ((v_X5_eatsNow M1 (i / (Int32.toNatClampNeg (M1 0 1))) (i % (Int32.toNatClampNeg (M1 0 1)))) ≤ 0) := c_6
          have hq := hq.trans (if_neg c_6)
          refine lv_aload_n hx hb dX5_dayPasses_57 rfl (lv_at hl 2 rfl) ?_
          refine va_get (D := D) (ci := 5) (v := .ref (u 1)) (C := RX5) (T := TX5) (N := 13) hx hb hts hinX5 hown hK.1 hP 0 rfl rfl 0 (by decide) (hts (.fieldLink RX5 7 "SaltSharesModel" "z" "[I") (List.mem_of_getElem? (i := 1) rfl)) (fun _ h9 => h9) rfl dX5_dayPasses_58 ?_
          refine lv_sipush (v := 653) hx hb dX5_dayPasses_61 (by decide) ?_
          refine lv_iload_n hx hb dX5_dayPasses_64 rfl (lv_at hl 1 rfl) ?_
          refine lv_iadd hx hb dX5_dayPasses_65 ?_
          refine lv_is (show (653 : Int32) + (nI (i / (Int32.toNatClampNeg (M1 0 1)))) = (nI (653 + (i / (Int32.toNatClampNeg (M1 0 1))))) from nI_add 653 (i / (Int32.toNatClampNeg (M1 0 1)))) ?_
          refine lv_dup2_11 hx hb dX5_dayPasses_66 rfl rfl ?_
          refine z_iald (i := 653 + (i / (Int32.toNatClampNeg (M1 0 1)))) hx hb hK hP 1 0 rfl rfl (by omega) (by decide) dX5_dayPasses_67 ?_
          refine lv_iconst (v := 1) hx hb dX5_dayPasses_68 (by decide) ?_
          refine lv_iload hx hb dX5_dayPasses_69 (lv_at hl 0 rfl) ?_
          refine lv_ishl hx hb dX5_dayPasses_71 ?_
          refine lv_ior hx hb dX5_dayPasses_72 ?_
          refine z_iast (i := 653 + (i / (Int32.toNatClampNeg (M1 0 1)))) (x := ((M1 0 (653 + (i / (Int32.toNatClampNeg (M1 0 1))))) ||| ((1 : Int32) <<< ((nI (i % (Int32.toNatClampNeg (M1 0 1)))) &&& 31)))) hx hb hK hP hD hS 1 0 rfl rfl (by omega) (by decide) dX5_dayPasses_73 (fun H locs hP hD hS => ?_)
          have hP : va_P D vwCl (zB_X5 (g 0) u (zU M1 0 (upd (M1 0) (653 + (i / (Int32.toNatClampNeg (M1 0 1)))) ((M1 0 (653 + (i / (Int32.toNatClampNeg (M1 0 1))))) ||| ((1 : Int32) <<< ((nI (i % (Int32.toNatClampNeg (M1 0 1)))) &&& 31))))) w) H := hP
          have hD : va_D (zA (zB_X5 (g 0) u M w)) (zB_X5 (g 0) u (zU M1 0 (upd (M1 0) (653 + (i / (Int32.toNatClampNeg (M1 0 1)))) ((M1 0 (653 + (i / (Int32.toNatClampNeg (M1 0 1))))) ||| ((1 : Int32) <<< ((nI (i % (Int32.toNatClampNeg (M1 0 1)))) &&& 31))))) w) := hD
          refine lv_aload_n hx hb dX5_dayPasses_74 rfl (lv_at hl 2 rfl) ?_
          refine va_get (D := D) (ci := 5) (v := .ref (u 1)) (C := RX5) (T := TX5) (N := 13) hx hb hts hinX5 hown hK.1 hP 0 rfl rfl 0 (by decide) (hts (.fieldLink RX5 7 "SaltSharesModel" "z" "[I") (List.mem_of_getElem? (i := 1) rfl)) (fun _ h9 => h9) rfl dX5_dayPasses_75 ?_
          refine lv_sipush (v := 803) hx hb dX5_dayPasses_78 (by decide) ?_
          refine lv_iload_n hx hb dX5_dayPasses_81 rfl (lv_at hl 1 rfl) ?_
          refine lv_iadd hx hb dX5_dayPasses_82 ?_
          refine lv_is (show (803 : Int32) + (nI (i / (Int32.toNatClampNeg (M1 0 1)))) = (nI (803 + (i / (Int32.toNatClampNeg (M1 0 1))))) from nI_add 803 (i / (Int32.toNatClampNeg (M1 0 1)))) ?_
          refine lv_dup2_11 hx hb dX5_dayPasses_83 rfl rfl ?_
          refine z_iald (i := 803 + (i / (Int32.toNatClampNeg (M1 0 1)))) hx hb hK hP 1 0 rfl rfl (by omega) (by decide) dX5_dayPasses_84 ?_
          refine lv_iconst (v := 1) hx hb dX5_dayPasses_85 (by decide) ?_
          refine lv_iadd hx hb dX5_dayPasses_86 ?_
          refine z_iast (i := 803 + (i / (Int32.toNatClampNeg (M1 0 1)))) (x := (((upd (M1 0) (653 + (i / (Int32.toNatClampNeg (M1 0 1)))) ((M1 0 (653 + (i / (Int32.toNatClampNeg (M1 0 1))))) ||| ((1 : Int32) <<< ((nI (i % (Int32.toNatClampNeg (M1 0 1)))) &&& 31)))) (803 + (i / (Int32.toNatClampNeg (M1 0 1))))) + 1)) hx hb hK hP hD hS 1 0 rfl rfl (by omega) (by decide) dX5_dayPasses_87 (fun H locs hP hD hS => ?_)
          have hP : va_P D vwCl (zB_X5 (g 0) u (zU M1 0 (upd (upd (M1 0) (653 + (i / (Int32.toNatClampNeg (M1 0 1)))) ((M1 0 (653 + (i / (Int32.toNatClampNeg (M1 0 1))))) ||| ((1 : Int32) <<< ((nI (i % (Int32.toNatClampNeg (M1 0 1)))) &&& 31)))) (803 + (i / (Int32.toNatClampNeg (M1 0 1)))) (((upd (M1 0) (653 + (i / (Int32.toNatClampNeg (M1 0 1)))) ((M1 0 (653 + (i / (Int32.toNatClampNeg (M1 0 1))))) ||| ((1 : Int32) <<< ((nI (i % (Int32.toNatClampNeg (M1 0 1)))) &&& 31)))) (803 + (i / (Int32.toNatClampNeg (M1 0 1))))) + 1))) w) H := hP
          have hD : va_D (zA (zB_X5 (g 0) u M w)) (zB_X5 (g 0) u (zU M1 0 (upd (upd (M1 0) (653 + (i / (Int32.toNatClampNeg (M1 0 1)))) ((M1 0 (653 + (i / (Int32.toNatClampNeg (M1 0 1))))) ||| ((1 : Int32) <<< ((nI (i % (Int32.toNatClampNeg (M1 0 1)))) &&& 31)))) (803 + (i / (Int32.toNatClampNeg (M1 0 1)))) (((upd (M1 0) (653 + (i / (Int32.toNatClampNeg (M1 0 1)))) ((M1 0 (653 + (i / (Int32.toNatClampNeg (M1 0 1))))) ||| ((1 : Int32) <<< ((nI (i % (Int32.toNatClampNeg (M1 0 1)))) &&& 31)))) (803 + (i / (Int32.toNatClampNeg (M1 0 1))))) + 1))) w) := hD
          refine lv_aload_n hx hb dX5_dayPasses_88 rfl (lv_at hl 2 rfl) ?_
          refine lv_iload hx hb dX5_dayPasses_89 (lv_at hl 0 rfl) ?_
          refine lv_iconst (v := 5) hx hb dX5_dayPasses_91 (by decide) ?_
          refine lv_aload_n hx hb dX5_dayPasses_92 rfl (lv_at hl 2 rfl) ?_
          refine lv_iload hx hb dX5_dayPasses_93 (lv_at hl 0 rfl) ?_
          refine lv_iconst (v := 5) hx hb dX5_dayPasses_95 (by decide) ?_
          refine zcV (ci := 5) (n := 2) (c_X5_of l D g u (zU M1 0 (upd (upd (M1 0) (653 + (i / (Int32.toNatClampNeg (M1 0 1)))) ((M1 0 (653 + (i / (Int32.toNatClampNeg (M1 0 1))))) ||| ((1 : Int32) <<< ((nI (i % (Int32.toNatClampNeg (M1 0 1)))) &&& 31)))) (803 + (i / (Int32.toNatClampNeg (M1 0 1)))) (((upd (M1 0) (653 + (i / (Int32.toNatClampNeg (M1 0 1)))) ((M1 0 (653 + (i / (Int32.toNatClampNeg (M1 0 1))))) ||| ((1 : Int32) <<< ((nI (i % (Int32.toNatClampNeg (M1 0 1)))) &&& 31)))) (803 + (i / (Int32.toNatClampNeg (M1 0 1))))) + 1))) w (i % (Int32.toNatClampNeg (M1 0 1))) 5 (by omega)) hx hb hml hown hts gX5_dayPasses_X5_of rfl ⟨rfl, by decide, by decide, by decide⟩ ⟨Nat.le_of_ble_eq_true rfl, Nat.le_of_ble_eq_true rfl⟩ ⟨rfl, rfl⟩ hK hP rfl rfl rfl hl.1 rfl rfl (Nat.le_of_ble_eq_true rfl) ⟨Nat.zero_le _, Nat.zero_le _⟩ dX5_dayPasses_96 ?_
          refine lv_iconst (v := 1) hx hb dX5_dayPasses_99 (by decide) ?_
          refine lv_iadd hx hb dX5_dayPasses_100 ?_
          refine zcVw (ci := 5) (n := 3) (c_X5_put l D g u (zU M1 0 (upd (upd (M1 0) (653 + (i / (Int32.toNatClampNeg (M1 0 1)))) ((M1 0 (653 + (i / (Int32.toNatClampNeg (M1 0 1))))) ||| ((1 : Int32) <<< ((nI (i % (Int32.toNatClampNeg (M1 0 1)))) &&& 31)))) (803 + (i / (Int32.toNatClampNeg (M1 0 1)))) (((upd (M1 0) (653 + (i / (Int32.toNatClampNeg (M1 0 1)))) ((M1 0 (653 + (i / (Int32.toNatClampNeg (M1 0 1))))) ||| ((1 : Int32) <<< ((nI (i % (Int32.toNatClampNeg (M1 0 1)))) &&& 31)))) (803 + (i / (Int32.toNatClampNeg (M1 0 1))))) + 1))) w (i % (Int32.toNatClampNeg (M1 0 1))) 5 ((v_X5_of (zU M1 0 (upd (upd (M1 0) (653 + (i / (Int32.toNatClampNeg (M1 0 1)))) ((M1 0 (653 + (i / (Int32.toNatClampNeg (M1 0 1))))) ||| ((1 : Int32) <<< ((nI (i % (Int32.toNatClampNeg (M1 0 1)))) &&& 31)))) (803 + (i / (Int32.toNatClampNeg (M1 0 1)))) (((upd (M1 0) (653 + (i / (Int32.toNatClampNeg (M1 0 1)))) ((M1 0 (653 + (i / (Int32.toNatClampNeg (M1 0 1))))) ||| ((1 : Int32) <<< ((nI (i % (Int32.toNatClampNeg (M1 0 1)))) &&& 31)))) (803 + (i / (Int32.toNatClampNeg (M1 0 1))))) + 1))) (i % (Int32.toNatClampNeg (M1 0 1))) 5) + 1) (by omega)) hx hb hml hown hts gX5_dayPasses_X5_put rfl ⟨rfl, by decide, by decide, by decide⟩ ⟨Nat.le_of_ble_eq_true rfl, Nat.le_of_ble_eq_true rfl⟩ ⟨rfl, rfl⟩ hK hP hD rfl rfl rfl hS hl.1 rfl rfl (Nat.le_of_ble_eq_true rfl) ⟨Nat.zero_le _, Nat.zero_le _⟩ dX5_dayPasses_101 (fun H1 locs hP1 hk1 hS => ?_)
          have hD := zD_addr (ws' := zB_X5 (g 0) u (v_X5_put (zU M1 0 (upd (upd (M1 0) (653 + (i / (Int32.toNatClampNeg (M1 0 1)))) ((M1 0 (653 + (i / (Int32.toNatClampNeg (M1 0 1))))) ||| ((1 : Int32) <<< ((nI (i % (Int32.toNatClampNeg (M1 0 1)))) &&& 31)))) (803 + (i / (Int32.toNatClampNeg (M1 0 1)))) (((upd (M1 0) (653 + (i / (Int32.toNatClampNeg (M1 0 1)))) ((M1 0 (653 + (i / (Int32.toNatClampNeg (M1 0 1))))) ||| ((1 : Int32) <<< ((nI (i % (Int32.toNatClampNeg (M1 0 1)))) &&& 31)))) (803 + (i / (Int32.toNatClampNeg (M1 0 1))))) + 1))) (i % (Int32.toNatClampNeg (M1 0 1))) 5 ((v_X5_of (zU M1 0 (upd (upd (M1 0) (653 + (i / (Int32.toNatClampNeg (M1 0 1)))) ((M1 0 (653 + (i / (Int32.toNatClampNeg (M1 0 1))))) ||| ((1 : Int32) <<< ((nI (i % (Int32.toNatClampNeg (M1 0 1)))) &&& 31)))) (803 + (i / (Int32.toNatClampNeg (M1 0 1)))) (((upd (M1 0) (653 + (i / (Int32.toNatClampNeg (M1 0 1)))) ((M1 0 (653 + (i / (Int32.toNatClampNeg (M1 0 1))))) ||| ((1 : Int32) <<< ((nI (i % (Int32.toNatClampNeg (M1 0 1)))) &&& 31)))) (803 + (i / (Int32.toNatClampNeg (M1 0 1))))) + 1))) (i % (Int32.toNatClampNeg (M1 0 1))) 5) + 1)) w) hD (by simp only [zF, List.flatten_cons, List.flatten_nil, List.append_nil, List.map_append, List.map_cons, List.map_nil, zad_X0, zad_X1, zad_X2, zad_X3, zad_X4, zad_X5]); have hP := hP1
          clear hP1 hk1
          have hP : va_P D vwCl (zB_X5 (g 0) u (v_X5_put (zU M1 0 (upd (upd (M1 0) (653 + (i / (Int32.toNatClampNeg (M1 0 1)))) ((M1 0 (653 + (i / (Int32.toNatClampNeg (M1 0 1))))) ||| ((1 : Int32) <<< ((nI (i % (Int32.toNatClampNeg (M1 0 1)))) &&& 31)))) (803 + (i / (Int32.toNatClampNeg (M1 0 1)))) (((upd (M1 0) (653 + (i / (Int32.toNatClampNeg (M1 0 1)))) ((M1 0 (653 + (i / (Int32.toNatClampNeg (M1 0 1))))) ||| ((1 : Int32) <<< ((nI (i % (Int32.toNatClampNeg (M1 0 1)))) &&& 31)))) (803 + (i / (Int32.toNatClampNeg (M1 0 1))))) + 1))) (i % (Int32.toNatClampNeg (M1 0 1))) 5 ((v_X5_of (zU M1 0 (upd (upd (M1 0) (653 + (i / (Int32.toNatClampNeg (M1 0 1)))) ((M1 0 (653 + (i / (Int32.toNatClampNeg (M1 0 1))))) ||| ((1 : Int32) <<< ((nI (i % (Int32.toNatClampNeg (M1 0 1)))) &&& 31)))) (803 + (i / (Int32.toNatClampNeg (M1 0 1)))) (((upd (M1 0) (653 + (i / (Int32.toNatClampNeg (M1 0 1)))) ((M1 0 (653 + (i / (Int32.toNatClampNeg (M1 0 1))))) ||| ((1 : Int32) <<< ((nI (i % (Int32.toNatClampNeg (M1 0 1)))) &&& 31)))) (803 + (i / (Int32.toNatClampNeg (M1 0 1))))) + 1))) (i % (Int32.toNatClampNeg (M1 0 1))) 5) + 1)) w) H1 := hP
          have hD : va_D (zA (zB_X5 (g 0) u M w)) (zB_X5 (g 0) u (v_X5_put (zU M1 0 (upd (upd (M1 0) (653 + (i / (Int32.toNatClampNeg (M1 0 1)))) ((M1 0 (653 + (i / (Int32.toNatClampNeg (M1 0 1))))) ||| ((1 : Int32) <<< ((nI (i % (Int32.toNatClampNeg (M1 0 1)))) &&& 31)))) (803 + (i / (Int32.toNatClampNeg (M1 0 1)))) (((upd (M1 0) (653 + (i / (Int32.toNatClampNeg (M1 0 1)))) ((M1 0 (653 + (i / (Int32.toNatClampNeg (M1 0 1))))) ||| ((1 : Int32) <<< ((nI (i % (Int32.toNatClampNeg (M1 0 1)))) &&& 31)))) (803 + (i / (Int32.toNatClampNeg (M1 0 1))))) + 1))) (i % (Int32.toNatClampNeg (M1 0 1))) 5 ((v_X5_of (zU M1 0 (upd (upd (M1 0) (653 + (i / (Int32.toNatClampNeg (M1 0 1)))) ((M1 0 (653 + (i / (Int32.toNatClampNeg (M1 0 1))))) ||| ((1 : Int32) <<< ((nI (i % (Int32.toNatClampNeg (M1 0 1)))) &&& 31)))) (803 + (i / (Int32.toNatClampNeg (M1 0 1)))) (((upd (M1 0) (653 + (i / (Int32.toNatClampNeg (M1 0 1)))) ((M1 0 (653 + (i / (Int32.toNatClampNeg (M1 0 1))))) ||| ((1 : Int32) <<< ((nI (i % (Int32.toNatClampNeg (M1 0 1)))) &&& 31)))) (803 + (i / (Int32.toNatClampNeg (M1 0 1))))) + 1))) (i % (Int32.toNatClampNeg (M1 0 1))) 5) + 1)) w) := hD
          refine lv_iinc (v := (nI (many + 1))) (lv' := [(1, .int (nI (many + 1))), (4, .int (nI (i % (Int32.toNatClampNeg (M1 0 1))))), (3, .int (nI (i / (Int32.toNatClampNeg (M1 0 1))))), (0, .ref (u 0)), (2, .int (nI i))]) hx hb dX5_dayPasses_104 hl (k := 3) rfl (nI_add _ 1) (by decide) rfl (fun ls hl => ?_)
          refine lv_iinc (v := (nI (i + 1))) (lv' := [(2, .int (nI (i + 1))), (1, .int (nI (many + 1))), (4, .int (nI (i % (Int32.toNatClampNeg (M1 0 1))))), (3, .int (nI (i / (Int32.toNatClampNeg (M1 0 1))))), (0, .ref (u 0))]) hx hb dX5_dayPasses_107 hl (k := 4) rfl (nI_add _ 1) (by decide) rfl (fun ls hl => ?_)
          refine lv_goto (tgt := 14) hx hb dX5_dayPasses_110 (by decide) ?_
          exact ih14 (many + 1) (i + 1) (v_X5_put (zU M1 0 (upd (upd (M1 0) (653 + (i / (Int32.toNatClampNeg (M1 0 1)))) ((M1 0 (653 + (i / (Int32.toNatClampNeg (M1 0 1))))) ||| ((1 : Int32) <<< ((nI (i % (Int32.toNatClampNeg (M1 0 1)))) &&& 31)))) (803 + (i / (Int32.toNatClampNeg (M1 0 1)))) (((upd (M1 0) (653 + (i / (Int32.toNatClampNeg (M1 0 1)))) ((M1 0 (653 + (i / (Int32.toNatClampNeg (M1 0 1))))) ||| ((1 : Int32) <<< ((nI (i % (Int32.toNatClampNeg (M1 0 1)))) &&& 31)))) (803 + (i / (Int32.toNatClampNeg (M1 0 1))))) + 1))) (i % (Int32.toNatClampNeg (M1 0 1))) 5 ((v_X5_of (zU M1 0 (upd (upd (M1 0) (653 + (i / (Int32.toNatClampNeg (M1 0 1)))) ((M1 0 (653 + (i / (Int32.toNatClampNeg (M1 0 1))))) ||| ((1 : Int32) <<< ((nI (i % (Int32.toNatClampNeg (M1 0 1)))) &&& 31)))) (803 + (i / (Int32.toNatClampNeg (M1 0 1)))) (((upd (M1 0) (653 + (i / (Int32.toNatClampNeg (M1 0 1)))) ((M1 0 (653 + (i / (Int32.toNatClampNeg (M1 0 1))))) ||| ((1 : Int32) <<< ((nI (i % (Int32.toNatClampNeg (M1 0 1)))) &&& 31)))) (803 + (i / (Int32.toNatClampNeg (M1 0 1))))) + 1))) (i % (Int32.toNatClampNeg (M1 0 1))) 5) + 1)) (by omega) (by first | with_reducible exact v14_1 | exact zI_put (k := 5) d2 (by decide) (zI_u2 v14_1 (Nat.le_trans (by decide) (Nat.le_add_right 653 _)) (Nat.le_trans (by decide) (Nat.le_add_right 803 _)))) (by omega) _ _ hP hD hS ls (lv_sub hl [4, 1, 0] rfl) hq
  exact L14 1201 0 0 (zU M 0 (upd (M 0) 0 ((M 0 0) + 1))) (by omega) (zI_day z0) (by omega) _ _ hP hD hS ls (lv_sub hl [2, 1, 0] rfl) hq
