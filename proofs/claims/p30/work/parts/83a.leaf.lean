theorem zlbk (y : Int32) : vp_in ((Int32.toUInt32 (y <<< ((1 : Int32) &&& 31)) >>> (Int32.toUInt32 1 &&& Int32.toUInt32 31)).toInt32 - (Int32.toUInt32 (y <<< ((1 : Int32) &&& 31)) >>> (Int32.toUInt32 1 &&& Int32.toUInt32 31)).toInt32 / 100 * 100) 100 := zlat (n := 100) (by decide) (by decide)
def v_L_at (x : Int32) (n : Int32) : Int32 := (((Int32.toUInt32 x >>> (Int32.toUInt32 1 &&& Int32.toUInt32 31)).toInt32) - ((Int32.toUInt32 x >>> (Int32.toUInt32 1 &&& Int32.toUInt32 31)).toInt32) / n * n)
set_option maxHeartbeats 400000 in
set_option maxRecDepth 100000 in
theorem c_L_at (l : Launch) (D : va_G) (g : Nat → ClassId) (x : Int32) (n : Int32) (z0 : ¬ n = 0) : Rd l D (zT g) yL_at wsL_at (rmOf 0 0) [.int x, .int n] ([]) (.int (v_L_at x n)) := by
  refine Rd.of (cc := cL_at) (maxL := 2) (ret := (some .int)) (by decide) rfl (Nat.le_of_ble_eq_true rfl) ?_
  intro p e s m below meth c ls hx hb hr hml hown hts hlocks hP hK hl
  have hown : s.vm.findClass RL = some m.cls := hown
  obtain ⟨q, hq⟩ : ∃ q : Int32, q = v_L_at x n := ⟨_, rfl⟩
  rw [← hq]
  unfold v_L_at at hq
  have hl : lv_has ls 2 [(0, .int x), (1, .int n)] := hl
  refine lv_iload_n hx hb dL_at_0 rfl (lv_at hl 0 rfl) ?_
  refine lv_iconst (v := 1) hx hb dL_at_1 (by decide) ?_
  refine lv_iushr hx hb dL_at_2 rfl ?_
  refine lv_iload_n hx hb dL_at_3 rfl (lv_at hl 1 rfl) ?_
  refine lv_irem hx hb dL_at_4 z0 ?_
  exact zret_i hx hb hr hlocks dL_at_5 hq
def v_L_bucket (pe : Nat) (sal : Int32) : Nat := Int32.toNatClampNeg (((Int32.toUInt32 (((((((((-1640531535 : Int32) * (nI pe)) + ((40503 : Int32) * sal)) ^^^ ((Int32.toUInt32 (((-1640531535 : Int32) * (nI pe)) + ((40503 : Int32) * sal)) >>> (Int32.toUInt32 15 &&& Int32.toUInt32 31)).toInt32)) * (-2048144777)) ^^^ ((Int32.toUInt32 (((((-1640531535 : Int32) * (nI pe)) + ((40503 : Int32) * sal)) ^^^ ((Int32.toUInt32 (((-1640531535 : Int32) * (nI pe)) + ((40503 : Int32) * sal)) >>> (Int32.toUInt32 15 &&& Int32.toUInt32 31)).toInt32)) * (-2048144777)) >>> (Int32.toUInt32 13 &&& Int32.toUInt32 31)).toInt32)) * (-1028477379)) ^^^ ((Int32.toUInt32 (((((((-1640531535 : Int32) * (nI pe)) + ((40503 : Int32) * sal)) ^^^ ((Int32.toUInt32 (((-1640531535 : Int32) * (nI pe)) + ((40503 : Int32) * sal)) >>> (Int32.toUInt32 15 &&& Int32.toUInt32 31)).toInt32)) * (-2048144777)) ^^^ ((Int32.toUInt32 (((((-1640531535 : Int32) * (nI pe)) + ((40503 : Int32) * sal)) ^^^ ((Int32.toUInt32 (((-1640531535 : Int32) * (nI pe)) + ((40503 : Int32) * sal)) >>> (Int32.toUInt32 15 &&& Int32.toUInt32 31)).toInt32)) * (-2048144777)) >>> (Int32.toUInt32 13 &&& Int32.toUInt32 31)).toInt32)) * (-1028477379)) >>> (Int32.toUInt32 16 &&& Int32.toUInt32 31)).toInt32)) <<< (1 &&& 31)) >>> (Int32.toUInt32 1 &&& Int32.toUInt32 31)).toInt32) - ((Int32.toUInt32 (((((((((-1640531535 : Int32) * (nI pe)) + ((40503 : Int32) * sal)) ^^^ ((Int32.toUInt32 (((-1640531535 : Int32) * (nI pe)) + ((40503 : Int32) * sal)) >>> (Int32.toUInt32 15 &&& Int32.toUInt32 31)).toInt32)) * (-2048144777)) ^^^ ((Int32.toUInt32 (((((-1640531535 : Int32) * (nI pe)) + ((40503 : Int32) * sal)) ^^^ ((Int32.toUInt32 (((-1640531535 : Int32) * (nI pe)) + ((40503 : Int32) * sal)) >>> (Int32.toUInt32 15 &&& Int32.toUInt32 31)).toInt32)) * (-2048144777)) >>> (Int32.toUInt32 13 &&& Int32.toUInt32 31)).toInt32)) * (-1028477379)) ^^^ ((Int32.toUInt32 (((((((-1640531535 : Int32) * (nI pe)) + ((40503 : Int32) * sal)) ^^^ ((Int32.toUInt32 (((-1640531535 : Int32) * (nI pe)) + ((40503 : Int32) * sal)) >>> (Int32.toUInt32 15 &&& Int32.toUInt32 31)).toInt32)) * (-2048144777)) ^^^ ((Int32.toUInt32 (((((-1640531535 : Int32) * (nI pe)) + ((40503 : Int32) * sal)) ^^^ ((Int32.toUInt32 (((-1640531535 : Int32) * (nI pe)) + ((40503 : Int32) * sal)) >>> (Int32.toUInt32 15 &&& Int32.toUInt32 31)).toInt32)) * (-2048144777)) >>> (Int32.toUInt32 13 &&& Int32.toUInt32 31)).toInt32)) * (-1028477379)) >>> (Int32.toUInt32 16 &&& Int32.toUInt32 31)).toInt32)) <<< (1 &&& 31)) >>> (Int32.toUInt32 1 &&& Int32.toUInt32 31)).toInt32) / 100 * 100)
set_option maxHeartbeats 400000 in
set_option maxRecDepth 100000 in
theorem c_L_bucket (l : Launch) (D : va_G) (g : Nat → ClassId) (pe : Nat) (sal : Int32) : Rd l D (zT g) yL_bucket wsL_bucket (rmOf 0 0) [.int (nI pe), .int sal] ([]) (.int (nI (v_L_bucket pe sal))) := by
  refine Rd.of (cc := cL_bucket) (maxL := 3) (ret := (some .int)) (by decide) rfl (Nat.le_of_ble_eq_true rfl) ?_
  intro p e s m below meth c ls hx hb hr hml hown hts hlocks hP hK hl
  have hown : s.vm.findClass RL = some m.cls := hown
  obtain ⟨q, hq⟩ : ∃ q : Nat, q = v_L_bucket pe sal := ⟨_, rfl⟩
  rw [← hq]
  unfold v_L_bucket at hq
  have hl : lv_has ls 3 [(0, .int (nI pe)), (1, .int sal)] := hl
  refine lv_ldc (v := (-1640531535)) hx hb hown (hts (.constant RL 8 (-1640531535)) (List.mem_of_getElem? (i := 1) rfl)) dL_bucket_0 ?_
  refine lv_iload_n hx hb dL_bucket_2 rfl (lv_at hl 0 rfl) ?_
  refine lv_imul hx hb dL_bucket_3 ?_
  refine lv_ldc (v := 40503) hx hb hown (hts (.constant RL 9 (40503)) (List.mem_of_getElem? (i := 2) rfl)) dL_bucket_4 ?_
  refine lv_iload_n hx hb dL_bucket_6 rfl (lv_at hl 1 rfl) ?_
  refine lv_imul hx hb dL_bucket_7 ?_
  refine lv_iadd hx hb dL_bucket_8 ?_
  refine lv_istore_n (lv' := [(2, .int (((-1640531535 : Int32) * (nI pe)) + ((40503 : Int32) * sal))), (0, .int (nI pe)), (1, .int sal)]) hx hb dL_bucket_9 rfl hl (by decide) rfl (fun ls hl => ?_)
  refine lv_iload_n hx hb dL_bucket_10 rfl (lv_at hl 0 rfl) ?_
  refine lv_iload_n hx hb dL_bucket_11 rfl (lv_at hl 0 rfl) ?_
  refine lv_bipush (v := 15) hx hb dL_bucket_12 (by decide) ?_
  refine lv_iushr hx hb dL_bucket_14 rfl ?_
  refine lv_ixor hx hb dL_bucket_15 ?_
  refine lv_istore_n (lv' := [(2, .int ((((-1640531535 : Int32) * (nI pe)) + ((40503 : Int32) * sal)) ^^^ ((Int32.toUInt32 (((-1640531535 : Int32) * (nI pe)) + ((40503 : Int32) * sal)) >>> (Int32.toUInt32 15 &&& Int32.toUInt32 31)).toInt32))), (0, .int (nI pe)), (1, .int sal)]) hx hb dL_bucket_16 rfl hl (by decide) rfl (fun ls hl => ?_)
  refine lv_iload_n hx hb dL_bucket_17 rfl (lv_at hl 0 rfl) ?_
  refine lv_ldc (v := (-2048144777)) hx hb hown (hts (.constant RL 10 (-2048144777)) (List.mem_of_getElem? (i := 3) rfl)) dL_bucket_18 ?_
  refine lv_imul hx hb dL_bucket_20 ?_
  refine lv_istore_n (lv' := [(2, .int (((((-1640531535 : Int32) * (nI pe)) + ((40503 : Int32) * sal)) ^^^ ((Int32.toUInt32 (((-1640531535 : Int32) * (nI pe)) + ((40503 : Int32) * sal)) >>> (Int32.toUInt32 15 &&& Int32.toUInt32 31)).toInt32)) * (-2048144777))), (0, .int (nI pe)), (1, .int sal)]) hx hb dL_bucket_21 rfl hl (by decide) rfl (fun ls hl => ?_)
  refine lv_iload_n hx hb dL_bucket_22 rfl (lv_at hl 0 rfl) ?_
  refine lv_iload_n hx hb dL_bucket_23 rfl (lv_at hl 0 rfl) ?_
  refine lv_bipush (v := 13) hx hb dL_bucket_24 (by decide) ?_
  refine lv_iushr hx hb dL_bucket_26 rfl ?_
  refine lv_ixor hx hb dL_bucket_27 ?_
  refine lv_istore_n (lv' := [(2, .int ((((((-1640531535 : Int32) * (nI pe)) + ((40503 : Int32) * sal)) ^^^ ((Int32.toUInt32 (((-1640531535 : Int32) * (nI pe)) + ((40503 : Int32) * sal)) >>> (Int32.toUInt32 15 &&& Int32.toUInt32 31)).toInt32)) * (-2048144777)) ^^^ ((Int32.toUInt32 (((((-1640531535 : Int32) * (nI pe)) + ((40503 : Int32) * sal)) ^^^ ((Int32.toUInt32 (((-1640531535 : Int32) * (nI pe)) + ((40503 : Int32) * sal)) >>> (Int32.toUInt32 15 &&& Int32.toUInt32 31)).toInt32)) * (-2048144777)) >>> (Int32.toUInt32 13 &&& Int32.toUInt32 31)).toInt32))), (0, .int (nI pe)), (1, .int sal)]) hx hb dL_bucket_28 rfl hl (by decide) rfl (fun ls hl => ?_)
  refine lv_iload_n hx hb dL_bucket_29 rfl (lv_at hl 0 rfl) ?_
  refine lv_ldc (v := (-1028477379)) hx hb hown (hts (.constant RL 11 (-1028477379)) (List.mem_of_getElem? (i := 4) rfl)) dL_bucket_30 ?_
  refine lv_imul hx hb dL_bucket_32 ?_
  refine lv_istore_n (lv' := [(2, .int (((((((-1640531535 : Int32) * (nI pe)) + ((40503 : Int32) * sal)) ^^^ ((Int32.toUInt32 (((-1640531535 : Int32) * (nI pe)) + ((40503 : Int32) * sal)) >>> (Int32.toUInt32 15 &&& Int32.toUInt32 31)).toInt32)) * (-2048144777)) ^^^ ((Int32.toUInt32 (((((-1640531535 : Int32) * (nI pe)) + ((40503 : Int32) * sal)) ^^^ ((Int32.toUInt32 (((-1640531535 : Int32) * (nI pe)) + ((40503 : Int32) * sal)) >>> (Int32.toUInt32 15 &&& Int32.toUInt32 31)).toInt32)) * (-2048144777)) >>> (Int32.toUInt32 13 &&& Int32.toUInt32 31)).toInt32)) * (-1028477379))), (0, .int (nI pe)), (1, .int sal)]) hx hb dL_bucket_33 rfl hl (by decide) rfl (fun ls hl => ?_)
  refine lv_iload_n hx hb dL_bucket_34 rfl (lv_at hl 0 rfl) ?_
  refine lv_iload_n hx hb dL_bucket_35 rfl (lv_at hl 0 rfl) ?_
  refine lv_bipush (v := 16) hx hb dL_bucket_36 (by decide) ?_
  refine lv_iushr hx hb dL_bucket_38 rfl ?_
  refine lv_ixor hx hb dL_bucket_39 ?_
  refine lv_istore_n (lv' := [(2, .int ((((((((-1640531535 : Int32) * (nI pe)) + ((40503 : Int32) * sal)) ^^^ ((Int32.toUInt32 (((-1640531535 : Int32) * (nI pe)) + ((40503 : Int32) * sal)) >>> (Int32.toUInt32 15 &&& Int32.toUInt32 31)).toInt32)) * (-2048144777)) ^^^ ((Int32.toUInt32 (((((-1640531535 : Int32) * (nI pe)) + ((40503 : Int32) * sal)) ^^^ ((Int32.toUInt32 (((-1640531535 : Int32) * (nI pe)) + ((40503 : Int32) * sal)) >>> (Int32.toUInt32 15 &&& Int32.toUInt32 31)).toInt32)) * (-2048144777)) >>> (Int32.toUInt32 13 &&& Int32.toUInt32 31)).toInt32)) * (-1028477379)) ^^^ ((Int32.toUInt32 (((((((-1640531535 : Int32) * (nI pe)) + ((40503 : Int32) * sal)) ^^^ ((Int32.toUInt32 (((-1640531535 : Int32) * (nI pe)) + ((40503 : Int32) * sal)) >>> (Int32.toUInt32 15 &&& Int32.toUInt32 31)).toInt32)) * (-2048144777)) ^^^ ((Int32.toUInt32 (((((-1640531535 : Int32) * (nI pe)) + ((40503 : Int32) * sal)) ^^^ ((Int32.toUInt32 (((-1640531535 : Int32) * (nI pe)) + ((40503 : Int32) * sal)) >>> (Int32.toUInt32 15 &&& Int32.toUInt32 31)).toInt32)) * (-2048144777)) >>> (Int32.toUInt32 13 &&& Int32.toUInt32 31)).toInt32)) * (-1028477379)) >>> (Int32.toUInt32 16 &&& Int32.toUInt32 31)).toInt32))), (0, .int (nI pe)), (1, .int sal)]) hx hb dL_bucket_40 rfl hl (by decide) rfl (fun ls hl => ?_)
  refine lv_iload_n hx hb dL_bucket_41 rfl (lv_at hl 0 rfl) ?_
  refine lv_iconst (v := 1) hx hb dL_bucket_42 (by decide) ?_
  refine lv_ishl hx hb dL_bucket_43 ?_
  refine lv_iconst (v := 1) hx hb dL_bucket_44 (by decide) ?_
  refine lv_iushr hx hb dL_bucket_45 rfl ?_
  refine lv_bipush (v := 100) hx hb dL_bucket_46 (by decide) ?_
  refine lv_irem hx hb dL_bucket_48 (by decide) ?_
  refine lv_is (znat (zlbk _)).1 ?_
  exact zret_i hx hb hr hlocks dL_bucket_49 (congrArg nI hq)
theorem v_L_bucket_lt (pe : Nat) (s : Int32) : v_L_bucket pe s < 100 := (znat (zlbk _)).2
def v_L_has_0 (Q : Nat → Nat → Int64) (w : Nat) (b : Nat) (k : Nat) : Bool := (if (lg_cmp (((Q 0 (w * b + (k / 50))) >>> (Int32.toInt64 (nI (k % 50)) &&& 63)) &&& 1) 1) = 0 then true else false)
set_option maxHeartbeats 400000 in
set_option maxRecDepth 100000 in
theorem c_L_has_0 (l : Launch) (D : va_G) (g : Nat → ClassId) (yq : Nat → Nat) (Q : Nat → Nat → Int64) (w : Nat) (b : Nat) (k : Nat) (z0 : w * b + k / 50 < 10) (z1 : k < 150) : Rd l D (zT g) yL_has wsL_has (rmOf 0 0) [.ref (yq 1), .int (nI w), .int (nI b), .int (nI k)] (zB_LQ (g 2) yq Q) (.int (bI (v_L_has_0 Q w b k))) := by
  refine Rd.of (cc := cL_has) (maxL := 4) (ret := (some .boolean)) (by decide) rfl (Nat.le_of_ble_eq_true rfl) ?_
  intro p e s m below meth c ls hx hb hr hml hown hts hlocks hP hK hl
  have hown : s.vm.findClass RL = some m.cls := hown
  obtain ⟨q, hq⟩ : ∃ q : Bool, q = v_L_has_0 Q w b k := ⟨_, rfl⟩
  rw [← hq]
  unfold v_L_has_0 at hq
  have hl : lv_has ls 4 [(0, .ref (yq 1)), (1, .int (nI w)), (2, .int (nI b)), (3, .int (nI k))] := hl
  refine lv_aload_n hx hb dL_has_0 rfl (lv_at hl 0 rfl) ?_
  refine lv_iload_n hx hb dL_has_1 rfl (lv_at hl 1 rfl) ?_
  refine lv_iload_n hx hb dL_has_2 rfl (lv_at hl 2 rfl) ?_
  refine lv_imul hx hb dL_has_3 ?_
  refine lv_is (show (nI w) * (nI b) = (nI (w * b)) from pk_mul w b) ?_
  refine lv_iload_n hx hb dL_has_4 rfl (lv_at hl 3 rfl) ?_
  refine lv_bipush (v := 50) hx hb dL_has_5 (by decide) ?_
  refine lv_idiv hx hb dL_has_7 (by decide) ?_
  refine lv_is (show (nI k) / 50 = (nI (k / 50)) from (zdiv50 (by omega))) ?_
  refine lv_iadd hx hb dL_has_8 ?_
  refine lv_is (show (nI (w * b)) + (nI (k / 50)) = (nI (w * b + (k / 50))) from nI_add (w * b) (k / 50)) ?_
  refine z_lald (i := w * b + (k / 50)) hx hb hK hP 0 2 rfl rfl z0 (by decide) dL_has_9 ?_
  refine lv_iload_n hx hb dL_has_10 rfl (lv_at hl 3 rfl) ?_
  refine lv_bipush (v := 50) hx hb dL_has_11 (by decide) ?_
  refine lv_irem hx hb dL_has_13 (by decide) ?_
  refine lv_is (show (nI k) - (nI k) / 50 * 50 = (nI (k % 50)) from (zrem50 (by omega))) ?_
  refine lv_lshr hx hb dL_has_14 rfl ?_
  refine lv_lconst (v := 1) hx hb dL_has_15 (by decide) ?_
  refine lv_land hx hb dL_has_16 ?_
  refine lv_lconst (v := 1) hx hb dL_has_17 (by decide) ?_
  refine W.lcmp hx hb dL_has_18 ?_
  refine lv_if_ne (tgt := 26) hx hb dL_has_19 (by decide) (fun c_1 => ?_) (fun c_1 => ?_)
  · have c_1 : ¬ ((lg_cmp (((Q 0 (w * b + (k / 50))) >>> (Int32.toInt64 (nI (k % 50)) &&& 63)) &&& 1) 1) = 0) := c_1
    have hq := hq.trans (if_neg c_1)
    refine lv_iconst (v := 0) hx hb dL_has_26 (by decide) ?_
    exact zret_z (q' := false) hx hb hr hlocks dL_has_27 hq
  · have c_1 : (lg_cmp (((Q 0 (w * b + (k / 50))) >>> (Int32.toInt64 (nI (k % 50)) &&& 63)) &&& 1) 1) = 0 := c_1
    have hq := hq.trans (if_pos c_1)
    refine lv_iconst (v := 1) hx hb dL_has_22 (by decide) ?_
    refine lv_goto (tgt := 27) hx hb dL_has_23 (by decide) ?_
    exact zret_z (q' := true) hx hb hr hlocks dL_has_27 hq
def v_L_has_1 (Q : Nat → Nat → Int64) (w : Nat) (b : Nat) (k : Nat) : Bool := (if (lg_cmp (((Q 1 (w * b + (k / 50))) >>> (Int32.toInt64 (nI (k % 50)) &&& 63)) &&& 1) 1) = 0 then true else false)
set_option maxHeartbeats 400000 in
set_option maxRecDepth 100000 in
theorem c_L_has_1 (l : Launch) (D : va_G) (g : Nat → ClassId) (yq : Nat → Nat) (Q : Nat → Nat → Int64) (w : Nat) (b : Nat) (k : Nat) (z0 : w * b + k / 50 < 15) (z1 : k < 150) : Rd l D (zT g) yL_has wsL_has (rmOf 0 0) [.ref (yq 2), .int (nI w), .int (nI b), .int (nI k)] (zB_LQ (g 2) yq Q) (.int (bI (v_L_has_1 Q w b k))) := by
  refine Rd.of (cc := cL_has) (maxL := 4) (ret := (some .boolean)) (by decide) rfl (Nat.le_of_ble_eq_true rfl) ?_
  intro p e s m below meth c ls hx hb hr hml hown hts hlocks hP hK hl
  have hown : s.vm.findClass RL = some m.cls := hown
  obtain ⟨q, hq⟩ : ∃ q : Bool, q = v_L_has_1 Q w b k := ⟨_, rfl⟩
  rw [← hq]
  unfold v_L_has_1 at hq
  have hl : lv_has ls 4 [(0, .ref (yq 2)), (1, .int (nI w)), (2, .int (nI b)), (3, .int (nI k))] := hl
  refine lv_aload_n hx hb dL_has_0 rfl (lv_at hl 0 rfl) ?_
  refine lv_iload_n hx hb dL_has_1 rfl (lv_at hl 1 rfl) ?_
  refine lv_iload_n hx hb dL_has_2 rfl (lv_at hl 2 rfl) ?_
  refine lv_imul hx hb dL_has_3 ?_
  refine lv_is (show (nI w) * (nI b) = (nI (w * b)) from pk_mul w b) ?_
  refine lv_iload_n hx hb dL_has_4 rfl (lv_at hl 3 rfl) ?_
  refine lv_bipush (v := 50) hx hb dL_has_5 (by decide) ?_
  refine lv_idiv hx hb dL_has_7 (by decide) ?_
  refine lv_is (show (nI k) / 50 = (nI (k / 50)) from (zdiv50 (by omega))) ?_
  refine lv_iadd hx hb dL_has_8 ?_
  refine lv_is (show (nI (w * b)) + (nI (k / 50)) = (nI (w * b + (k / 50))) from nI_add (w * b) (k / 50)) ?_
  refine z_lald (i := w * b + (k / 50)) hx hb hK hP 1 2 rfl rfl z0 (by decide) dL_has_9 ?_
  refine lv_iload_n hx hb dL_has_10 rfl (lv_at hl 3 rfl) ?_
  refine lv_bipush (v := 50) hx hb dL_has_11 (by decide) ?_
  refine lv_irem hx hb dL_has_13 (by decide) ?_
  refine lv_is (show (nI k) - (nI k) / 50 * 50 = (nI (k % 50)) from (zrem50 (by omega))) ?_
  refine lv_lshr hx hb dL_has_14 rfl ?_
  refine lv_lconst (v := 1) hx hb dL_has_15 (by decide) ?_
  refine lv_land hx hb dL_has_16 ?_
  refine lv_lconst (v := 1) hx hb dL_has_17 (by decide) ?_
  refine W.lcmp hx hb dL_has_18 ?_
  refine lv_if_ne (tgt := 26) hx hb dL_has_19 (by decide) (fun c_1 => ?_) (fun c_1 => ?_)
  · have c_1 : ¬ ((lg_cmp (((Q 1 (w * b + (k / 50))) >>> (Int32.toInt64 (nI (k % 50)) &&& 63)) &&& 1) 1) = 0) := c_1
    have hq := hq.trans (if_neg c_1)
    refine lv_iconst (v := 0) hx hb dL_has_26 (by decide) ?_
    exact zret_z (q' := false) hx hb hr hlocks dL_has_27 hq
  · have c_1 : (lg_cmp (((Q 1 (w * b + (k / 50))) >>> (Int32.toInt64 (nI (k % 50)) &&& 63)) &&& 1) 1) = 0 := c_1
    have hq := hq.trans (if_pos c_1)
    refine lv_iconst (v := 1) hx hb dL_has_22 (by decide) ?_
    refine lv_goto (tgt := 27) hx hb dL_has_23 (by decide) ?_
    exact zret_z (q' := true) hx hb hr hlocks dL_has_27 hq
def v_L_has_2 (Q : Nat → Nat → Int64) (w : Nat) (b : Nat) (k : Nat) : Bool := (if (lg_cmp (((Q 2 (w * b + (k / 50))) >>> (Int32.toInt64 (nI (k % 50)) &&& 63)) &&& 1) 1) = 0 then true else false)
set_option maxHeartbeats 400000 in
set_option maxRecDepth 100000 in
theorem c_L_has_2 (l : Launch) (D : va_G) (g : Nat → ClassId) (yq : Nat → Nat) (Q : Nat → Nat → Int64) (w : Nat) (b : Nat) (k : Nat) (z0 : w * b + k / 50 < 15) (z1 : k < 150) : Rd l D (zT g) yL_has wsL_has (rmOf 0 0) [.ref (yq 3), .int (nI w), .int (nI b), .int (nI k)] (zB_LQ (g 2) yq Q) (.int (bI (v_L_has_2 Q w b k))) := by
  refine Rd.of (cc := cL_has) (maxL := 4) (ret := (some .boolean)) (by decide) rfl (Nat.le_of_ble_eq_true rfl) ?_
  intro p e s m below meth c ls hx hb hr hml hown hts hlocks hP hK hl
  have hown : s.vm.findClass RL = some m.cls := hown
  obtain ⟨q, hq⟩ : ∃ q : Bool, q = v_L_has_2 Q w b k := ⟨_, rfl⟩
  rw [← hq]
  unfold v_L_has_2 at hq
  have hl : lv_has ls 4 [(0, .ref (yq 3)), (1, .int (nI w)), (2, .int (nI b)), (3, .int (nI k))] := hl
  refine lv_aload_n hx hb dL_has_0 rfl (lv_at hl 0 rfl) ?_
  refine lv_iload_n hx hb dL_has_1 rfl (lv_at hl 1 rfl) ?_
  refine lv_iload_n hx hb dL_has_2 rfl (lv_at hl 2 rfl) ?_
  refine lv_imul hx hb dL_has_3 ?_
  refine lv_is (show (nI w) * (nI b) = (nI (w * b)) from pk_mul w b) ?_
  refine lv_iload_n hx hb dL_has_4 rfl (lv_at hl 3 rfl) ?_
  refine lv_bipush (v := 50) hx hb dL_has_5 (by decide) ?_
  refine lv_idiv hx hb dL_has_7 (by decide) ?_
  refine lv_is (show (nI k) / 50 = (nI (k / 50)) from (zdiv50 (by omega))) ?_
  refine lv_iadd hx hb dL_has_8 ?_
  refine lv_is (show (nI (w * b)) + (nI (k / 50)) = (nI (w * b + (k / 50))) from nI_add (w * b) (k / 50)) ?_
  refine z_lald (i := w * b + (k / 50)) hx hb hK hP 2 2 rfl rfl z0 (by decide) dL_has_9 ?_
  refine lv_iload_n hx hb dL_has_10 rfl (lv_at hl 3 rfl) ?_
  refine lv_bipush (v := 50) hx hb dL_has_11 (by decide) ?_
  refine lv_irem hx hb dL_has_13 (by decide) ?_
  refine lv_is (show (nI k) - (nI k) / 50 * 50 = (nI (k % 50)) from (zrem50 (by omega))) ?_
  refine lv_lshr hx hb dL_has_14 rfl ?_
  refine lv_lconst (v := 1) hx hb dL_has_15 (by decide) ?_
  refine lv_land hx hb dL_has_16 ?_
  refine lv_lconst (v := 1) hx hb dL_has_17 (by decide) ?_
  refine W.lcmp hx hb dL_has_18 ?_
  refine lv_if_ne (tgt := 26) hx hb dL_has_19 (by decide) (fun c_1 => ?_) (fun c_1 => ?_)
  · have c_1 : ¬ ((lg_cmp (((Q 2 (w * b + (k / 50))) >>> (Int32.toInt64 (nI (k % 50)) &&& 63)) &&& 1) 1) = 0) := c_1
    have hq := hq.trans (if_neg c_1)
    refine lv_iconst (v := 0) hx hb dL_has_26 (by decide) ?_
    exact zret_z (q' := false) hx hb hr hlocks dL_has_27 hq
  · have c_1 : (lg_cmp (((Q 2 (w * b + (k / 50))) >>> (Int32.toInt64 (nI (k % 50)) &&& 63)) &&& 1) 1) = 0 := c_1
    have hq := hq.trans (if_pos c_1)
    refine lv_iconst (v := 1) hx hb dL_has_22 (by decide) ?_
    refine lv_goto (tgt := 27) hx hb dL_has_23 (by decide) ?_
    exact zret_z (q' := true) hx hb hr hlocks dL_has_27 hq
def v_L_has_3 (Q : Nat → Nat → Int64) (w : Nat) (b : Nat) (k : Nat) : Bool := (if (lg_cmp (((Q 3 (w * b + (k / 50))) >>> (Int32.toInt64 (nI (k % 50)) &&& 63)) &&& 1) 1) = 0 then true else false)
set_option maxHeartbeats 400000 in
set_option maxRecDepth 100000 in
theorem c_L_has_3 (l : Launch) (D : va_G) (g : Nat → ClassId) (yq : Nat → Nat) (Q : Nat → Nat → Int64) (w : Nat) (b : Nat) (k : Nat) (z0 : w * b + k / 50 < 15) (z1 : k < 150) : Rd l D (zT g) yL_has wsL_has (rmOf 0 0) [.ref (yq 4), .int (nI w), .int (nI b), .int (nI k)] (zB_LQ (g 2) yq Q) (.int (bI (v_L_has_3 Q w b k))) := by
  refine Rd.of (cc := cL_has) (maxL := 4) (ret := (some .boolean)) (by decide) rfl (Nat.le_of_ble_eq_true rfl) ?_
  intro p e s m below meth c ls hx hb hr hml hown hts hlocks hP hK hl
  have hown : s.vm.findClass RL = some m.cls := hown
  obtain ⟨q, hq⟩ : ∃ q : Bool, q = v_L_has_3 Q w b k := ⟨_, rfl⟩
  rw [← hq]
  unfold v_L_has_3 at hq
  have hl : lv_has ls 4 [(0, .ref (yq 4)), (1, .int (nI w)), (2, .int (nI b)), (3, .int (nI k))] := hl
  refine lv_aload_n hx hb dL_has_0 rfl (lv_at hl 0 rfl) ?_
  refine lv_iload_n hx hb dL_has_1 rfl (lv_at hl 1 rfl) ?_
  refine lv_iload_n hx hb dL_has_2 rfl (lv_at hl 2 rfl) ?_
  refine lv_imul hx hb dL_has_3 ?_
  refine lv_is (show (nI w) * (nI b) = (nI (w * b)) from pk_mul w b) ?_
  refine lv_iload_n hx hb dL_has_4 rfl (lv_at hl 3 rfl) ?_
  refine lv_bipush (v := 50) hx hb dL_has_5 (by decide) ?_
  refine lv_idiv hx hb dL_has_7 (by decide) ?_
  refine lv_is (show (nI k) / 50 = (nI (k / 50)) from (zdiv50 (by omega))) ?_
  refine lv_iadd hx hb dL_has_8 ?_
  refine lv_is (show (nI (w * b)) + (nI (k / 50)) = (nI (w * b + (k / 50))) from nI_add (w * b) (k / 50)) ?_
  refine z_lald (i := w * b + (k / 50)) hx hb hK hP 3 2 rfl rfl z0 (by decide) dL_has_9 ?_
  refine lv_iload_n hx hb dL_has_10 rfl (lv_at hl 3 rfl) ?_
  refine lv_bipush (v := 50) hx hb dL_has_11 (by decide) ?_
  refine lv_irem hx hb dL_has_13 (by decide) ?_
  refine lv_is (show (nI k) - (nI k) / 50 * 50 = (nI (k % 50)) from (zrem50 (by omega))) ?_
  refine lv_lshr hx hb dL_has_14 rfl ?_
  refine lv_lconst (v := 1) hx hb dL_has_15 (by decide) ?_
  refine lv_land hx hb dL_has_16 ?_
  refine lv_lconst (v := 1) hx hb dL_has_17 (by decide) ?_
  refine W.lcmp hx hb dL_has_18 ?_
  refine lv_if_ne (tgt := 26) hx hb dL_has_19 (by decide) (fun c_1 => ?_) (fun c_1 => ?_)
  · have c_1 : ¬ ((lg_cmp (((Q 3 (w * b + (k / 50))) >>> (Int32.toInt64 (nI (k % 50)) &&& 63)) &&& 1) 1) = 0) := c_1
    have hq := hq.trans (if_neg c_1)
    refine lv_iconst (v := 0) hx hb dL_has_26 (by decide) ?_
    exact zret_z (q' := false) hx hb hr hlocks dL_has_27 hq
  · have c_1 : (lg_cmp (((Q 3 (w * b + (k / 50))) >>> (Int32.toInt64 (nI (k % 50)) &&& 63)) &&& 1) 1) = 0 := c_1
    have hq := hq.trans (if_pos c_1)
    refine lv_iconst (v := 1) hx hb dL_has_22 (by decide) ?_
    refine lv_goto (tgt := 27) hx hb dL_has_23 (by decide) ?_
    exact zret_z (q' := true) hx hb hr hlocks dL_has_27 hq
def v_L_put_0 (Q : Nat → Nat → Int64) (w : Nat) (b : Nat) (k : Nat) (ison : Bool) : (Nat → Nat → Int64) := (if ison = true then zU Q 0 (vp_updL (Q 0) (w * b + (k / 50)) ((Q 0 (w * b + (k / 50))) ||| (1 <<< (Int32.toInt64 (nI (k % 50)) &&& 63)))) else zU Q 0 (vp_updL (Q 0) (w * b + (k / 50)) ((Q 0 (w * b + (k / 50))) &&& ((1 <<< (Int32.toInt64 (nI (k % 50)) &&& 63)) ^^^ (-1)))))
set_option maxHeartbeats 400000 in
set_option maxRecDepth 100000 in
theorem c_L_put_0 (l : Launch) (D : va_G) (g : Nat → ClassId) (yq : Nat → Nat) (Q : Nat → Nat → Int64) (w : Nat) (b : Nat) (k : Nat) (ison : Bool) (z0 : w * b + k / 50 < 10) (z1 : k < 150) : Wr l D (zT g) yL_put wsL_put (rmOf 0 0) [.ref (yq 1), .int (nI w), .int (nI b), .int (nI k), .int (bI ison)] (zB_LQ (g 2) yq Q) (none) (zB_LQ (g 2) yq (v_L_put_0 Q w b k ison)) := by
  refine Wr.of (cc := cL_put) (maxL := 9) (ret := none) (by decide) rfl (Nat.le_of_ble_eq_true rfl) ?_
  intro p e s m below meth c ls hx hb hr hml hown hts hlocks hP hD hS hK hl
  have hown : s.vm.findClass RL = some m.cls := hown
  obtain ⟨q, hq⟩ : ∃ q : (Nat → Nat → Int64), q = v_L_put_0 Q w b k ison := ⟨_, rfl⟩
  rw [← hq]
  unfold v_L_put_0 at hq
  have hl : lv_has ls 9 [(0, .ref (yq 1)), (1, .int (nI w)), (2, .int (nI b)), (3, .int (nI k)), (4, .int (bI ison))] := hl
  refine lv_lconst (v := 1) hx hb dL_put_0 (by decide) ?_
  refine lv_iload_n hx hb dL_put_1 rfl (lv_at hl 3 rfl) ?_
  refine lv_bipush (v := 50) hx hb dL_put_2 (by decide) ?_
  refine lv_irem hx hb dL_put_4 (by decide) ?_
  refine lv_is (show (nI k) - (nI k) / 50 * 50 = (nI (k % 50)) from (zrem50 (by omega))) ?_
  refine lv_lshl hx hb dL_put_5 rfl ?_
  refine lv_lstore (lv' := [(5, .long (1 <<< (Int32.toInt64 (nI (k % 50)) &&& 63))), (0, .ref (yq 1)), (1, .int (nI w)), (2, .int (nI b)), (3, .int (nI k)), (4, .int (bI ison))]) hx hb dL_put_6 hl (by decide) rfl (fun ls hl => ?_)
  refine lv_aload_n hx hb dL_put_8 rfl (lv_at hl 1 rfl) ?_
  refine lv_iload_n hx hb dL_put_9 rfl (lv_at hl 2 rfl) ?_
  refine lv_iload_n hx hb dL_put_10 rfl (lv_at hl 3 rfl) ?_
  refine lv_imul hx hb dL_put_11 ?_
  refine lv_is (show (nI w) * (nI b) = (nI (w * b)) from pk_mul w b) ?_
  refine lv_iload_n hx hb dL_put_12 rfl (lv_at hl 4 rfl) ?_
  refine lv_bipush (v := 50) hx hb dL_put_13 (by decide) ?_
  refine lv_idiv hx hb dL_put_15 (by decide) ?_
  refine lv_is (show (nI k) / 50 = (nI (k / 50)) from (zdiv50 (by omega))) ?_
  refine lv_iadd hx hb dL_put_16 ?_
  refine lv_is (show (nI (w * b)) + (nI (k / 50)) = (nI (w * b + (k / 50))) from nI_add (w * b) (k / 50)) ?_
  refine z_lald (i := w * b + (k / 50)) hx hb hK hP 0 2 rfl rfl z0 (by decide) dL_put_17 ?_
  refine lv_lstore (lv' := [(7, .long (Q 0 (w * b + (k / 50)))), (5, .long (1 <<< (Int32.toInt64 (nI (k % 50)) &&& 63))), (0, .ref (yq 1)), (1, .int (nI w)), (2, .int (nI b)), (3, .int (nI k)), (4, .int (bI ison))]) hx hb dL_put_18 hl (by decide) rfl (fun ls hl => ?_)
  refine lv_aload_n hx hb dL_put_20 rfl (lv_at hl 2 rfl) ?_
  refine lv_iload_n hx hb dL_put_21 rfl (lv_at hl 3 rfl) ?_
  refine lv_iload_n hx hb dL_put_22 rfl (lv_at hl 4 rfl) ?_
  refine lv_imul hx hb dL_put_23 ?_
  refine lv_is (show (nI w) * (nI b) = (nI (w * b)) from pk_mul w b) ?_
  refine lv_iload_n hx hb dL_put_24 rfl (lv_at hl 5 rfl) ?_
  refine lv_bipush (v := 50) hx hb dL_put_25 (by decide) ?_
  refine lv_idiv hx hb dL_put_27 (by decide) ?_
  refine lv_is (show (nI k) / 50 = (nI (k / 50)) from (zdiv50 (by omega))) ?_
  refine lv_iadd hx hb dL_put_28 ?_
  refine lv_is (show (nI (w * b)) + (nI (k / 50)) = (nI (w * b + (k / 50))) from nI_add (w * b) (k / 50)) ?_
  refine lv_iload hx hb dL_put_29 (lv_at hl 6 rfl) ?_
  refine zif_eq (tgt := 42) hx hb dL_put_31 (by decide) (fun c_1 => ?_) (fun c_1 => ?_)
  · have hq := hq.trans (zif_f c_1)
    refine lv_lload hx hb dL_put_42 (lv_at hl 0 rfl) ?_
    refine lv_lload hx hb dL_put_44 (lv_at hl 1 rfl) ?_
    refine lv_ldc2 (v := -1) hx hb hown (hts (.constantLong RL 12 (-1)) (List.mem_of_getElem? (i := 1) rfl)) dL_put_46 ?_
    refine lv_lxor hx hb dL_put_49 ?_
    refine lv_land hx hb dL_put_50 ?_
    refine z_last (i := w * b + (k / 50)) (x := (Q 0 (w * b + (k / 50))) &&& ((1 <<< (Int32.toInt64 (nI (k % 50)) &&& 63)) ^^^ (-1))) hx hb hK hP hD hS 0 2 rfl rfl z0 (by decide) dL_put_51 (fun H locs hP hD hS => ?_)
    have hP : va_P D vwCl (zB_LQ (g 2) yq (zU Q 0 (vp_updL (Q 0) (w * b + (k / 50)) ((Q 0 (w * b + (k / 50))) &&& ((1 <<< (Int32.toInt64 (nI (k % 50)) &&& 63)) ^^^ (-1)))))) H := hP
    have hD : va_D (zA (zB_LQ (g 2) yq Q)) (zB_LQ (g 2) yq (zU Q 0 (vp_updL (Q 0) (w * b + (k / 50)) ((Q 0 (w * b + (k / 50))) &&& ((1 <<< (Int32.toInt64 (nI (k % 50)) &&& 63)) ^^^ (-1)))))) := hD
    exact zretw_v hx hb hr hlocks dL_put_52 hP hS (by with_reducible exact congrArg (fun z9 => zB_LQ (g 2) yq z9) hq)
  · have hq := hq.trans (zif_t c_1)
    refine lv_lload hx hb dL_put_34 (lv_at hl 0 rfl) ?_
    refine lv_lload hx hb dL_put_36 (lv_at hl 1 rfl) ?_
    refine lv_lor hx hb dL_put_38 ?_
    refine lv_goto (tgt := 51) hx hb dL_put_39 (by decide) ?_
    refine z_last (i := w * b + (k / 50)) (x := (Q 0 (w * b + (k / 50))) ||| (1 <<< (Int32.toInt64 (nI (k % 50)) &&& 63))) hx hb hK hP hD hS 0 2 rfl rfl z0 (by decide) dL_put_51 (fun H locs hP hD hS => ?_)
    have hP : va_P D vwCl (zB_LQ (g 2) yq (zU Q 0 (vp_updL (Q 0) (w * b + (k / 50)) ((Q 0 (w * b + (k / 50))) ||| (1 <<< (Int32.toInt64 (nI (k % 50)) &&& 63)))))) H := hP
    have hD : va_D (zA (zB_LQ (g 2) yq Q)) (zB_LQ (g 2) yq (zU Q 0 (vp_updL (Q 0) (w * b + (k / 50)) ((Q 0 (w * b + (k / 50))) ||| (1 <<< (Int32.toInt64 (nI (k % 50)) &&& 63)))))) := hD
    exact zretw_v hx hb hr hlocks dL_put_52 hP hS (by with_reducible exact congrArg (fun z9 => zB_LQ (g 2) yq z9) hq)
def v_L_put_1 (Q : Nat → Nat → Int64) (w : Nat) (b : Nat) (k : Nat) (ison : Bool) : (Nat → Nat → Int64) := (if ison = true then zU Q 1 (vp_updL (Q 1) (w * b + (k / 50)) ((Q 1 (w * b + (k / 50))) ||| (1 <<< (Int32.toInt64 (nI (k % 50)) &&& 63)))) else zU Q 1 (vp_updL (Q 1) (w * b + (k / 50)) ((Q 1 (w * b + (k / 50))) &&& ((1 <<< (Int32.toInt64 (nI (k % 50)) &&& 63)) ^^^ (-1)))))
set_option maxHeartbeats 400000 in
set_option maxRecDepth 100000 in
theorem c_L_put_1 (l : Launch) (D : va_G) (g : Nat → ClassId) (yq : Nat → Nat) (Q : Nat → Nat → Int64) (w : Nat) (b : Nat) (k : Nat) (ison : Bool) (z0 : w * b + k / 50 < 15) (z1 : k < 150) : Wr l D (zT g) yL_put wsL_put (rmOf 0 0) [.ref (yq 2), .int (nI w), .int (nI b), .int (nI k), .int (bI ison)] (zB_LQ (g 2) yq Q) (none) (zB_LQ (g 2) yq (v_L_put_1 Q w b k ison)) := by
  refine Wr.of (cc := cL_put) (maxL := 9) (ret := none) (by decide) rfl (Nat.le_of_ble_eq_true rfl) ?_
  intro p e s m below meth c ls hx hb hr hml hown hts hlocks hP hD hS hK hl
  have hown : s.vm.findClass RL = some m.cls := hown
  obtain ⟨q, hq⟩ : ∃ q : (Nat → Nat → Int64), q = v_L_put_1 Q w b k ison := ⟨_, rfl⟩
  rw [← hq]
  unfold v_L_put_1 at hq
  have hl : lv_has ls 9 [(0, .ref (yq 2)), (1, .int (nI w)), (2, .int (nI b)), (3, .int (nI k)), (4, .int (bI ison))] := hl
  refine lv_lconst (v := 1) hx hb dL_put_0 (by decide) ?_
  refine lv_iload_n hx hb dL_put_1 rfl (lv_at hl 3 rfl) ?_
  refine lv_bipush (v := 50) hx hb dL_put_2 (by decide) ?_
  refine lv_irem hx hb dL_put_4 (by decide) ?_
  refine lv_is (show (nI k) - (nI k) / 50 * 50 = (nI (k % 50)) from (zrem50 (by omega))) ?_
  refine lv_lshl hx hb dL_put_5 rfl ?_
  refine lv_lstore (lv' := [(5, .long (1 <<< (Int32.toInt64 (nI (k % 50)) &&& 63))), (0, .ref (yq 2)), (1, .int (nI w)), (2, .int (nI b)), (3, .int (nI k)), (4, .int (bI ison))]) hx hb dL_put_6 hl (by decide) rfl (fun ls hl => ?_)
  refine lv_aload_n hx hb dL_put_8 rfl (lv_at hl 1 rfl) ?_
  refine lv_iload_n hx hb dL_put_9 rfl (lv_at hl 2 rfl) ?_
  refine lv_iload_n hx hb dL_put_10 rfl (lv_at hl 3 rfl) ?_
  refine lv_imul hx hb dL_put_11 ?_
  refine lv_is (show (nI w) * (nI b) = (nI (w * b)) from pk_mul w b) ?_
  refine lv_iload_n hx hb dL_put_12 rfl (lv_at hl 4 rfl) ?_
  refine lv_bipush (v := 50) hx hb dL_put_13 (by decide) ?_
  refine lv_idiv hx hb dL_put_15 (by decide) ?_
  refine lv_is (show (nI k) / 50 = (nI (k / 50)) from (zdiv50 (by omega))) ?_
  refine lv_iadd hx hb dL_put_16 ?_
  refine lv_is (show (nI (w * b)) + (nI (k / 50)) = (nI (w * b + (k / 50))) from nI_add (w * b) (k / 50)) ?_
  refine z_lald (i := w * b + (k / 50)) hx hb hK hP 1 2 rfl rfl z0 (by decide) dL_put_17 ?_
  refine lv_lstore (lv' := [(7, .long (Q 1 (w * b + (k / 50)))), (5, .long (1 <<< (Int32.toInt64 (nI (k % 50)) &&& 63))), (0, .ref (yq 2)), (1, .int (nI w)), (2, .int (nI b)), (3, .int (nI k)), (4, .int (bI ison))]) hx hb dL_put_18 hl (by decide) rfl (fun ls hl => ?_)
  refine lv_aload_n hx hb dL_put_20 rfl (lv_at hl 2 rfl) ?_
  refine lv_iload_n hx hb dL_put_21 rfl (lv_at hl 3 rfl) ?_
  refine lv_iload_n hx hb dL_put_22 rfl (lv_at hl 4 rfl) ?_
  refine lv_imul hx hb dL_put_23 ?_
  refine lv_is (show (nI w) * (nI b) = (nI (w * b)) from pk_mul w b) ?_
  refine lv_iload_n hx hb dL_put_24 rfl (lv_at hl 5 rfl) ?_
  refine lv_bipush (v := 50) hx hb dL_put_25 (by decide) ?_
  refine lv_idiv hx hb dL_put_27 (by decide) ?_
  refine lv_is (show (nI k) / 50 = (nI (k / 50)) from (zdiv50 (by omega))) ?_
  refine lv_iadd hx hb dL_put_28 ?_
  refine lv_is (show (nI (w * b)) + (nI (k / 50)) = (nI (w * b + (k / 50))) from nI_add (w * b) (k / 50)) ?_
  refine lv_iload hx hb dL_put_29 (lv_at hl 6 rfl) ?_
  refine zif_eq (tgt := 42) hx hb dL_put_31 (by decide) (fun c_1 => ?_) (fun c_1 => ?_)
  · have hq := hq.trans (zif_f c_1)
    refine lv_lload hx hb dL_put_42 (lv_at hl 0 rfl) ?_
    refine lv_lload hx hb dL_put_44 (lv_at hl 1 rfl) ?_
    refine lv_ldc2 (v := -1) hx hb hown (hts (.constantLong RL 12 (-1)) (List.mem_of_getElem? (i := 1) rfl)) dL_put_46 ?_
    refine lv_lxor hx hb dL_put_49 ?_
    refine lv_land hx hb dL_put_50 ?_
    refine z_last (i := w * b + (k / 50)) (x := (Q 1 (w * b + (k / 50))) &&& ((1 <<< (Int32.toInt64 (nI (k % 50)) &&& 63)) ^^^ (-1))) hx hb hK hP hD hS 1 2 rfl rfl z0 (by decide) dL_put_51 (fun H locs hP hD hS => ?_)
    have hP : va_P D vwCl (zB_LQ (g 2) yq (zU Q 1 (vp_updL (Q 1) (w * b + (k / 50)) ((Q 1 (w * b + (k / 50))) &&& ((1 <<< (Int32.toInt64 (nI (k % 50)) &&& 63)) ^^^ (-1)))))) H := hP
    have hD : va_D (zA (zB_LQ (g 2) yq Q)) (zB_LQ (g 2) yq (zU Q 1 (vp_updL (Q 1) (w * b + (k / 50)) ((Q 1 (w * b + (k / 50))) &&& ((1 <<< (Int32.toInt64 (nI (k % 50)) &&& 63)) ^^^ (-1)))))) := hD
    exact zretw_v hx hb hr hlocks dL_put_52 hP hS (by with_reducible exact congrArg (fun z9 => zB_LQ (g 2) yq z9) hq)
  · have hq := hq.trans (zif_t c_1)
    refine lv_lload hx hb dL_put_34 (lv_at hl 0 rfl) ?_
    refine lv_lload hx hb dL_put_36 (lv_at hl 1 rfl) ?_
    refine lv_lor hx hb dL_put_38 ?_
    refine lv_goto (tgt := 51) hx hb dL_put_39 (by decide) ?_
    refine z_last (i := w * b + (k / 50)) (x := (Q 1 (w * b + (k / 50))) ||| (1 <<< (Int32.toInt64 (nI (k % 50)) &&& 63))) hx hb hK hP hD hS 1 2 rfl rfl z0 (by decide) dL_put_51 (fun H locs hP hD hS => ?_)
    have hP : va_P D vwCl (zB_LQ (g 2) yq (zU Q 1 (vp_updL (Q 1) (w * b + (k / 50)) ((Q 1 (w * b + (k / 50))) ||| (1 <<< (Int32.toInt64 (nI (k % 50)) &&& 63)))))) H := hP
    have hD : va_D (zA (zB_LQ (g 2) yq Q)) (zB_LQ (g 2) yq (zU Q 1 (vp_updL (Q 1) (w * b + (k / 50)) ((Q 1 (w * b + (k / 50))) ||| (1 <<< (Int32.toInt64 (nI (k % 50)) &&& 63)))))) := hD
    exact zretw_v hx hb hr hlocks dL_put_52 hP hS (by with_reducible exact congrArg (fun z9 => zB_LQ (g 2) yq z9) hq)
def v_L_put_2 (Q : Nat → Nat → Int64) (w : Nat) (b : Nat) (k : Nat) (ison : Bool) : (Nat → Nat → Int64) := (if ison = true then zU Q 2 (vp_updL (Q 2) (w * b + (k / 50)) ((Q 2 (w * b + (k / 50))) ||| (1 <<< (Int32.toInt64 (nI (k % 50)) &&& 63)))) else zU Q 2 (vp_updL (Q 2) (w * b + (k / 50)) ((Q 2 (w * b + (k / 50))) &&& ((1 <<< (Int32.toInt64 (nI (k % 50)) &&& 63)) ^^^ (-1)))))
set_option maxHeartbeats 400000 in
set_option maxRecDepth 100000 in
theorem c_L_put_2 (l : Launch) (D : va_G) (g : Nat → ClassId) (yq : Nat → Nat) (Q : Nat → Nat → Int64) (w : Nat) (b : Nat) (k : Nat) (ison : Bool) (z0 : w * b + k / 50 < 15) (z1 : k < 150) : Wr l D (zT g) yL_put wsL_put (rmOf 0 0) [.ref (yq 3), .int (nI w), .int (nI b), .int (nI k), .int (bI ison)] (zB_LQ (g 2) yq Q) (none) (zB_LQ (g 2) yq (v_L_put_2 Q w b k ison)) := by
  refine Wr.of (cc := cL_put) (maxL := 9) (ret := none) (by decide) rfl (Nat.le_of_ble_eq_true rfl) ?_
  intro p e s m below meth c ls hx hb hr hml hown hts hlocks hP hD hS hK hl
  have hown : s.vm.findClass RL = some m.cls := hown
  obtain ⟨q, hq⟩ : ∃ q : (Nat → Nat → Int64), q = v_L_put_2 Q w b k ison := ⟨_, rfl⟩
  rw [← hq]
  unfold v_L_put_2 at hq
  have hl : lv_has ls 9 [(0, .ref (yq 3)), (1, .int (nI w)), (2, .int (nI b)), (3, .int (nI k)), (4, .int (bI ison))] := hl
  refine lv_lconst (v := 1) hx hb dL_put_0 (by decide) ?_
  refine lv_iload_n hx hb dL_put_1 rfl (lv_at hl 3 rfl) ?_
  refine lv_bipush (v := 50) hx hb dL_put_2 (by decide) ?_
  refine lv_irem hx hb dL_put_4 (by decide) ?_
  refine lv_is (show (nI k) - (nI k) / 50 * 50 = (nI (k % 50)) from (zrem50 (by omega))) ?_
  refine lv_lshl hx hb dL_put_5 rfl ?_
  refine lv_lstore (lv' := [(5, .long (1 <<< (Int32.toInt64 (nI (k % 50)) &&& 63))), (0, .ref (yq 3)), (1, .int (nI w)), (2, .int (nI b)), (3, .int (nI k)), (4, .int (bI ison))]) hx hb dL_put_6 hl (by decide) rfl (fun ls hl => ?_)
  refine lv_aload_n hx hb dL_put_8 rfl (lv_at hl 1 rfl) ?_
  refine lv_iload_n hx hb dL_put_9 rfl (lv_at hl 2 rfl) ?_
  refine lv_iload_n hx hb dL_put_10 rfl (lv_at hl 3 rfl) ?_
  refine lv_imul hx hb dL_put_11 ?_
  refine lv_is (show (nI w) * (nI b) = (nI (w * b)) from pk_mul w b) ?_
  refine lv_iload_n hx hb dL_put_12 rfl (lv_at hl 4 rfl) ?_
  refine lv_bipush (v := 50) hx hb dL_put_13 (by decide) ?_
  refine lv_idiv hx hb dL_put_15 (by decide) ?_
  refine lv_is (show (nI k) / 50 = (nI (k / 50)) from (zdiv50 (by omega))) ?_
  refine lv_iadd hx hb dL_put_16 ?_
  refine lv_is (show (nI (w * b)) + (nI (k / 50)) = (nI (w * b + (k / 50))) from nI_add (w * b) (k / 50)) ?_
  refine z_lald (i := w * b + (k / 50)) hx hb hK hP 2 2 rfl rfl z0 (by decide) dL_put_17 ?_
  refine lv_lstore (lv' := [(7, .long (Q 2 (w * b + (k / 50)))), (5, .long (1 <<< (Int32.toInt64 (nI (k % 50)) &&& 63))), (0, .ref (yq 3)), (1, .int (nI w)), (2, .int (nI b)), (3, .int (nI k)), (4, .int (bI ison))]) hx hb dL_put_18 hl (by decide) rfl (fun ls hl => ?_)
  refine lv_aload_n hx hb dL_put_20 rfl (lv_at hl 2 rfl) ?_
  refine lv_iload_n hx hb dL_put_21 rfl (lv_at hl 3 rfl) ?_
  refine lv_iload_n hx hb dL_put_22 rfl (lv_at hl 4 rfl) ?_
  refine lv_imul hx hb dL_put_23 ?_
  refine lv_is (show (nI w) * (nI b) = (nI (w * b)) from pk_mul w b) ?_
  refine lv_iload_n hx hb dL_put_24 rfl (lv_at hl 5 rfl) ?_
  refine lv_bipush (v := 50) hx hb dL_put_25 (by decide) ?_
  refine lv_idiv hx hb dL_put_27 (by decide) ?_
  refine lv_is (show (nI k) / 50 = (nI (k / 50)) from (zdiv50 (by omega))) ?_
  refine lv_iadd hx hb dL_put_28 ?_
  refine lv_is (show (nI (w * b)) + (nI (k / 50)) = (nI (w * b + (k / 50))) from nI_add (w * b) (k / 50)) ?_
  refine lv_iload hx hb dL_put_29 (lv_at hl 6 rfl) ?_
  refine zif_eq (tgt := 42) hx hb dL_put_31 (by decide) (fun c_1 => ?_) (fun c_1 => ?_)
  · have hq := hq.trans (zif_f c_1)
    refine lv_lload hx hb dL_put_42 (lv_at hl 0 rfl) ?_
    refine lv_lload hx hb dL_put_44 (lv_at hl 1 rfl) ?_
    refine lv_ldc2 (v := -1) hx hb hown (hts (.constantLong RL 12 (-1)) (List.mem_of_getElem? (i := 1) rfl)) dL_put_46 ?_
    refine lv_lxor hx hb dL_put_49 ?_
    refine lv_land hx hb dL_put_50 ?_
    refine z_last (i := w * b + (k / 50)) (x := (Q 2 (w * b + (k / 50))) &&& ((1 <<< (Int32.toInt64 (nI (k % 50)) &&& 63)) ^^^ (-1))) hx hb hK hP hD hS 2 2 rfl rfl z0 (by decide) dL_put_51 (fun H locs hP hD hS => ?_)
    have hP : va_P D vwCl (zB_LQ (g 2) yq (zU Q 2 (vp_updL (Q 2) (w * b + (k / 50)) ((Q 2 (w * b + (k / 50))) &&& ((1 <<< (Int32.toInt64 (nI (k % 50)) &&& 63)) ^^^ (-1)))))) H := hP
    have hD : va_D (zA (zB_LQ (g 2) yq Q)) (zB_LQ (g 2) yq (zU Q 2 (vp_updL (Q 2) (w * b + (k / 50)) ((Q 2 (w * b + (k / 50))) &&& ((1 <<< (Int32.toInt64 (nI (k % 50)) &&& 63)) ^^^ (-1)))))) := hD
    exact zretw_v hx hb hr hlocks dL_put_52 hP hS (by with_reducible exact congrArg (fun z9 => zB_LQ (g 2) yq z9) hq)
  · have hq := hq.trans (zif_t c_1)
    refine lv_lload hx hb dL_put_34 (lv_at hl 0 rfl) ?_
    refine lv_lload hx hb dL_put_36 (lv_at hl 1 rfl) ?_
    refine lv_lor hx hb dL_put_38 ?_
    refine lv_goto (tgt := 51) hx hb dL_put_39 (by decide) ?_
    refine z_last (i := w * b + (k / 50)) (x := (Q 2 (w * b + (k / 50))) ||| (1 <<< (Int32.toInt64 (nI (k % 50)) &&& 63))) hx hb hK hP hD hS 2 2 rfl rfl z0 (by decide) dL_put_51 (fun H locs hP hD hS => ?_)
    have hP : va_P D vwCl (zB_LQ (g 2) yq (zU Q 2 (vp_updL (Q 2) (w * b + (k / 50)) ((Q 2 (w * b + (k / 50))) ||| (1 <<< (Int32.toInt64 (nI (k % 50)) &&& 63)))))) H := hP
    have hD : va_D (zA (zB_LQ (g 2) yq Q)) (zB_LQ (g 2) yq (zU Q 2 (vp_updL (Q 2) (w * b + (k / 50)) ((Q 2 (w * b + (k / 50))) ||| (1 <<< (Int32.toInt64 (nI (k % 50)) &&& 63)))))) := hD
    exact zretw_v hx hb hr hlocks dL_put_52 hP hS (by with_reducible exact congrArg (fun z9 => zB_LQ (g 2) yq z9) hq)
def v_L_put_3 (Q : Nat → Nat → Int64) (w : Nat) (b : Nat) (k : Nat) (ison : Bool) : (Nat → Nat → Int64) := (if ison = true then zU Q 3 (vp_updL (Q 3) (w * b + (k / 50)) ((Q 3 (w * b + (k / 50))) ||| (1 <<< (Int32.toInt64 (nI (k % 50)) &&& 63)))) else zU Q 3 (vp_updL (Q 3) (w * b + (k / 50)) ((Q 3 (w * b + (k / 50))) &&& ((1 <<< (Int32.toInt64 (nI (k % 50)) &&& 63)) ^^^ (-1)))))
set_option maxHeartbeats 400000 in
set_option maxRecDepth 100000 in
theorem c_L_put_3 (l : Launch) (D : va_G) (g : Nat → ClassId) (yq : Nat → Nat) (Q : Nat → Nat → Int64) (w : Nat) (b : Nat) (k : Nat) (ison : Bool) (z0 : w * b + k / 50 < 15) (z1 : k < 150) : Wr l D (zT g) yL_put wsL_put (rmOf 0 0) [.ref (yq 4), .int (nI w), .int (nI b), .int (nI k), .int (bI ison)] (zB_LQ (g 2) yq Q) (none) (zB_LQ (g 2) yq (v_L_put_3 Q w b k ison)) := by
  refine Wr.of (cc := cL_put) (maxL := 9) (ret := none) (by decide) rfl (Nat.le_of_ble_eq_true rfl) ?_
  intro p e s m below meth c ls hx hb hr hml hown hts hlocks hP hD hS hK hl
  have hown : s.vm.findClass RL = some m.cls := hown
  obtain ⟨q, hq⟩ : ∃ q : (Nat → Nat → Int64), q = v_L_put_3 Q w b k ison := ⟨_, rfl⟩
  rw [← hq]
  unfold v_L_put_3 at hq
  have hl : lv_has ls 9 [(0, .ref (yq 4)), (1, .int (nI w)), (2, .int (nI b)), (3, .int (nI k)), (4, .int (bI ison))] := hl
  refine lv_lconst (v := 1) hx hb dL_put_0 (by decide) ?_
  refine lv_iload_n hx hb dL_put_1 rfl (lv_at hl 3 rfl) ?_
  refine lv_bipush (v := 50) hx hb dL_put_2 (by decide) ?_
  refine lv_irem hx hb dL_put_4 (by decide) ?_
  refine lv_is (show (nI k) - (nI k) / 50 * 50 = (nI (k % 50)) from (zrem50 (by omega))) ?_
  refine lv_lshl hx hb dL_put_5 rfl ?_
  refine lv_lstore (lv' := [(5, .long (1 <<< (Int32.toInt64 (nI (k % 50)) &&& 63))), (0, .ref (yq 4)), (1, .int (nI w)), (2, .int (nI b)), (3, .int (nI k)), (4, .int (bI ison))]) hx hb dL_put_6 hl (by decide) rfl (fun ls hl => ?_)
  refine lv_aload_n hx hb dL_put_8 rfl (lv_at hl 1 rfl) ?_
  refine lv_iload_n hx hb dL_put_9 rfl (lv_at hl 2 rfl) ?_
  refine lv_iload_n hx hb dL_put_10 rfl (lv_at hl 3 rfl) ?_
  refine lv_imul hx hb dL_put_11 ?_
  refine lv_is (show (nI w) * (nI b) = (nI (w * b)) from pk_mul w b) ?_
  refine lv_iload_n hx hb dL_put_12 rfl (lv_at hl 4 rfl) ?_
  refine lv_bipush (v := 50) hx hb dL_put_13 (by decide) ?_
  refine lv_idiv hx hb dL_put_15 (by decide) ?_
  refine lv_is (show (nI k) / 50 = (nI (k / 50)) from (zdiv50 (by omega))) ?_
  refine lv_iadd hx hb dL_put_16 ?_
  refine lv_is (show (nI (w * b)) + (nI (k / 50)) = (nI (w * b + (k / 50))) from nI_add (w * b) (k / 50)) ?_
  refine z_lald (i := w * b + (k / 50)) hx hb hK hP 3 2 rfl rfl z0 (by decide) dL_put_17 ?_
  refine lv_lstore (lv' := [(7, .long (Q 3 (w * b + (k / 50)))), (5, .long (1 <<< (Int32.toInt64 (nI (k % 50)) &&& 63))), (0, .ref (yq 4)), (1, .int (nI w)), (2, .int (nI b)), (3, .int (nI k)), (4, .int (bI ison))]) hx hb dL_put_18 hl (by decide) rfl (fun ls hl => ?_)
  refine lv_aload_n hx hb dL_put_20 rfl (lv_at hl 2 rfl) ?_
  refine lv_iload_n hx hb dL_put_21 rfl (lv_at hl 3 rfl) ?_
  refine lv_iload_n hx hb dL_put_22 rfl (lv_at hl 4 rfl) ?_
  refine lv_imul hx hb dL_put_23 ?_
  refine lv_is (show (nI w) * (nI b) = (nI (w * b)) from pk_mul w b) ?_
  refine lv_iload_n hx hb dL_put_24 rfl (lv_at hl 5 rfl) ?_
  refine lv_bipush (v := 50) hx hb dL_put_25 (by decide) ?_
  refine lv_idiv hx hb dL_put_27 (by decide) ?_
  refine lv_is (show (nI k) / 50 = (nI (k / 50)) from (zdiv50 (by omega))) ?_
  refine lv_iadd hx hb dL_put_28 ?_
  refine lv_is (show (nI (w * b)) + (nI (k / 50)) = (nI (w * b + (k / 50))) from nI_add (w * b) (k / 50)) ?_
  refine lv_iload hx hb dL_put_29 (lv_at hl 6 rfl) ?_
  refine zif_eq (tgt := 42) hx hb dL_put_31 (by decide) (fun c_1 => ?_) (fun c_1 => ?_)
  · have hq := hq.trans (zif_f c_1)
    refine lv_lload hx hb dL_put_42 (lv_at hl 0 rfl) ?_
    refine lv_lload hx hb dL_put_44 (lv_at hl 1 rfl) ?_
    refine lv_ldc2 (v := -1) hx hb hown (hts (.constantLong RL 12 (-1)) (List.mem_of_getElem? (i := 1) rfl)) dL_put_46 ?_
    refine lv_lxor hx hb dL_put_49 ?_
    refine lv_land hx hb dL_put_50 ?_
    refine z_last (i := w * b + (k / 50)) (x := (Q 3 (w * b + (k / 50))) &&& ((1 <<< (Int32.toInt64 (nI (k % 50)) &&& 63)) ^^^ (-1))) hx hb hK hP hD hS 3 2 rfl rfl z0 (by decide) dL_put_51 (fun H locs hP hD hS => ?_)
    have hP : va_P D vwCl (zB_LQ (g 2) yq (zU Q 3 (vp_updL (Q 3) (w * b + (k / 50)) ((Q 3 (w * b + (k / 50))) &&& ((1 <<< (Int32.toInt64 (nI (k % 50)) &&& 63)) ^^^ (-1)))))) H := hP
    have hD : va_D (zA (zB_LQ (g 2) yq Q)) (zB_LQ (g 2) yq (zU Q 3 (vp_updL (Q 3) (w * b + (k / 50)) ((Q 3 (w * b + (k / 50))) &&& ((1 <<< (Int32.toInt64 (nI (k % 50)) &&& 63)) ^^^ (-1)))))) := hD
    exact zretw_v hx hb hr hlocks dL_put_52 hP hS (by with_reducible exact congrArg (fun z9 => zB_LQ (g 2) yq z9) hq)
  · have hq := hq.trans (zif_t c_1)
    refine lv_lload hx hb dL_put_34 (lv_at hl 0 rfl) ?_
    refine lv_lload hx hb dL_put_36 (lv_at hl 1 rfl) ?_
    refine lv_lor hx hb dL_put_38 ?_
    refine lv_goto (tgt := 51) hx hb dL_put_39 (by decide) ?_
    refine z_last (i := w * b + (k / 50)) (x := (Q 3 (w * b + (k / 50))) ||| (1 <<< (Int32.toInt64 (nI (k % 50)) &&& 63))) hx hb hK hP hD hS 3 2 rfl rfl z0 (by decide) dL_put_51 (fun H locs hP hD hS => ?_)
    have hP : va_P D vwCl (zB_LQ (g 2) yq (zU Q 3 (vp_updL (Q 3) (w * b + (k / 50)) ((Q 3 (w * b + (k / 50))) ||| (1 <<< (Int32.toInt64 (nI (k % 50)) &&& 63)))))) H := hP
    have hD : va_D (zA (zB_LQ (g 2) yq Q)) (zB_LQ (g 2) yq (zU Q 3 (vp_updL (Q 3) (w * b + (k / 50)) ((Q 3 (w * b + (k / 50))) ||| (1 <<< (Int32.toInt64 (nI (k % 50)) &&& 63)))))) := hD
    exact zretw_v hx hb hr hlocks dL_put_52 hP hS (by with_reducible exact congrArg (fun z9 => zB_LQ (g 2) yq z9) hq)
