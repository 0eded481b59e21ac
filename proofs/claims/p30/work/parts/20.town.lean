/-! the worlds: what the cells of each class' object hold, out of a function of the field's number and the place -/
abbrev zT (g : Nat → ClassId) : List (ClassId × FieldType) := [(g 0, .int), (g 1, .object "SaltShares$Town"), (g 2, .long)]
def zB_X0 (cI : ClassId) (h : Nat → Nat) (T : Nat → Nat → Int32) : va_W := [(h 0, .inr (0, [.ref (h 1), .int (T 1 0), .int (T 2 0), .int (T 3 0), .int (T 4 0), .int (T 5 0), .int (T 6 0)])), (h 1, .inl (cI, 60, .inl (T 0)))]
def zB_X2 (cI : ClassId) (h : Nat → Nat) (T : Nat → Nat → Int32) : va_W := [(h 0, .inr (2, [.ref (h 1), .int (T 1 0), .int (T 2 0), .ref (h 4), .ref (h 5)])), (h 1, .inl (cI, 100, .inl (T 0))), (h 4, .inl (cI, 100, .inl (T 3))), (h 5, .inl (cI, 100, .inl (T 4)))]
def zB_X3 (cI : ClassId) (h : Nat → Nat) (T : Nat → Nat → Int32) : va_W := [(h 0, .inr (3, [.int (T 0 0), .int (T 1 0), .int (T 2 0), .int (T 3 0), .int (T 4 0), .ref (h 6), .ref (h 7), .ref (h 8), .ref (h 9), .ref (h 10), .ref (h 11), .ref (h 12), .ref (h 13), .ref (h 14), .ref (h 15)])), (h 6, .inl (cI, 8, .inl (T 5))), (h 7, .inl (cI, 8, .inl (T 6))), (h 8, .inl (cI, 8, .inl (T 7))), (h 9, .inl (cI, 8, .inl (T 8))), (h 10, .inl (cI, 3, .inl (T 9))), (h 11, .inl (cI, 300, .inl (T 10))), (h 12, .inl (cI, 150, .inl (T 11))), (h 13, .inl (cI, 150, .inl (T 12))), (h 14, .inl (cI, 150, .inl (T 13))), (h 15, .inl (cI, 150, .inl (T 14)))]
def zB_X5 (cI : ClassId) (h : Nat → Nat) (T : Nat → Nat → Int32) (w : Int64) : va_W := [(h 0, .inr (5, [.ref (h 1), .int (T 1 0), .ref (h 3), .int (T 3 0), .ref (h 5), .int (T 5 0), .ref (h 7), .ref (h 8), .int (T 8 0), .int (T 9 0), .int (T 10 0), .ref (h 12), .long w])), (h 1, .inl (cI, 954, .inl (T 0))), (h 3, .inl (cI, 5724, .inl (T 2))), (h 5, .inl (cI, 60, .inl (T 4))), (h 7, .inl (cI, 150, .inl (T 6))), (h 8, .inl (cI, 72, .inl (T 7))), (h 12, .inl (cI, 300, .inl (T 11)))]
def zU {α : Type} (T : Nat → Nat → α) (k : Nat) (f : Nat → α) : Nat → Nat → α := fun j => if j = k then f else T j
theorem zU_s {α : Type} (T : Nat → Nat → α) (k : Nat) (f : Nat → α) : zU T k f k = f := by unfold zU; rw [if_pos rfl]
theorem zU_n {α : Type} (T : Nat → Nat → α) {k j : Nat} (f : Nat → α) (h : j ≠ k) : zU T k f j = T j := by unfold zU; rw [if_neg h]
theorem znat {x : Int32} {n : Nat} (h : vp_in x n) : x = nI x.toNatClampNeg ∧ x.toNatClampNeg < n := by
  have h1 : ¬ x < 0 := fun q => h (Or.inl q)
  obtain ⟨j, hj, rfl⟩ := nI_of h1
  rw [nI_clamp hj]
  refine ⟨rfl, ?_⟩
  have h2 : ¬ n ≤ (nI j).toNatClampNeg := fun q => h (Or.inr q)
  rw [nI_clamp hj] at h2
  omega
theorem zin_dn {x : Int32} {n : Nat} (c1 : ¬ x < 0) (h : x.toInt < n) : vp_in x n := by
  have h1 : 0 ≤ x.toInt := by
    have h2 : ¬ x.toInt < (0 : Int32).toInt := fun q => c1 (Int32.lt_iff_toInt_lt.mpr q)
    have h3 : (0 : Int32).toInt = 0 := by decide
    omega
  exact vp_in_iff.mpr ⟨h1, h⟩
theorem zdec {x : Int32} (c1 : ¬ x < 0) : (x + (-1)).toInt = x.toInt - 1 ∧ 0 ≤ x.toInt := by
  obtain ⟨j, hj, rfl⟩ := nI_of c1
  rw [nI_toInt hj]
  cases j with
  | zero => exact ⟨by decide, by omega⟩
  | succ j => rw [pk_m1, nI_toInt (by omega)]; omega
theorem zdec1 {x : Int32} (c : ¬ x < 0) : -1 ≤ (x + (-1)).toInt := by
  have h := zdec c
  omega
theorem zdec2 {x : Int32} {n : Int} (c : ¬ x < 0) (h : x.toInt < n) : (x + (-1)).toInt < n := by
  have h := zdec c
  omega
theorem zdec3 {x : Int32} {n : Nat} (c : ¬ x < 0) (h : (x.toInt + 1).toNat < n + 1) : ((x + (-1)).toInt + 1).toNat < n := by
  have h := zdec c
  omega
theorem zbucket (x : Int32) : vp_in ((x &&& 2147483647) - (x &&& 2147483647) / 100 * 100) 100 := by
  obtain ⟨j, hj, ej⟩ := pk_andE x (m := 2147483647) 31 (by decide)
  rw [ej, show (100 : Int32) = nI 100 from rfl, pk_rem (by omega) (by decide) (by decide)]
  exact vp_in_nI (by omega) (by decide)
def v_X4_isGroup (x : Int32) : Bool := (if x < 0 then false else (if 3 ≤ x then false else true))
set_option maxHeartbeats 400000 in
set_option maxRecDepth 100000 in
theorem c_X4_isGroup (l : Launch) (D : va_G) (g : Nat → ClassId) (x : Int32) : Rd l D (zT g) yX4_isGroup wsX4_isGroup (rmOf 0 0) [.int x] ([]) (.int (bI (v_X4_isGroup x))) := by
  refine Rd.of (cc := cX4_isGroup) (maxL := 1) (ret := (some .boolean)) (by decide) rfl (Nat.le_of_ble_eq_true rfl) ?_
  intro p e s m below meth c ls hx hb hr hml hown hts hlocks hP hK hl
  have hown : s.vm.findClass RX4 = some m.cls := hown
  obtain ⟨q, hq⟩ : ∃ q : Bool, q = v_X4_isGroup x := ⟨_, rfl⟩
  rw [← hq]
  unfold v_X4_isGroup at hq
  have hl : lv_has ls 1 [(0, .int x)] := hl
  refine lv_iload_n hx hb dX4_isGroup_0 rfl (lv_at hl 0 rfl) ?_
  refine lv_if_lt (tgt := 13) hx hb dX4_isGroup_1 (by decide) (fun c_1 => ?_) (fun c_1 => ?_)
  · have c_1 : x < 0 := c_1
    have hq := hq.trans (if_pos c_1)
    refine lv_iconst (v := 0) hx hb dX4_isGroup_13 (by decide) ?_
    exact zret_z (q' := false) hx hb hr hlocks dX4_isGroup_14 hq
  · have c_1 : ¬ (x < 0) := c_1
    have hq := hq.trans (if_neg c_1)
    refine lv_iload_n hx hb dX4_isGroup_4 rfl (lv_at hl 0 rfl) ?_
    refine lv_iconst (v := 3) hx hb dX4_isGroup_5 (by decide) ?_
    refine lv_icmp_ge (tgt := 13) hx hb dX4_isGroup_6 (by decide) (fun c_2 => ?_) (fun c_2 => ?_)
    · have c_2 : 3 ≤ x := c_2
      have hq := hq.trans (if_pos c_2)
      refine lv_iconst (v := 0) hx hb dX4_isGroup_13 (by decide) ?_
      exact zret_z (q' := false) hx hb hr hlocks dX4_isGroup_14 hq
    · have c_2 : ¬ (3 ≤ x) := c_2
      have hq := hq.trans (if_neg c_2)
      refine lv_iconst (v := 1) hx hb dX4_isGroup_9 (by decide) ?_
      refine lv_goto (tgt := 14) hx hb dX4_isGroup_10 (by decide) ?_
      exact zret_z (q' := true) hx hb hr hlocks dX4_isGroup_14 hq
def v_J6_bitCount_0f7a4 (x : Int32) : Int32 := ((((((((x - (((Int32.toUInt32 x >>> (Int32.toUInt32 1 &&& Int32.toUInt32 31)).toInt32) &&& 1431655765)) &&& 858993459) + (((Int32.toUInt32 (x - (((Int32.toUInt32 x >>> (Int32.toUInt32 1 &&& Int32.toUInt32 31)).toInt32) &&& 1431655765)) >>> (Int32.toUInt32 2 &&& Int32.toUInt32 31)).toInt32) &&& 858993459)) + ((Int32.toUInt32 (((x - (((Int32.toUInt32 x >>> (Int32.toUInt32 1 &&& Int32.toUInt32 31)).toInt32) &&& 1431655765)) &&& 858993459) + (((Int32.toUInt32 (x - (((Int32.toUInt32 x >>> (Int32.toUInt32 1 &&& Int32.toUInt32 31)).toInt32) &&& 1431655765)) >>> (Int32.toUInt32 2 &&& Int32.toUInt32 31)).toInt32) &&& 858993459)) >>> (Int32.toUInt32 4 &&& Int32.toUInt32 31)).toInt32)) &&& 252645135) + ((Int32.toUInt32 (((((x - (((Int32.toUInt32 x >>> (Int32.toUInt32 1 &&& Int32.toUInt32 31)).toInt32) &&& 1431655765)) &&& 858993459) + (((Int32.toUInt32 (x - (((Int32.toUInt32 x >>> (Int32.toUInt32 1 &&& Int32.toUInt32 31)).toInt32) &&& 1431655765)) >>> (Int32.toUInt32 2 &&& Int32.toUInt32 31)).toInt32) &&& 858993459)) + ((Int32.toUInt32 (((x - (((Int32.toUInt32 x >>> (Int32.toUInt32 1 &&& Int32.toUInt32 31)).toInt32) &&& 1431655765)) &&& 858993459) + (((Int32.toUInt32 (x - (((Int32.toUInt32 x >>> (Int32.toUInt32 1 &&& Int32.toUInt32 31)).toInt32) &&& 1431655765)) >>> (Int32.toUInt32 2 &&& Int32.toUInt32 31)).toInt32) &&& 858993459)) >>> (Int32.toUInt32 4 &&& Int32.toUInt32 31)).toInt32)) &&& 252645135) >>> (Int32.toUInt32 8 &&& Int32.toUInt32 31)).toInt32)) + ((Int32.toUInt32 ((((((x - (((Int32.toUInt32 x >>> (Int32.toUInt32 1 &&& Int32.toUInt32 31)).toInt32) &&& 1431655765)) &&& 858993459) + (((Int32.toUInt32 (x - (((Int32.toUInt32 x >>> (Int32.toUInt32 1 &&& Int32.toUInt32 31)).toInt32) &&& 1431655765)) >>> (Int32.toUInt32 2 &&& Int32.toUInt32 31)).toInt32) &&& 858993459)) + ((Int32.toUInt32 (((x - (((Int32.toUInt32 x >>> (Int32.toUInt32 1 &&& Int32.toUInt32 31)).toInt32) &&& 1431655765)) &&& 858993459) + (((Int32.toUInt32 (x - (((Int32.toUInt32 x >>> (Int32.toUInt32 1 &&& Int32.toUInt32 31)).toInt32) &&& 1431655765)) >>> (Int32.toUInt32 2 &&& Int32.toUInt32 31)).toInt32) &&& 858993459)) >>> (Int32.toUInt32 4 &&& Int32.toUInt32 31)).toInt32)) &&& 252645135) + ((Int32.toUInt32 (((((x - (((Int32.toUInt32 x >>> (Int32.toUInt32 1 &&& Int32.toUInt32 31)).toInt32) &&& 1431655765)) &&& 858993459) + (((Int32.toUInt32 (x - (((Int32.toUInt32 x >>> (Int32.toUInt32 1 &&& Int32.toUInt32 31)).toInt32) &&& 1431655765)) >>> (Int32.toUInt32 2 &&& Int32.toUInt32 31)).toInt32) &&& 858993459)) + ((Int32.toUInt32 (((x - (((Int32.toUInt32 x >>> (Int32.toUInt32 1 &&& Int32.toUInt32 31)).toInt32) &&& 1431655765)) &&& 858993459) + (((Int32.toUInt32 (x - (((Int32.toUInt32 x >>> (Int32.toUInt32 1 &&& Int32.toUInt32 31)).toInt32) &&& 1431655765)) >>> (Int32.toUInt32 2 &&& Int32.toUInt32 31)).toInt32) &&& 858993459)) >>> (Int32.toUInt32 4 &&& Int32.toUInt32 31)).toInt32)) &&& 252645135) >>> (Int32.toUInt32 8 &&& Int32.toUInt32 31)).toInt32)) >>> (Int32.toUInt32 16 &&& Int32.toUInt32 31)).toInt32)) &&& 63)
set_option maxHeartbeats 400000 in
set_option maxRecDepth 100000 in
theorem c_J6_bitCount_0f7a4 (l : Launch) (D : va_G) (g : Nat → ClassId) (x : Int32) : Rd l D (zT g) yJ6_bitCount_0f7a4 wsJ6_bitCount_0f7a4 (rmOf 0 0) [.int x] ([]) (.int (v_J6_bitCount_0f7a4 x)) := by
  refine Rd.of (cc := cJ6_bitCount_0f7a4) (maxL := 1) (ret := (some .int)) (by decide) rfl (Nat.le_of_ble_eq_true rfl) ?_
  intro p e s m below meth c ls hx hb hr hml hown hts hlocks hP hK hl
  have hown : s.vm.findClass RJ6 = some m.cls := hown
  obtain ⟨q, hq⟩ : ∃ q : Int32, q = v_J6_bitCount_0f7a4 x := ⟨_, rfl⟩
  rw [← hq]
  unfold v_J6_bitCount_0f7a4 at hq
  have hl : lv_has ls 1 [(0, .int x)] := hl
  refine lv_iload_n hx hb dJ6_bitCount_0f7a4_0 rfl (lv_at hl 0 rfl) ?_
  refine lv_iload_n hx hb dJ6_bitCount_0f7a4_1 rfl (lv_at hl 0 rfl) ?_
  refine lv_iconst (v := 1) hx hb dJ6_bitCount_0f7a4_2 (by decide) ?_
  refine lv_iushr hx hb dJ6_bitCount_0f7a4_3 rfl ?_
  refine lv_ldcw (v := 1431655765) hx hb hown (hts (.constant RJ6 265 (1431655765)) (List.mem_of_getElem? (i := 1) rfl)) dJ6_bitCount_0f7a4_4 ?_
  refine lv_iand hx hb dJ6_bitCount_0f7a4_7 ?_
  refine lv_isub hx hb dJ6_bitCount_0f7a4_8 ?_
  refine lv_istore_n (lv' := [(0, .int (x - (((Int32.toUInt32 x >>> (Int32.toUInt32 1 &&& Int32.toUInt32 31)).toInt32) &&& 1431655765)))]) hx hb dJ6_bitCount_0f7a4_9 rfl hl (by decide) rfl (fun ls hl => ?_)
  refine lv_iload_n hx hb dJ6_bitCount_0f7a4_10 rfl (lv_at hl 0 rfl) ?_
  refine lv_ldcw (v := 858993459) hx hb hown (hts (.constant RJ6 266 (858993459)) (List.mem_of_getElem? (i := 2) rfl)) dJ6_bitCount_0f7a4_11 ?_
  refine lv_iand hx hb dJ6_bitCount_0f7a4_14 ?_
  refine lv_iload_n hx hb dJ6_bitCount_0f7a4_15 rfl (lv_at hl 0 rfl) ?_
  refine lv_iconst (v := 2) hx hb dJ6_bitCount_0f7a4_16 (by decide) ?_
  refine lv_iushr hx hb dJ6_bitCount_0f7a4_17 rfl ?_
  refine lv_ldcw (v := 858993459) hx hb hown (hts (.constant RJ6 266 (858993459)) (List.mem_of_getElem? (i := 2) rfl)) dJ6_bitCount_0f7a4_18 ?_
  refine lv_iand hx hb dJ6_bitCount_0f7a4_21 ?_
  refine lv_iadd hx hb dJ6_bitCount_0f7a4_22 ?_
  refine lv_istore_n (lv' := [(0, .int (((x - (((Int32.toUInt32 x >>> (Int32.toUInt32 1 &&& Int32.toUInt32 31)).toInt32) &&& 1431655765)) &&& 858993459) + (((Int32.toUInt32 (x - (((Int32.toUInt32 x >>> (Int32.toUInt32 1 &&& Int32.toUInt32 31)).toInt32) &&& 1431655765)) >>> (Int32.toUInt32 2 &&& Int32.toUInt32 31)).toInt32) &&& 858993459)))]) hx hb dJ6_bitCount_0f7a4_23 rfl hl (by decide) rfl (fun ls hl => ?_)
  refine lv_iload_n hx hb dJ6_bitCount_0f7a4_24 rfl (lv_at hl 0 rfl) ?_
  refine lv_iload_n hx hb dJ6_bitCount_0f7a4_25 rfl (lv_at hl 0 rfl) ?_
  refine lv_iconst (v := 4) hx hb dJ6_bitCount_0f7a4_26 (by decide) ?_
  refine lv_iushr hx hb dJ6_bitCount_0f7a4_27 rfl ?_
  refine lv_iadd hx hb dJ6_bitCount_0f7a4_28 ?_
  refine lv_ldcw (v := 252645135) hx hb hown (hts (.constant RJ6 267 (252645135)) (List.mem_of_getElem? (i := 3) rfl)) dJ6_bitCount_0f7a4_29 ?_
  refine lv_iand hx hb dJ6_bitCount_0f7a4_32 ?_
  refine lv_istore_n (lv' := [(0, .int (((((x - (((Int32.toUInt32 x >>> (Int32.toUInt32 1 &&& Int32.toUInt32 31)).toInt32) &&& 1431655765)) &&& 858993459) + (((Int32.toUInt32 (x - (((Int32.toUInt32 x >>> (Int32.toUInt32 1 &&& Int32.toUInt32 31)).toInt32) &&& 1431655765)) >>> (Int32.toUInt32 2 &&& Int32.toUInt32 31)).toInt32) &&& 858993459)) + ((Int32.toUInt32 (((x - (((Int32.toUInt32 x >>> (Int32.toUInt32 1 &&& Int32.toUInt32 31)).toInt32) &&& 1431655765)) &&& 858993459) + (((Int32.toUInt32 (x - (((Int32.toUInt32 x >>> (Int32.toUInt32 1 &&& Int32.toUInt32 31)).toInt32) &&& 1431655765)) >>> (Int32.toUInt32 2 &&& Int32.toUInt32 31)).toInt32) &&& 858993459)) >>> (Int32.toUInt32 4 &&& Int32.toUInt32 31)).toInt32)) &&& 252645135))]) hx hb dJ6_bitCount_0f7a4_33 rfl hl (by decide) rfl (fun ls hl => ?_)
  refine lv_iload_n hx hb dJ6_bitCount_0f7a4_34 rfl (lv_at hl 0 rfl) ?_
  refine lv_iload_n hx hb dJ6_bitCount_0f7a4_35 rfl (lv_at hl 0 rfl) ?_
  refine lv_bipush (v := 8) hx hb dJ6_bitCount_0f7a4_36 (by decide) ?_
  refine lv_iushr hx hb dJ6_bitCount_0f7a4_38 rfl ?_
  refine lv_iadd hx hb dJ6_bitCount_0f7a4_39 ?_
  refine lv_istore_n (lv' := [(0, .int ((((((x - (((Int32.toUInt32 x >>> (Int32.toUInt32 1 &&& Int32.toUInt32 31)).toInt32) &&& 1431655765)) &&& 858993459) + (((Int32.toUInt32 (x - (((Int32.toUInt32 x >>> (Int32.toUInt32 1 &&& Int32.toUInt32 31)).toInt32) &&& 1431655765)) >>> (Int32.toUInt32 2 &&& Int32.toUInt32 31)).toInt32) &&& 858993459)) + ((Int32.toUInt32 (((x - (((Int32.toUInt32 x >>> (Int32.toUInt32 1 &&& Int32.toUInt32 31)).toInt32) &&& 1431655765)) &&& 858993459) + (((Int32.toUInt32 (x - (((Int32.toUInt32 x >>> (Int32.toUInt32 1 &&& Int32.toUInt32 31)).toInt32) &&& 1431655765)) >>> (Int32.toUInt32 2 &&& Int32.toUInt32 31)).toInt32) &&& 858993459)) >>> (Int32.toUInt32 4 &&& Int32.toUInt32 31)).toInt32)) &&& 252645135) + ((Int32.toUInt32 (((((x - (((Int32.toUInt32 x >>> (Int32.toUInt32 1 &&& Int32.toUInt32 31)).toInt32) &&& 1431655765)) &&& 858993459) + (((Int32.toUInt32 (x - (((Int32.toUInt32 x >>> (Int32.toUInt32 1 &&& Int32.toUInt32 31)).toInt32) &&& 1431655765)) >>> (Int32.toUInt32 2 &&& Int32.toUInt32 31)).toInt32) &&& 858993459)) + ((Int32.toUInt32 (((x - (((Int32.toUInt32 x >>> (Int32.toUInt32 1 &&& Int32.toUInt32 31)).toInt32) &&& 1431655765)) &&& 858993459) + (((Int32.toUInt32 (x - (((Int32.toUInt32 x >>> (Int32.toUInt32 1 &&& Int32.toUInt32 31)).toInt32) &&& 1431655765)) >>> (Int32.toUInt32 2 &&& Int32.toUInt32 31)).toInt32) &&& 858993459)) >>> (Int32.toUInt32 4 &&& Int32.toUInt32 31)).toInt32)) &&& 252645135) >>> (Int32.toUInt32 8 &&& Int32.toUInt32 31)).toInt32)))]) hx hb dJ6_bitCount_0f7a4_40 rfl hl (by decide) rfl (fun ls hl => ?_)
  refine lv_iload_n hx hb dJ6_bitCount_0f7a4_41 rfl (lv_at hl 0 rfl) ?_
  refine lv_iload_n hx hb dJ6_bitCount_0f7a4_42 rfl (lv_at hl 0 rfl) ?_
  refine lv_bipush (v := 16) hx hb dJ6_bitCount_0f7a4_43 (by decide) ?_
  refine lv_iushr hx hb dJ6_bitCount_0f7a4_45 rfl ?_
  refine lv_iadd hx hb dJ6_bitCount_0f7a4_46 ?_
  refine lv_istore_n (lv' := [(0, .int (((((((x - (((Int32.toUInt32 x >>> (Int32.toUInt32 1 &&& Int32.toUInt32 31)).toInt32) &&& 1431655765)) &&& 858993459) + (((Int32.toUInt32 (x - (((Int32.toUInt32 x >>> (Int32.toUInt32 1 &&& Int32.toUInt32 31)).toInt32) &&& 1431655765)) >>> (Int32.toUInt32 2 &&& Int32.toUInt32 31)).toInt32) &&& 858993459)) + ((Int32.toUInt32 (((x - (((Int32.toUInt32 x >>> (Int32.toUInt32 1 &&& Int32.toUInt32 31)).toInt32) &&& 1431655765)) &&& 858993459) + (((Int32.toUInt32 (x - (((Int32.toUInt32 x >>> (Int32.toUInt32 1 &&& Int32.toUInt32 31)).toInt32) &&& 1431655765)) >>> (Int32.toUInt32 2 &&& Int32.toUInt32 31)).toInt32) &&& 858993459)) >>> (Int32.toUInt32 4 &&& Int32.toUInt32 31)).toInt32)) &&& 252645135) + ((Int32.toUInt32 (((((x - (((Int32.toUInt32 x >>> (Int32.toUInt32 1 &&& Int32.toUInt32 31)).toInt32) &&& 1431655765)) &&& 858993459) + (((Int32.toUInt32 (x - (((Int32.toUInt32 x >>> (Int32.toUInt32 1 &&& Int32.toUInt32 31)).toInt32) &&& 1431655765)) >>> (Int32.toUInt32 2 &&& Int32.toUInt32 31)).toInt32) &&& 858993459)) + ((Int32.toUInt32 (((x - (((Int32.toUInt32 x >>> (Int32.toUInt32 1 &&& Int32.toUInt32 31)).toInt32) &&& 1431655765)) &&& 858993459) + (((Int32.toUInt32 (x - (((Int32.toUInt32 x >>> (Int32.toUInt32 1 &&& Int32.toUInt32 31)).toInt32) &&& 1431655765)) >>> (Int32.toUInt32 2 &&& Int32.toUInt32 31)).toInt32) &&& 858993459)) >>> (Int32.toUInt32 4 &&& Int32.toUInt32 31)).toInt32)) &&& 252645135) >>> (Int32.toUInt32 8 &&& Int32.toUInt32 31)).toInt32)) + ((Int32.toUInt32 ((((((x - (((Int32.toUInt32 x >>> (Int32.toUInt32 1 &&& Int32.toUInt32 31)).toInt32) &&& 1431655765)) &&& 858993459) + (((Int32.toUInt32 (x - (((Int32.toUInt32 x >>> (Int32.toUInt32 1 &&& Int32.toUInt32 31)).toInt32) &&& 1431655765)) >>> (Int32.toUInt32 2 &&& Int32.toUInt32 31)).toInt32) &&& 858993459)) + ((Int32.toUInt32 (((x - (((Int32.toUInt32 x >>> (Int32.toUInt32 1 &&& Int32.toUInt32 31)).toInt32) &&& 1431655765)) &&& 858993459) + (((Int32.toUInt32 (x - (((Int32.toUInt32 x >>> (Int32.toUInt32 1 &&& Int32.toUInt32 31)).toInt32) &&& 1431655765)) >>> (Int32.toUInt32 2 &&& Int32.toUInt32 31)).toInt32) &&& 858993459)) >>> (Int32.toUInt32 4 &&& Int32.toUInt32 31)).toInt32)) &&& 252645135) + ((Int32.toUInt32 (((((x - (((Int32.toUInt32 x >>> (Int32.toUInt32 1 &&& Int32.toUInt32 31)).toInt32) &&& 1431655765)) &&& 858993459) + (((Int32.toUInt32 (x - (((Int32.toUInt32 x >>> (Int32.toUInt32 1 &&& Int32.toUInt32 31)).toInt32) &&& 1431655765)) >>> (Int32.toUInt32 2 &&& Int32.toUInt32 31)).toInt32) &&& 858993459)) + ((Int32.toUInt32 (((x - (((Int32.toUInt32 x >>> (Int32.toUInt32 1 &&& Int32.toUInt32 31)).toInt32) &&& 1431655765)) &&& 858993459) + (((Int32.toUInt32 (x - (((Int32.toUInt32 x >>> (Int32.toUInt32 1 &&& Int32.toUInt32 31)).toInt32) &&& 1431655765)) >>> (Int32.toUInt32 2 &&& Int32.toUInt32 31)).toInt32) &&& 858993459)) >>> (Int32.toUInt32 4 &&& Int32.toUInt32 31)).toInt32)) &&& 252645135) >>> (Int32.toUInt32 8 &&& Int32.toUInt32 31)).toInt32)) >>> (Int32.toUInt32 16 &&& Int32.toUInt32 31)).toInt32)))]) hx hb dJ6_bitCount_0f7a4_47 rfl hl (by decide) rfl (fun ls hl => ?_)
  refine lv_iload_n hx hb dJ6_bitCount_0f7a4_48 rfl (lv_at hl 0 rfl) ?_
  refine lv_bipush (v := 63) hx hb dJ6_bitCount_0f7a4_49 (by decide) ?_
  refine lv_iand hx hb dJ6_bitCount_0f7a4_51 ?_
  exact zret_i hx hb hr hlocks dJ6_bitCount_0f7a4_52 hq
def v_X4_bucketBy (x : Int32) (sal : Int32) : Nat := Int32.toNatClampNeg (((((((((x * (-1640531535)) + (sal * 40503)) ^^^ ((Int32.toUInt32 ((x * (-1640531535)) + (sal * 40503)) >>> (Int32.toUInt32 15 &&& Int32.toUInt32 31)).toInt32)) * (-2048144777)) ^^^ ((Int32.toUInt32 ((((x * (-1640531535)) + (sal * 40503)) ^^^ ((Int32.toUInt32 ((x * (-1640531535)) + (sal * 40503)) >>> (Int32.toUInt32 15 &&& Int32.toUInt32 31)).toInt32)) * (-2048144777)) >>> (Int32.toUInt32 13 &&& Int32.toUInt32 31)).toInt32)) * (-1028477379)) ^^^ ((Int32.toUInt32 ((((((x * (-1640531535)) + (sal * 40503)) ^^^ ((Int32.toUInt32 ((x * (-1640531535)) + (sal * 40503)) >>> (Int32.toUInt32 15 &&& Int32.toUInt32 31)).toInt32)) * (-2048144777)) ^^^ ((Int32.toUInt32 ((((x * (-1640531535)) + (sal * 40503)) ^^^ ((Int32.toUInt32 ((x * (-1640531535)) + (sal * 40503)) >>> (Int32.toUInt32 15 &&& Int32.toUInt32 31)).toInt32)) * (-2048144777)) >>> (Int32.toUInt32 13 &&& Int32.toUInt32 31)).toInt32)) * (-1028477379)) >>> (Int32.toUInt32 16 &&& Int32.toUInt32 31)).toInt32)) &&& 2147483647) - ((((((((x * (-1640531535)) + (sal * 40503)) ^^^ ((Int32.toUInt32 ((x * (-1640531535)) + (sal * 40503)) >>> (Int32.toUInt32 15 &&& Int32.toUInt32 31)).toInt32)) * (-2048144777)) ^^^ ((Int32.toUInt32 ((((x * (-1640531535)) + (sal * 40503)) ^^^ ((Int32.toUInt32 ((x * (-1640531535)) + (sal * 40503)) >>> (Int32.toUInt32 15 &&& Int32.toUInt32 31)).toInt32)) * (-2048144777)) >>> (Int32.toUInt32 13 &&& Int32.toUInt32 31)).toInt32)) * (-1028477379)) ^^^ ((Int32.toUInt32 ((((((x * (-1640531535)) + (sal * 40503)) ^^^ ((Int32.toUInt32 ((x * (-1640531535)) + (sal * 40503)) >>> (Int32.toUInt32 15 &&& Int32.toUInt32 31)).toInt32)) * (-2048144777)) ^^^ ((Int32.toUInt32 ((((x * (-1640531535)) + (sal * 40503)) ^^^ ((Int32.toUInt32 ((x * (-1640531535)) + (sal * 40503)) >>> (Int32.toUInt32 15 &&& Int32.toUInt32 31)).toInt32)) * (-2048144777)) >>> (Int32.toUInt32 13 &&& Int32.toUInt32 31)).toInt32)) * (-1028477379)) >>> (Int32.toUInt32 16 &&& Int32.toUInt32 31)).toInt32)) &&& 2147483647) / 100 * 100)
set_option maxHeartbeats 400000 in
set_option maxRecDepth 100000 in
theorem c_X4_bucketBy (l : Launch) (D : va_G) (g : Nat → ClassId) (x : Int32) (sal : Int32) : Rd l D (zT g) yX4_bucketBy wsX4_bucketBy (rmOf 0 0) [.int x, .int sal] ([]) (.int (nI (v_X4_bucketBy x sal))) := by
  refine Rd.of (cc := cX4_bucketBy) (maxL := 3) (ret := (some .int)) (by decide) rfl (Nat.le_of_ble_eq_true rfl) ?_
  intro p e s m below meth c ls hx hb hr hml hown hts hlocks hP hK hl
  have hown : s.vm.findClass RX4 = some m.cls := hown
  obtain ⟨q, hq⟩ : ∃ q : Nat, q = v_X4_bucketBy x sal := ⟨_, rfl⟩
  rw [← hq]
  unfold v_X4_bucketBy at hq
  have hl : lv_has ls 3 [(0, .int x), (1, .int sal)] := hl
  refine lv_iload_n hx hb dX4_bucketBy_0 rfl (lv_at hl 0 rfl) ?_
  refine lv_ldcw (v := (-1640531535)) hx hb hown (hts (.constant RX4 279 (-1640531535)) (List.mem_of_getElem? (i := 1) rfl)) dX4_bucketBy_1 ?_
  refine lv_imul hx hb dX4_bucketBy_4 ?_
  refine lv_iload_n hx hb dX4_bucketBy_5 rfl (lv_at hl 1 rfl) ?_
  refine lv_ldcw (v := 40503) hx hb hown (hts (.constant RX4 280 (40503)) (List.mem_of_getElem? (i := 2) rfl)) dX4_bucketBy_6 ?_
  refine lv_imul hx hb dX4_bucketBy_9 ?_
  refine lv_iadd hx hb dX4_bucketBy_10 ?_
  refine lv_istore_n (lv' := [(2, .int ((x * (-1640531535)) + (sal * 40503))), (0, .int x), (1, .int sal)]) hx hb dX4_bucketBy_11 rfl hl (by decide) rfl (fun ls hl => ?_)
  refine lv_iload_n hx hb dX4_bucketBy_12 rfl (lv_at hl 0 rfl) ?_
  refine lv_iload_n hx hb dX4_bucketBy_13 rfl (lv_at hl 0 rfl) ?_
  refine lv_bipush (v := 15) hx hb dX4_bucketBy_14 (by decide) ?_
  refine lv_iushr hx hb dX4_bucketBy_16 rfl ?_
  refine lv_ixor hx hb dX4_bucketBy_17 ?_
  refine lv_istore_n (lv' := [(2, .int (((x * (-1640531535)) + (sal * 40503)) ^^^ ((Int32.toUInt32 ((x * (-1640531535)) + (sal * 40503)) >>> (Int32.toUInt32 15 &&& Int32.toUInt32 31)).toInt32))), (0, .int x), (1, .int sal)]) hx hb dX4_bucketBy_18 rfl hl (by decide) rfl (fun ls hl => ?_)
  refine lv_iload_n hx hb dX4_bucketBy_19 rfl (lv_at hl 0 rfl) ?_
  refine lv_ldcw (v := (-2048144777)) hx hb hown (hts (.constant RX4 281 (-2048144777)) (List.mem_of_getElem? (i := 3) rfl)) dX4_bucketBy_20 ?_
  refine lv_imul hx hb dX4_bucketBy_23 ?_
  refine lv_istore_n (lv' := [(2, .int ((((x * (-1640531535)) + (sal * 40503)) ^^^ ((Int32.toUInt32 ((x * (-1640531535)) + (sal * 40503)) >>> (Int32.toUInt32 15 &&& Int32.toUInt32 31)).toInt32)) * (-2048144777))), (0, .int x), (1, .int sal)]) hx hb dX4_bucketBy_24 rfl hl (by decide) rfl (fun ls hl => ?_)
  refine lv_iload_n hx hb dX4_bucketBy_25 rfl (lv_at hl 0 rfl) ?_
  refine lv_iload_n hx hb dX4_bucketBy_26 rfl (lv_at hl 0 rfl) ?_
  refine lv_bipush (v := 13) hx hb dX4_bucketBy_27 (by decide) ?_
  refine lv_iushr hx hb dX4_bucketBy_29 rfl ?_
  refine lv_ixor hx hb dX4_bucketBy_30 ?_
  refine lv_istore_n (lv' := [(2, .int (((((x * (-1640531535)) + (sal * 40503)) ^^^ ((Int32.toUInt32 ((x * (-1640531535)) + (sal * 40503)) >>> (Int32.toUInt32 15 &&& Int32.toUInt32 31)).toInt32)) * (-2048144777)) ^^^ ((Int32.toUInt32 ((((x * (-1640531535)) + (sal * 40503)) ^^^ ((Int32.toUInt32 ((x * (-1640531535)) + (sal * 40503)) >>> (Int32.toUInt32 15 &&& Int32.toUInt32 31)).toInt32)) * (-2048144777)) >>> (Int32.toUInt32 13 &&& Int32.toUInt32 31)).toInt32))), (0, .int x), (1, .int sal)]) hx hb dX4_bucketBy_31 rfl hl (by decide) rfl (fun ls hl => ?_)
  refine lv_iload_n hx hb dX4_bucketBy_32 rfl (lv_at hl 0 rfl) ?_
  refine lv_ldcw (v := (-1028477379)) hx hb hown (hts (.constant RX4 282 (-1028477379)) (List.mem_of_getElem? (i := 4) rfl)) dX4_bucketBy_33 ?_
  refine lv_imul hx hb dX4_bucketBy_36 ?_
  refine lv_istore_n (lv' := [(2, .int ((((((x * (-1640531535)) + (sal * 40503)) ^^^ ((Int32.toUInt32 ((x * (-1640531535)) + (sal * 40503)) >>> (Int32.toUInt32 15 &&& Int32.toUInt32 31)).toInt32)) * (-2048144777)) ^^^ ((Int32.toUInt32 ((((x * (-1640531535)) + (sal * 40503)) ^^^ ((Int32.toUInt32 ((x * (-1640531535)) + (sal * 40503)) >>> (Int32.toUInt32 15 &&& Int32.toUInt32 31)).toInt32)) * (-2048144777)) >>> (Int32.toUInt32 13 &&& Int32.toUInt32 31)).toInt32)) * (-1028477379))), (0, .int x), (1, .int sal)]) hx hb dX4_bucketBy_37 rfl hl (by decide) rfl (fun ls hl => ?_)
  refine lv_iload_n hx hb dX4_bucketBy_38 rfl (lv_at hl 0 rfl) ?_
  refine lv_iload_n hx hb dX4_bucketBy_39 rfl (lv_at hl 0 rfl) ?_
  refine lv_bipush (v := 16) hx hb dX4_bucketBy_40 (by decide) ?_
  refine lv_iushr hx hb dX4_bucketBy_42 rfl ?_
  refine lv_ixor hx hb dX4_bucketBy_43 ?_
  refine lv_istore_n (lv' := [(2, .int (((((((x * (-1640531535)) + (sal * 40503)) ^^^ ((Int32.toUInt32 ((x * (-1640531535)) + (sal * 40503)) >>> (Int32.toUInt32 15 &&& Int32.toUInt32 31)).toInt32)) * (-2048144777)) ^^^ ((Int32.toUInt32 ((((x * (-1640531535)) + (sal * 40503)) ^^^ ((Int32.toUInt32 ((x * (-1640531535)) + (sal * 40503)) >>> (Int32.toUInt32 15 &&& Int32.toUInt32 31)).toInt32)) * (-2048144777)) >>> (Int32.toUInt32 13 &&& Int32.toUInt32 31)).toInt32)) * (-1028477379)) ^^^ ((Int32.toUInt32 ((((((x * (-1640531535)) + (sal * 40503)) ^^^ ((Int32.toUInt32 ((x * (-1640531535)) + (sal * 40503)) >>> (Int32.toUInt32 15 &&& Int32.toUInt32 31)).toInt32)) * (-2048144777)) ^^^ ((Int32.toUInt32 ((((x * (-1640531535)) + (sal * 40503)) ^^^ ((Int32.toUInt32 ((x * (-1640531535)) + (sal * 40503)) >>> (Int32.toUInt32 15 &&& Int32.toUInt32 31)).toInt32)) * (-2048144777)) >>> (Int32.toUInt32 13 &&& Int32.toUInt32 31)).toInt32)) * (-1028477379)) >>> (Int32.toUInt32 16 &&& Int32.toUInt32 31)).toInt32))), (0, .int x), (1, .int sal)]) hx hb dX4_bucketBy_44 rfl hl (by decide) rfl (fun ls hl => ?_)
  refine lv_iload_n hx hb dX4_bucketBy_45 rfl (lv_at hl 0 rfl) ?_
  refine lv_ldcw (v := 2147483647) hx hb hown (hts (.constant RX4 283 (2147483647)) (List.mem_of_getElem? (i := 5) rfl)) dX4_bucketBy_46 ?_
  refine lv_iand hx hb dX4_bucketBy_49 ?_
  refine lv_bipush (v := 100) hx hb dX4_bucketBy_50 (by decide) ?_
  refine lv_irem hx hb dX4_bucketBy_52 (by decide) ?_
  refine lv_is (znat (zbucket _)).1 ?_
  exact zret_i hx hb hr hlocks dX4_bucketBy_53 (congrArg nI hq)
theorem v_X4_bucketBy_lt (x s : Int32) : v_X4_bucketBy x s < 100 := (znat (zbucket _)).2
theorem zin3 {x : Int32} (c1 : ¬ x < 0) (c2 : ¬ 3 ≤ x) : vp_in x 3 := by
  obtain ⟨j, hj, rfl⟩ := nI_of c1
  have h : j < 3 := by
    rcases Nat.lt_or_ge j 3 with q | q
    · exact q
    · exact absurd (nI_le q hj) c2
  exact vp_in_nI h (by decide)
theorem zin_g {x : Int32} (h : v_X4_isGroup x = true) : vp_in x 3 := by
  unfold v_X4_isGroup at h
  by_cases c1 : x < 0
  · rw [if_pos c1] at h; cases h
  · rw [if_neg c1] at h
    by_cases c2 : 3 ≤ x
    · rw [if_pos c2] at h; cases h
    · exact zin3 c1 c2
theorem zin_gk {x : Int32} {k : Nat} (c1 : ¬ x < 0) (c2 : ¬ 3 ≤ x) (hk : k < 100) : vp_in (x * 100 + nI k) 300 := by
  obtain ⟨h1, h2⟩ := znat (zin3 c1 c2)
  rw [h1, show (100 : Int32) = nI 100 from rfl, pk_mul, nI_add]
  exact vp_in_nI (by omega) (by decide)
def v_X3_hasBread (T : Nat → Nat → Int32) (x : Int32) : Bool := (if x < 0 then false else (if (T 0 0) ≤ x then false else (if 8 ≤ x then false else true)))
set_option maxHeartbeats 400000 in
set_option maxRecDepth 100000 in
theorem c_X3_hasBread (l : Launch) (D : va_G) (g : Nat → ClassId) (h : Nat → Nat) (T : Nat → Nat → Int32) (x : Int32) : Rd l D (zT g) yX3_hasBread wsX3_hasBread (rmOf 0 0) [.ref (h 0), .int x] (zB_X3 (g 0) h T) (.int (bI (v_X3_hasBread T x))) := by
  refine Rd.of (cc := cX3_hasBread) (maxL := 2) (ret := (some .boolean)) (by decide) rfl (Nat.le_of_ble_eq_true rfl) ?_
  intro p e s m below meth c ls hx hb hr hml hown hts hlocks hP hK hl
  have hown : s.vm.findClass RX3 = some m.cls := hown
  have hinX3 : ∀ w ∈ u_ws RX3 TX3 15, w ∈ wsX3_hasBread := fun _ h9 => (List.mem_cons_of_mem _ (List.mem_append_right _ h9))
  obtain ⟨q, hq⟩ : ∃ q : Bool, q = v_X3_hasBread T x := ⟨_, rfl⟩
  rw [← hq]
  unfold v_X3_hasBread at hq
  have hl : lv_has ls 2 [(0, .ref (h 0)), (1, .int x)] := hl
  refine lv_iload_n hx hb dX3_hasBread_0 rfl (lv_at hl 1 rfl) ?_
  refine lv_if_lt (tgt := 22) hx hb dX3_hasBread_1 (by decide) (fun c_1 => ?_) (fun c_1 => ?_)
  · have c_1 : x < 0 := c_1
    have hq := hq.trans (if_pos c_1)
    refine lv_iconst (v := 0) hx hb dX3_hasBread_22 (by decide) ?_
    exact zret_z (q' := false) hx hb hr hlocks dX3_hasBread_23 hq
  · have c_1 : ¬ (x < 0) := c_1
    have hq := hq.trans (if_neg c_1)
    refine lv_iload_n hx hb dX3_hasBread_4 rfl (lv_at hl 1 rfl) ?_
    refine lv_aload_n hx hb dX3_hasBread_5 rfl (lv_at hl 0 rfl) ?_
    refine va_get (D := D) (ci := 3) (v := .int (T 0 0)) (C := RX3) (T := TX3) (N := 15) hx hb hts hinX3 hown hK.1 hP 0 rfl rfl 0 (by decide) (hts (.fieldLink RX3 42 "SaltShares$Town" "breads" "I") (List.mem_of_getElem? (i := 1) rfl)) (fun _ h9 => h9) rfl dX3_hasBread_6 ?_
    refine lv_icmp_ge (tgt := 22) hx hb dX3_hasBread_9 (by decide) (fun c_2 => ?_) (fun c_2 => ?_)
    · have c_2 : (T 0 0) ≤ x := c_2
      have hq := hq.trans (if_pos c_2)
      refine lv_iconst (v := 0) hx hb dX3_hasBread_22 (by decide) ?_
      exact zret_z (q' := false) hx hb hr hlocks dX3_hasBread_23 hq
    · have c_2 : ¬ ((T 0 0) ≤ x) := c_2
      have hq := hq.trans (if_neg c_2)
      refine lv_iload_n hx hb dX3_hasBread_12 rfl (lv_at hl 1 rfl) ?_
      refine lv_bipush (v := 8) hx hb dX3_hasBread_13 (by decide) ?_
      refine lv_icmp_ge (tgt := 22) hx hb dX3_hasBread_15 (by decide) (fun c_3 => ?_) (fun c_3 => ?_)
      · have c_3 : 8 ≤ x := c_3
        have hq := hq.trans (if_pos c_3)
        refine lv_iconst (v := 0) hx hb dX3_hasBread_22 (by decide) ?_
        exact zret_z (q' := false) hx hb hr hlocks dX3_hasBread_23 hq
      · have c_3 : ¬ (8 ≤ x) := c_3
        have hq := hq.trans (if_neg c_3)
        refine lv_iconst (v := 1) hx hb dX3_hasBread_18 (by decide) ?_
        refine lv_goto (tgt := 23) hx hb dX3_hasBread_19 (by decide) ?_
        exact zret_z (q' := true) hx hb hr hlocks dX3_hasBread_23 hq
def v_X3_isOpenBread (T : Nat → Nat → Int32) (x : Int32) : Bool := (if (v_X3_hasBread T x) = true then (if (((T 3 0) >>> (x &&& 31)) &&& 1) = 0 then false else true) else false)
set_option maxHeartbeats 400000 in
set_option maxRecDepth 100000 in
theorem c_X3_isOpenBread (l : Launch) (D : va_G) (g : Nat → ClassId) (h : Nat → Nat) (T : Nat → Nat → Int32) (x : Int32) : Rd l D (zT g) yX3_isOpenBread wsX3_isOpenBread (rmOf 1 21) [.ref (h 0), .int x] (zB_X3 (g 0) h T) (.int (bI (v_X3_isOpenBread T x))) := by
  refine Rd.of (cc := cX3_isOpenBread) (maxL := 2) (ret := (some .boolean)) (by decide) rfl (Nat.le_of_ble_eq_true rfl) ?_
  intro p e s m below meth c ls hx hb hr hml hown hts hlocks hP hK hl
  have hown : s.vm.findClass RX3 = some m.cls := hown
  have hinX3 : ∀ w ∈ u_ws RX3 TX3 15, w ∈ wsX3_isOpenBread := fun _ h9 => (List.mem_cons_of_mem _ (List.mem_append_right _ h9))
  obtain ⟨q, hq⟩ : ∃ q : Bool, q = v_X3_isOpenBread T x := ⟨_, rfl⟩
  rw [← hq]
  unfold v_X3_isOpenBread at hq
  have hl : lv_has ls 2 [(0, .ref (h 0)), (1, .int x)] := hl
  refine lv_aload_n hx hb dX3_isOpenBread_0 rfl (lv_at hl 0 rfl) ?_
  refine lv_iload_n hx hb dX3_isOpenBread_1 rfl (lv_at hl 1 rfl) ?_
  refine zcV (ci := 3) (n := 1) (c_X3_hasBread l D g h T x) hx hb hml hown hts gX3_isOpenBread_X3_hasBread rfl ⟨rfl, by decide, by decide, by decide⟩ ⟨Nat.le_of_ble_eq_true rfl, Nat.le_of_ble_eq_true rfl⟩ ⟨rfl, rfl⟩ hK hP rfl rfl rfl hl.1 rfl rfl (Nat.le_of_ble_eq_true rfl) ⟨Nat.zero_le _, Nat.zero_le _⟩ dX3_isOpenBread_2 ?_
  refine zif_eq (tgt := 23) hx hb dX3_isOpenBread_5 (by decide) (fun c_2 => ?_) (fun c_2 => ?_)
  · have hq := hq.trans (zif_f c_2)
    refine lv_iconst (v := 0) hx hb dX3_isOpenBread_23 (by decide) ?_
    exact zret_z (q' := false) hx hb hr hlocks dX3_isOpenBread_24 hq
  · have hq := hq.trans (zif_t c_2)
    refine lv_aload_n hx hb dX3_isOpenBread_8 rfl (lv_at hl 0 rfl) ?_
    refine va_get (D := D) (ci := 3) (v := .int (T 3 0)) (C := RX3) (T := TX3) (N := 15) hx hb hts hinX3 hown hK.1 hP 0 rfl rfl 3 (by decide) (hts (.fieldLink RX3 52 "SaltShares$Town" "openOnes" "I") (List.mem_of_getElem? (i := 1) rfl)) (fun _ h9 => h9) rfl dX3_isOpenBread_9 ?_
    refine lv_iload_n hx hb dX3_isOpenBread_12 rfl (lv_at hl 1 rfl) ?_
    refine lv_ishr hx hb dX3_isOpenBread_13 ?_
    refine lv_iconst (v := 1) hx hb dX3_isOpenBread_14 (by decide) ?_
    refine lv_iand hx hb dX3_isOpenBread_15 ?_
    refine lv_if_eq (tgt := 23) hx hb dX3_isOpenBread_16 (by decide) (fun c_3 => ?_) (fun c_3 => ?_)
    · have c_3 : (((T 3 0) >>> (x &&& 31)) &&& 1) = 0 := c_3
      have hq := hq.trans (if_pos c_3)
      refine lv_iconst (v := 0) hx hb dX3_isOpenBread_23 (by decide) ?_
      exact zret_z (q' := false) hx hb hr hlocks dX3_isOpenBread_24 hq
    · have c_3 : ¬ ((((T 3 0) >>> (x &&& 31)) &&& 1) = 0) := c_3
      have hq := hq.trans (if_neg c_3)
      refine lv_iconst (v := 1) hx hb dX3_isOpenBread_19 (by decide) ?_
      refine lv_goto (tgt := 24) hx hb dX3_isOpenBread_20 (by decide) ?_
      exact zret_z (q' := true) hx hb hr hlocks dX3_isOpenBread_24 hq
theorem zin_b {T : Nat → Nat → Int32} {x : Int32} (h : v_X3_hasBread T x = true) : vp_in x 8 := by
  unfold v_X3_hasBread at h
  by_cases c1 : x < 0
  · rw [if_pos c1] at h; cases h
  · rw [if_neg c1] at h
    by_cases c2 : T 0 0 ≤ x
    · rw [if_pos c2] at h; cases h
    · rw [if_neg c2] at h
      by_cases c3 : 8 ≤ x
      · rw [if_pos c3] at h; cases h
      · obtain ⟨j, hj, rfl⟩ := nI_of c1
        have h : j < 8 := by
          rcases Nat.lt_or_ge j 8 with q | q
          · exact q
          · exact absurd (nI_le q hj) c3
        exact vp_in_nI h (by decide)
theorem zin_open {T : Nat → Nat → Int32} {x : Int32} (h : v_X3_isOpenBread T x = true) : vp_in x 8 := by
  unfold v_X3_isOpenBread at h
  by_cases c1 : v_X3_hasBread T x = true
  · exact zin_b c1
  · rw [if_neg c1] at h; cases h
def v_X3_isInGroup (T : Nat → Nat → Int32) (b : Nat) : Bool := v_X4_isGroup (T 5 b)
set_option maxHeartbeats 400000 in
set_option maxRecDepth 100000 in
theorem c_X3_isInGroup (l : Launch) (D : va_G) (g : Nat → ClassId) (h : Nat → Nat) (T : Nat → Nat → Int32) (b : Nat) (z0 : b < 8) : Rd l D (zT g) yX3_isInGroup wsX3_isInGroup (rmOf 1 20) [.ref (h 0), .int (nI b)] (zB_X3 (g 0) h T) (.int (bI (v_X3_isInGroup T b))) := by
  refine Rd.of (cc := cX3_isInGroup) (maxL := 2) (ret := (some .boolean)) (by decide) rfl (Nat.le_of_ble_eq_true rfl) ?_
  intro p e s m below meth c ls hx hb hr hml hown hts hlocks hP hK hl
  have hown : s.vm.findClass RX3 = some m.cls := hown
  have hinX3 : ∀ w ∈ u_ws RX3 TX3 15, w ∈ wsX3_isInGroup := fun _ h9 => (List.mem_cons_of_mem _ (List.mem_append_right _ h9))
  obtain ⟨q, hq⟩ : ∃ q : Bool, q = v_X3_isInGroup T b := ⟨_, rfl⟩
  rw [← hq]
  unfold v_X3_isInGroup at hq
  have hl : lv_has ls 2 [(0, .ref (h 0)), (1, .int (nI b))] := hl
  refine lv_aload_n hx hb dX3_isInGroup_0 rfl (lv_at hl 0 rfl) ?_
  refine va_get (D := D) (ci := 3) (v := .ref (h 6)) (C := RX3) (T := TX3) (N := 15) hx hb hts hinX3 hown hK.1 hP 0 rfl rfl 5 (by decide) (hts (.fieldLink RX3 9 "SaltShares$Town" "groupOf" "[I") (List.mem_of_getElem? (i := 1) rfl)) (fun _ h9 => h9) rfl dX3_isInGroup_1 ?_
  refine lv_iload_n hx hb dX3_isInGroup_4 rfl (lv_at hl 1 rfl) ?_
  refine z_iald (i := b) hx hb hK hP 1 0 rfl rfl (by omega) (by decide) dX3_isInGroup_5 ?_
  refine zcSN (n := 1) (c_X4_isGroup l D g (T 5 b)) hx hb hml hown hts gX3_isInGroup_X4_isGroup_n68 rfl ⟨by decide, by decide, by decide⟩ ⟨Nat.le_of_ble_eq_true rfl, Nat.le_of_ble_eq_true rfl⟩ ⟨rfl, rfl⟩ (List.mem_of_getElem? (i := 0) rfl) (List.mem_of_getElem? (i := 3) rfl) (List.mem_of_getElem? (i := 2) rfl) hK (hP.sub [] rfl) hl.1 rfl rfl (Nat.le_of_ble_eq_true rfl) ⟨Nat.zero_le _, Nat.zero_le _⟩ dX3_isInGroup_6 ?_
  exact zret_z (q' := (v_X4_isGroup (T 5 b))) hx hb hr hlocks dX3_isInGroup_9 hq
def v_X3_saltOf (T : Nat → Nat → Int32) (b : Nat) : Int32 := (if (v_X4_isGroup (T 5 b)) = true then (T 9 (Int32.toNatClampNeg (T 5 b))) else (T 6 b))
set_option maxHeartbeats 400000 in
set_option maxRecDepth 100000 in
theorem c_X3_saltOf (l : Launch) (D : va_G) (g : Nat → ClassId) (h : Nat → Nat) (T : Nat → Nat → Int32) (b : Nat) (z0 : b < 8) : Rd l D (zT g) yX3_saltOf wsX3_saltOf (rmOf 1 20) [.ref (h 0), .int (nI b)] (zB_X3 (g 0) h T) (.int (v_X3_saltOf T b)) := by
  refine Rd.of (cc := cX3_saltOf) (maxL := 3) (ret := (some .int)) (by decide) rfl (Nat.le_of_ble_eq_true rfl) ?_
  intro p e s m below meth c ls hx hb hr hml hown hts hlocks hP hK hl
  have hown : s.vm.findClass RX3 = some m.cls := hown
  have hinX3 : ∀ w ∈ u_ws RX3 TX3 15, w ∈ wsX3_saltOf := fun _ h9 => (List.mem_cons_of_mem _ (List.mem_append_right _ h9))
  obtain ⟨q, hq⟩ : ∃ q : Int32, q = v_X3_saltOf T b := ⟨_, rfl⟩
  rw [← hq]
  unfold v_X3_saltOf at hq
  have hl : lv_has ls 3 [(0, .ref (h 0)), (1, .int (nI b))] := hl
  refine lv_aload_n hx hb dX3_saltOf_0 rfl (lv_at hl 0 rfl) ?_
  refine va_get (D := D) (ci := 3) (v := .ref (h 6)) (C := RX3) (T := TX3) (N := 15) hx hb hts hinX3 hown hK.1 hP 0 rfl rfl 5 (by decide) (hts (.fieldLink RX3 9 "SaltShares$Town" "groupOf" "[I") (List.mem_of_getElem? (i := 1) rfl)) (fun _ h9 => h9) rfl dX3_saltOf_1 ?_
  refine lv_iload_n hx hb dX3_saltOf_4 rfl (lv_at hl 1 rfl) ?_
  refine z_iald (i := b) hx hb hK hP 1 0 rfl rfl (by omega) (by decide) dX3_saltOf_5 ?_
  refine lv_istore_n (lv' := [(2, .int (T 5 b)), (0, .ref (h 0)), (1, .int (nI b))]) hx hb dX3_saltOf_6 rfl hl (by decide) rfl (fun ls hl => ?_)
  refine lv_iload_n hx hb dX3_saltOf_7 rfl (lv_at hl 0 rfl) ?_
  refine zcSN (n := 1) (c_X4_isGroup l D g (T 5 b)) hx hb hml hown hts gX3_saltOf_X4_isGroup_n68 rfl ⟨by decide, by decide, by decide⟩ ⟨Nat.le_of_ble_eq_true rfl, Nat.le_of_ble_eq_true rfl⟩ ⟨rfl, rfl⟩ (List.mem_of_getElem? (i := 0) rfl) (List.mem_of_getElem? (i := 5) rfl) (List.mem_of_getElem? (i := 4) rfl) hK (hP.sub [] rfl) hl.1 rfl rfl (Nat.le_of_ble_eq_true rfl) ⟨Nat.zero_le _, Nat.zero_le _⟩ dX3_saltOf_8 ?_
  refine zif_eq (tgt := 23) hx hb dX3_saltOf_11 (by decide) (fun c_2 => ?_) (fun c_2 => ?_)
  · have hq := hq.trans (zif_f c_2)
    refine lv_aload_n hx hb dX3_saltOf_23 rfl (lv_at hl 1 rfl) ?_
    refine va_get (D := D) (ci := 3) (v := .ref (h 7)) (C := RX3) (T := TX3) (N := 15) hx hb hts hinX3 hown hK.1 hP 0 rfl rfl 6 (by decide) (hts (.fieldLink RX3 15 "SaltShares$Town" "salt" "[I") (List.mem_of_getElem? (i := 3) rfl)) (fun _ h9 => h9) rfl dX3_saltOf_24 ?_
    refine lv_iload_n hx hb dX3_saltOf_27 rfl (lv_at hl 2 rfl) ?_
    refine z_iald (i := b) hx hb hK hP 2 0 rfl rfl (by omega) (by decide) dX3_saltOf_28 ?_
    exact zret_i hx hb hr hlocks dX3_saltOf_29 hq
  · have hq := hq.trans (zif_t c_2)
    refine lv_aload_n hx hb dX3_saltOf_14 rfl (lv_at hl 1 rfl) ?_
    refine va_get (D := D) (ci := 3) (v := .ref (h 10)) (C := RX3) (T := TX3) (N := 15) hx hb hts hinX3 hown hK.1 hP 0 rfl rfl 9 (by decide) (hts (.fieldLink RX3 24 "SaltShares$Town" "groupSalt" "[I") (List.mem_of_getElem? (i := 2) rfl)) (fun _ h9 => h9) rfl dX3_saltOf_15 ?_
    refine lv_iload_n hx hb dX3_saltOf_18 rfl (lv_at hl 0 rfl) ?_
    refine va_iald hx hb hK.1 hP 5 0 rfl rfl (zin_g (by assumption)) dX3_saltOf_19 ?_
    refine lv_goto (tgt := 29) hx hb dX3_saltOf_20 (by decide) ?_
    exact zret_i hx hb hr hlocks dX3_saltOf_29 hq
def v_X3_owns (T : Nat → Nat → Int32) (b : Nat) (k : Nat) : Bool := (if (T 5 b) < 0 then (if (T 7 b) ≤ (nI k) then false else true) else (if 3 ≤ (T 5 b) then (if (T 7 b) ≤ (nI k) then false else true) else (if (T 10 (Int32.toNatClampNeg (((T 5 b) * 100) + (nI k)))) = (nI b) then true else false)))
set_option maxHeartbeats 400000 in
set_option maxRecDepth 100000 in
theorem c_X3_owns (l : Launch) (D : va_G) (g : Nat → ClassId) (h : Nat → Nat) (T : Nat → Nat → Int32) (b : Nat) (k : Nat) (z0 : b < 8) (z1 : k < 100) : Rd l D (zT g) yX3_owns wsX3_owns (rmOf 0 0) [.ref (h 0), .int (nI b), .int (nI k)] (zB_X3 (g 0) h T) (.int (bI (v_X3_owns T b k))) := by
  refine Rd.of (cc := cX3_owns) (maxL := 4) (ret := (some .boolean)) (by decide) rfl (Nat.le_of_ble_eq_true rfl) ?_
  intro p e s m below meth c ls hx hb hr hml hown hts hlocks hP hK hl
  have hown : s.vm.findClass RX3 = some m.cls := hown
  have hinX3 : ∀ w ∈ u_ws RX3 TX3 15, w ∈ wsX3_owns := fun _ h9 => (List.mem_cons_of_mem _ (List.mem_append_right _ h9))
  obtain ⟨q, hq⟩ : ∃ q : Bool, q = v_X3_owns T b k := ⟨_, rfl⟩
  rw [← hq]
  unfold v_X3_owns at hq
  have hl : lv_has ls 4 [(0, .ref (h 0)), (1, .int (nI b)), (2, .int (nI k))] := hl
  refine lv_aload_n hx hb dX3_owns_0 rfl (lv_at hl 0 rfl) ?_
  refine va_get (D := D) (ci := 3) (v := .ref (h 6)) (C := RX3) (T := TX3) (N := 15) hx hb hts hinX3 hown hK.1 hP 0 rfl rfl 5 (by decide) (hts (.fieldLink RX3 9 "SaltShares$Town" "groupOf" "[I") (List.mem_of_getElem? (i := 1) rfl)) (fun _ h9 => h9) rfl dX3_owns_1 ?_
  refine lv_iload_n hx hb dX3_owns_4 rfl (lv_at hl 1 rfl) ?_
  refine z_iald (i := b) hx hb hK hP 1 0 rfl rfl (by omega) (by decide) dX3_owns_5 ?_
  refine lv_istore_n (lv' := [(3, .int (T 5 b)), (0, .ref (h 0)), (1, .int (nI b)), (2, .int (nI k))]) hx hb dX3_owns_6 rfl hl (by decide) rfl (fun ls hl => ?_)
  refine lv_iload_n hx hb dX3_owns_7 rfl (lv_at hl 0 rfl) ?_
  refine lv_if_lt (tgt := 37) hx hb dX3_owns_8 (by decide) (fun c_1 => ?_) (fun c_1 => ?_)
  · have c_1 : (T 5 b) < 0 := c_1
    have hq := hq.trans (if_pos c_1)
    refine lv_iload_n hx hb dX3_owns_37 rfl (lv_at hl 3 rfl) ?_
    refine lv_aload_n hx hb dX3_owns_38 rfl (lv_at hl 1 rfl) ?_
    refine va_get (D := D) (ci := 3) (v := .ref (h 8)) (C := RX3) (T := TX3) (N := 15) hx hb hts hinX3 hown hK.1 hP 0 rfl rfl 7 (by decide) (hts (.fieldLink RX3 18 "SaltShares$Town" "share" "[I") (List.mem_of_getElem? (i := 3) rfl)) (fun _ h9 => h9) rfl dX3_owns_39 ?_
    refine lv_iload_n hx hb dX3_owns_42 rfl (lv_at hl 2 rfl) ?_
    refine z_iald (i := b) hx hb hK hP 3 0 rfl rfl (by omega) (by decide) dX3_owns_43 ?_
    refine lv_icmp_ge (tgt := 51) hx hb dX3_owns_44 (by decide) (fun c_2 => ?_) (fun c_2 => ?_)
    · have c_2 : (T 7 b) ≤ (nI k) := c_2
      have hq := hq.trans (if_pos c_2)
      refine lv_iconst (v := 0) hx hb dX3_owns_51 (by decide) ?_
      exact zret_z (q' := false) hx hb hr hlocks dX3_owns_52 hq
    · have c_2 : ¬ ((T 7 b) ≤ (nI k)) := c_2
      have hq := hq.trans (if_neg c_2)
      refine lv_iconst (v := 1) hx hb dX3_owns_47 (by decide) ?_
      refine lv_goto (tgt := 52) hx hb dX3_owns_48 (by decide) ?_
      exact zret_z (q' := true) hx hb hr hlocks dX3_owns_52 hq
  · have c_1 : ¬ ((T 5 b) < 0) := c_1
    have hq := hq.trans (if_neg c_1)
    refine lv_iload_n hx hb dX3_owns_11 rfl (lv_at hl 0 rfl) ?_
    refine lv_iconst (v := 3) hx hb dX3_owns_12 (by decide) ?_
    refine lv_icmp_ge (tgt := 37) hx hb dX3_owns_13 (by decide) (fun c_3 => ?_) (fun c_3 => ?_)
    · have c_3 : 3 ≤ (T 5 b) := c_3
      have hq := hq.trans (if_pos c_3)
      refine lv_iload_n hx hb dX3_owns_37 rfl (lv_at hl 3 rfl) ?_
      refine lv_aload_n hx hb dX3_owns_38 rfl (lv_at hl 1 rfl) ?_
      refine va_get (D := D) (ci := 3) (v := .ref (h 8)) (C := RX3) (T := TX3) (N := 15) hx hb hts hinX3 hown hK.1 hP 0 rfl rfl 7 (by decide) (hts (.fieldLink RX3 18 "SaltShares$Town" "share" "[I") (List.mem_of_getElem? (i := 3) rfl)) (fun _ h9 => h9) rfl dX3_owns_39 ?_
      refine lv_iload_n hx hb dX3_owns_42 rfl (lv_at hl 2 rfl) ?_
      refine z_iald (i := b) hx hb hK hP 3 0 rfl rfl (by omega) (by decide) dX3_owns_43 ?_
      refine lv_icmp_ge (tgt := 51) hx hb dX3_owns_44 (by decide) (fun c_4 => ?_) (fun c_4 => ?_)
      · have c_4 : (T 7 b) ≤ (nI k) := c_4
        have hq := hq.trans (if_pos c_4)
        refine lv_iconst (v := 0) hx hb dX3_owns_51 (by decide) ?_
        exact zret_z (q' := false) hx hb hr hlocks dX3_owns_52 hq
      · have c_4 : ¬ ((T 7 b) ≤ (nI k)) := c_4
        have hq := hq.trans (if_neg c_4)
        refine lv_iconst (v := 1) hx hb dX3_owns_47 (by decide) ?_
        refine lv_goto (tgt := 52) hx hb dX3_owns_48 (by decide) ?_
        exact zret_z (q' := true) hx hb hr hlocks dX3_owns_52 hq
    · have c_3 : ¬ (3 ≤ (T 5 b)) := c_3
      have hq := hq.trans (if_neg c_3)
      refine lv_aload_n hx hb dX3_owns_16 rfl (lv_at hl 1 rfl) ?_
      refine va_get (D := D) (ci := 3) (v := .ref (h 11)) (C := RX3) (T := TX3) (N := 15) hx hb hts hinX3 hown hK.1 hP 0 rfl rfl 10 (by decide) (hts (.fieldLink RX3 27 "SaltShares$Town" "ownerOf" "[I") (List.mem_of_getElem? (i := 2) rfl)) (fun _ h9 => h9) rfl dX3_owns_17 ?_
      refine lv_iload_n hx hb dX3_owns_20 rfl (lv_at hl 0 rfl) ?_
      refine lv_bipush (v := 100) hx hb dX3_owns_21 (by decide) ?_
      refine lv_imul hx hb dX3_owns_23 ?_
      refine lv_iload_n hx hb dX3_owns_24 rfl (lv_at hl 3 rfl) ?_
      refine lv_iadd hx hb dX3_owns_25 ?_
      refine va_iald hx hb hK.1 hP 6 0 rfl rfl (zin_gk (by assumption) (by assumption) (by assumption)) dX3_owns_26 ?_
      refine lv_iload_n hx hb dX3_owns_27 rfl (lv_at hl 2 rfl) ?_
      refine lv_icmp_ne (tgt := 35) hx hb dX3_owns_28 (by decide) (fun c_5 => ?_) (fun c_5 => ?_)
      · have c_5 : ¬ ((T 10 (Int32.toNatClampNeg (((T 5 b) * 100) + (nI k)))) = (nI b)) := c_5
        have hq := hq.trans (if_neg c_5)
        refine lv_iconst (v := 0) hx hb dX3_owns_35 (by decide) ?_
        exact zret_z (q' := false) hx hb hr hlocks dX3_owns_36 hq
      · have c_5 : (T 10 (Int32.toNatClampNeg (((T 5 b) * 100) + (nI k)))) = (nI b) := c_5
        have hq := hq.trans (if_pos c_5)
        refine lv_iconst (v := 1) hx hb dX3_owns_31 (by decide) ?_
        refine lv_goto (tgt := 36) hx hb dX3_owns_32 (by decide) ?_
        exact zret_z (q' := true) hx hb hr hlocks dX3_owns_36 hq
