def v_X5_within (v : Int32) (lo : Int32) (hi : Int32) : Bool := (if v < lo then false else (if hi < v then false else true))
set_option maxHeartbeats 400000 in
set_option maxRecDepth 100000 in
theorem c_X5_within (l : Launch) (D : va_G) (g : Nat → ClassId) (v : Int32) (lo : Int32) (hi : Int32) : Rd l D (zT g) yX5_within wsX5_within (rmOf 0 0) [.int v, .int lo, .int hi] ([]) (.int (bI (v_X5_within v lo hi))) := by
  refine Rd.of (cc := cX5_within) (maxL := 3) (ret := (some .boolean)) (by decide) rfl (Nat.le_of_ble_eq_true rfl) ?_
  intro p e s m below meth c ls hx hb hr hml hown hts hlocks hP hK hl
  have hown : s.vm.findClass RX5 = some m.cls := hown
  obtain ⟨q, hq⟩ : ∃ q : Bool, q = v_X5_within v lo hi := ⟨_, rfl⟩
  rw [← hq]
  unfold v_X5_within at hq
  have hl : lv_has ls 3 [(0, .int v), (1, .int lo), (2, .int hi)] := hl
  refine lv_iload_n hx hb dX5_within_0 rfl (lv_at hl 0 rfl) ?_
  refine lv_iload_n hx hb dX5_within_1 rfl (lv_at hl 1 rfl) ?_
  refine lv_icmp_lt (tgt := 14) hx hb dX5_within_2 (by decide) (fun c_1 => ?_) (fun c_1 => ?_)
  · have c_1 : v < lo := c_1
    have hq := hq.trans (if_pos c_1)
    refine lv_iconst (v := 0) hx hb dX5_within_14 (by decide) ?_
    exact zret_z (q' := false) hx hb hr hlocks dX5_within_15 hq
  · have c_1 : ¬ (v < lo) := c_1
    have hq := hq.trans (if_neg c_1)
    refine lv_iload_n hx hb dX5_within_5 rfl (lv_at hl 0 rfl) ?_
    refine lv_iload_n hx hb dX5_within_6 rfl (lv_at hl 2 rfl) ?_
    refine lv_icmp_gt (tgt := 14) hx hb dX5_within_7 (by decide) (fun c_2 => ?_) (fun c_2 => ?_)
    · have c_2 : hi < v := c_2
      have hq := hq.trans (if_pos c_2)
      refine lv_iconst (v := 0) hx hb dX5_within_14 (by decide) ?_
      exact zret_z (q' := false) hx hb hr hlocks dX5_within_15 hq
    · have c_2 : ¬ (hi < v) := c_2
      have hq := hq.trans (if_neg c_2)
      refine lv_iconst (v := 1) hx hb dX5_within_10 (by decide) ?_
      refine lv_goto (tgt := 15) hx hb dX5_within_11 (by decide) ?_
      exact zret_z (q' := true) hx hb hr hlocks dX5_within_15 hq
def v_X5_isPerson (x : Int32) : Bool := v_X5_within x 0 149
set_option maxHeartbeats 400000 in
set_option maxRecDepth 100000 in
theorem c_X5_isPerson (l : Launch) (D : va_G) (g : Nat → ClassId) (x : Int32) : Rd l D (zT g) yX5_isPerson wsX5_isPerson (rmOf 1 22) [.int x] ([]) (.int (bI (v_X5_isPerson x))) := by
  refine Rd.of (cc := cX5_isPerson) (maxL := 1) (ret := (some .boolean)) (by decide) rfl (Nat.le_of_ble_eq_true rfl) ?_
  intro p e s m below meth c ls hx hb hr hml hown hts hlocks hP hK hl
  have hown : s.vm.findClass RX5 = some m.cls := hown
  obtain ⟨q, hq⟩ : ∃ q : Bool, q = v_X5_isPerson x := ⟨_, rfl⟩
  rw [← hq]
  unfold v_X5_isPerson at hq
  have hl : lv_has ls 1 [(0, .int x)] := hl
  refine lv_iload_n hx hb dX5_isPerson_0 rfl (lv_at hl 0 rfl) ?_
  refine lv_iconst (v := 0) hx hb dX5_isPerson_1 (by decide) ?_
  refine lv_sipush (v := 149) hx hb dX5_isPerson_2 (by decide) ?_
  refine zcSO (n := 3) (c_X5_within l D g x 0 149) hx hb hml hown hts gX5_isPerson_X5_within rfl ⟨by decide, by decide, by decide⟩ ⟨Nat.le_of_ble_eq_true rfl, Nat.le_of_ble_eq_true rfl⟩ ⟨rfl, rfl⟩ hK hP hl.1 rfl rfl (Nat.le_of_ble_eq_true rfl) ⟨Nat.zero_le _, Nat.zero_le _⟩ dX5_isPerson_5 ?_
  exact zret_z (q' := (v_X5_within x 0 149)) hx hb hr hlocks dX5_isPerson_8 hq
def v_X5_isSalt (x : Int32) : Bool := v_X5_within x 0 9999
set_option maxHeartbeats 400000 in
set_option maxRecDepth 100000 in
theorem c_X5_isSalt (l : Launch) (D : va_G) (g : Nat → ClassId) (x : Int32) : Rd l D (zT g) yX5_isSalt wsX5_isSalt (rmOf 1 22) [.int x] ([]) (.int (bI (v_X5_isSalt x))) := by
  refine Rd.of (cc := cX5_isSalt) (maxL := 1) (ret := (some .boolean)) (by decide) rfl (Nat.le_of_ble_eq_true rfl) ?_
  intro p e s m below meth c ls hx hb hr hml hown hts hlocks hP hK hl
  have hown : s.vm.findClass RX5 = some m.cls := hown
  obtain ⟨q, hq⟩ : ∃ q : Bool, q = v_X5_isSalt x := ⟨_, rfl⟩
  rw [← hq]
  unfold v_X5_isSalt at hq
  have hl : lv_has ls 1 [(0, .int x)] := hl
  refine lv_iload_n hx hb dX5_isSalt_0 rfl (lv_at hl 0 rfl) ?_
  refine lv_iconst (v := 0) hx hb dX5_isSalt_1 (by decide) ?_
  refine lv_sipush (v := 9999) hx hb dX5_isSalt_2 (by decide) ?_
  refine zcSO (n := 3) (c_X5_within l D g x 0 9999) hx hb hml hown hts gX5_isSalt_X5_within rfl ⟨by decide, by decide, by decide⟩ ⟨Nat.le_of_ble_eq_true rfl, Nat.le_of_ble_eq_true rfl⟩ ⟨rfl, rfl⟩ hK hP hl.1 rfl rfl (Nat.le_of_ble_eq_true rfl) ⟨Nat.zero_le _, Nat.zero_le _⟩ dX5_isSalt_5 ?_
  exact zret_z (q' := (v_X5_within x 0 9999)) hx hb hr hlocks dX5_isSalt_8 hq
def v_X5_isShare (x : Int32) : Bool := v_X5_within x 0 100
set_option maxHeartbeats 400000 in
set_option maxRecDepth 100000 in
theorem c_X5_isShare (l : Launch) (D : va_G) (g : Nat → ClassId) (x : Int32) : Rd l D (zT g) yX5_isShare wsX5_isShare (rmOf 1 22) [.int x] ([]) (.int (bI (v_X5_isShare x))) := by
  refine Rd.of (cc := cX5_isShare) (maxL := 1) (ret := (some .boolean)) (by decide) rfl (Nat.le_of_ble_eq_true rfl) ?_
  intro p e s m below meth c ls hx hb hr hml hown hts hlocks hP hK hl
  have hown : s.vm.findClass RX5 = some m.cls := hown
  obtain ⟨q, hq⟩ : ∃ q : Bool, q = v_X5_isShare x := ⟨_, rfl⟩
  rw [← hq]
  unfold v_X5_isShare at hq
  have hl : lv_has ls 1 [(0, .int x)] := hl
  refine lv_iload_n hx hb dX5_isShare_0 rfl (lv_at hl 0 rfl) ?_
  refine lv_iconst (v := 0) hx hb dX5_isShare_1 (by decide) ?_
  refine lv_bipush (v := 100) hx hb dX5_isShare_2 (by decide) ?_
  refine zcSO (n := 3) (c_X5_within l D g x 0 100) hx hb hml hown hts gX5_isShare_X5_within rfl ⟨by decide, by decide, by decide⟩ ⟨Nat.le_of_ble_eq_true rfl, Nat.le_of_ble_eq_true rfl⟩ ⟨rfl, rfl⟩ hK hP hl.1 rfl rfl (Nat.le_of_ble_eq_true rfl) ⟨Nat.zero_le _, Nat.zero_le _⟩ dX5_isShare_4 ?_
  exact zret_z (q' := (v_X5_within x 0 100)) hx hb hr hlocks dX5_isShare_7 hq
def v_X5_isGroup (x : Int32) : Bool := v_X5_within x 0 2
set_option maxHeartbeats 400000 in
set_option maxRecDepth 100000 in
theorem c_X5_isGroup (l : Launch) (D : va_G) (g : Nat → ClassId) (x : Int32) : Rd l D (zT g) yX5_isGroup wsX5_isGroup (rmOf 1 22) [.int x] ([]) (.int (bI (v_X5_isGroup x))) := by
  refine Rd.of (cc := cX5_isGroup) (maxL := 1) (ret := (some .boolean)) (by decide) rfl (Nat.le_of_ble_eq_true rfl) ?_
  intro p e s m below meth c ls hx hb hr hml hown hts hlocks hP hK hl
  have hown : s.vm.findClass RX5 = some m.cls := hown
  obtain ⟨q, hq⟩ : ∃ q : Bool, q = v_X5_isGroup x := ⟨_, rfl⟩
  rw [← hq]
  unfold v_X5_isGroup at hq
  have hl : lv_has ls 1 [(0, .int x)] := hl
  refine lv_iload_n hx hb dX5_isGroup_0 rfl (lv_at hl 0 rfl) ?_
  refine lv_iconst (v := 0) hx hb dX5_isGroup_1 (by decide) ?_
  refine lv_iconst (v := 2) hx hb dX5_isGroup_2 (by decide) ?_
  refine zcSO (n := 3) (c_X5_within l D g x 0 2) hx hb hml hown hts gX5_isGroup_X5_within rfl ⟨by decide, by decide, by decide⟩ ⟨Nat.le_of_ble_eq_true rfl, Nat.le_of_ble_eq_true rfl⟩ ⟨rfl, rfl⟩ hK hP hl.1 rfl rfl (Nat.le_of_ble_eq_true rfl) ⟨Nat.zero_le _, Nat.zero_le _⟩ dX5_isGroup_3 ?_
  exact zret_z (q' := (v_X5_within x 0 2)) hx hb hr hlocks dX5_isGroup_6 hq
def v_X5_ones_4 (x : Int32) : Nat → Int32 → Nat → Int32
  | 0, _, _ => (0)
  | n + 1, many, i => (if 8 ≤ i then many else v_X5_ones_4 x n (many + ((x >>> ((nI i) &&& 31)) &&& 1)) (i + 1))
def v_X5_ones (x : Int32) : Int32 := v_X5_ones_4 x 9 0 0
set_option maxHeartbeats 400000 in
set_option maxRecDepth 100000 in
theorem c_X5_ones (l : Launch) (D : va_G) (g : Nat → ClassId) (x : Int32) : Rd l D (zT g) yX5_ones wsX5_ones (rmOf 0 0) [.int x] ([]) (.int (v_X5_ones x)) := by
  refine Rd.of (cc := cX5_ones) (maxL := 3) (ret := (some .int)) (by decide) rfl (Nat.le_of_ble_eq_true rfl) ?_
  intro p e s m below meth c ls hx hb hr hml hown hts hlocks hP hK hl
  have hown : s.vm.findClass RX5 = some m.cls := hown
  obtain ⟨q, hq⟩ : ∃ q : Int32, q = v_X5_ones x := ⟨_, rfl⟩
  rw [← hq]
  unfold v_X5_ones at hq
  have hl : lv_has ls 3 [(0, .int x)] := hl
  refine lv_iconst (v := 0) hx hb dX5_ones_0 (by decide) ?_
  refine lv_istore_n (lv' := [(1, .int 0), (0, .int x)]) hx hb dX5_ones_1 rfl hl (by decide) rfl (fun ls hl => ?_)
  refine lv_iconst (v := 0) hx hb dX5_ones_2 (by decide) ?_
  refine lv_istore_n (lv' := [(2, .int 0), (1, .int 0), (0, .int x)]) hx hb dX5_ones_3 rfl hl (by decide) rfl (fun ls hl => ?_)
  have L4 : ∀ (n : Nat) (many : Int32) (i : Nat), (i ≤ 8) → 8 - i < n → ∀ (ls : Array Slot), lv_has ls 3 [(0, .int x), (1, .int many), (2, .int (nI i))] → q = v_X5_ones_4 x n many i → W p l e (rmOf 0 0) s m [.int x].toArray below meth c s.heap [] 0 0 (MQ below (zQ (.int q)) [.int x].toArray s 0 0 (fun _ => False)) (F0 m 4 ls []) := by
    intro n
    induction n with
    | zero => intro many i v4_0 hn; exact absurd hn (Nat.not_lt_zero _)
    | succ n ih4 =>
      intro many i v4_0 hn4 ls hl hq
      rw [v_X5_ones_4] at hq
      refine lv_iload_n hx hb dX5_ones_4 rfl (lv_at hl 2 rfl) ?_
      refine lv_bipush (v := 8) hx hb dX5_ones_5 (by decide) ?_
      refine lv_icmp_ge (tgt := 24) hx hb dX5_ones_7 (by decide) (fun c_1 => ?_) (fun c_1 => ?_)
      · have c_1 : 8 ≤ i := (nI_leI (a := 8) (b := i) (by omega) (by omega)).mp c_1
        have hq := hq.trans (if_pos c_1)
        refine lv_iload_n hx hb dX5_ones_24 rfl (lv_at hl 1 rfl) ?_
        exact zret_i hx hb hr hlocks dX5_ones_25 hq
      · have c_1 : ¬ (8 ≤ i) := fun h9 => c_1 ((nI_leI (a := 8) (b := i) (by omega) (by omega)).mpr h9)
        have hq := hq.trans (if_neg c_1)
        refine lv_iload_n hx hb dX5_ones_10 rfl (lv_at hl 1 rfl) ?_
        refine lv_iload_n hx hb dX5_ones_11 rfl (lv_at hl 0 rfl) ?_
        refine lv_iload_n hx hb dX5_ones_12 rfl (lv_at hl 2 rfl) ?_
        refine lv_ishr hx hb dX5_ones_13 ?_
        refine lv_iconst (v := 1) hx hb dX5_ones_14 (by decide) ?_
        refine lv_iand hx hb dX5_ones_15 ?_
        refine lv_iadd hx hb dX5_ones_16 ?_
        refine lv_istore_n (lv' := [(1, .int (many + ((x >>> ((nI i) &&& 31)) &&& 1))), (0, .int x), (2, .int (nI i))]) hx hb dX5_ones_17 rfl hl (by decide) rfl (fun ls hl => ?_)
        refine lv_iinc (v := (nI (i + 1))) (lv' := [(2, .int (nI (i + 1))), (1, .int (many + ((x >>> ((nI i) &&& 31)) &&& 1))), (0, .int x)]) hx hb dX5_ones_18 hl (k := 2) rfl (nI_add _ 1) (by decide) rfl (fun ls hl => ?_)
        refine lv_goto (tgt := 4) hx hb dX5_ones_21 (by decide) ?_
        exact ih4 (many + ((x >>> ((nI i) &&& 31)) &&& 1)) (i + 1) (by omega) (by omega) ls (lv_sub hl [2, 1, 0] rfl) hq
  exact L4 9 0 0 (by omega) (by omega) ls (lv_sub hl [2, 1, 0] rfl) hq
def v_X5_bucketBy (x : Int32) (sal : Int32) : Nat := Int32.toNatClampNeg (((((((((x * (-1640531535)) + (sal * 40503)) ^^^ ((Int32.toUInt32 ((x * (-1640531535)) + (sal * 40503)) >>> (Int32.toUInt32 15 &&& Int32.toUInt32 31)).toInt32)) * (-2048144777)) ^^^ ((Int32.toUInt32 ((((x * (-1640531535)) + (sal * 40503)) ^^^ ((Int32.toUInt32 ((x * (-1640531535)) + (sal * 40503)) >>> (Int32.toUInt32 15 &&& Int32.toUInt32 31)).toInt32)) * (-2048144777)) >>> (Int32.toUInt32 13 &&& Int32.toUInt32 31)).toInt32)) * (-1028477379)) ^^^ ((Int32.toUInt32 ((((((x * (-1640531535)) + (sal * 40503)) ^^^ ((Int32.toUInt32 ((x * (-1640531535)) + (sal * 40503)) >>> (Int32.toUInt32 15 &&& Int32.toUInt32 31)).toInt32)) * (-2048144777)) ^^^ ((Int32.toUInt32 ((((x * (-1640531535)) + (sal * 40503)) ^^^ ((Int32.toUInt32 ((x * (-1640531535)) + (sal * 40503)) >>> (Int32.toUInt32 15 &&& Int32.toUInt32 31)).toInt32)) * (-2048144777)) >>> (Int32.toUInt32 13 &&& Int32.toUInt32 31)).toInt32)) * (-1028477379)) >>> (Int32.toUInt32 16 &&& Int32.toUInt32 31)).toInt32)) &&& 2147483647) - ((((((((x * (-1640531535)) + (sal * 40503)) ^^^ ((Int32.toUInt32 ((x * (-1640531535)) + (sal * 40503)) >>> (Int32.toUInt32 15 &&& Int32.toUInt32 31)).toInt32)) * (-2048144777)) ^^^ ((Int32.toUInt32 ((((x * (-1640531535)) + (sal * 40503)) ^^^ ((Int32.toUInt32 ((x * (-1640531535)) + (sal * 40503)) >>> (Int32.toUInt32 15 &&& Int32.toUInt32 31)).toInt32)) * (-2048144777)) >>> (Int32.toUInt32 13 &&& Int32.toUInt32 31)).toInt32)) * (-1028477379)) ^^^ ((Int32.toUInt32 ((((((x * (-1640531535)) + (sal * 40503)) ^^^ ((Int32.toUInt32 ((x * (-1640531535)) + (sal * 40503)) >>> (Int32.toUInt32 15 &&& Int32.toUInt32 31)).toInt32)) * (-2048144777)) ^^^ ((Int32.toUInt32 ((((x * (-1640531535)) + (sal * 40503)) ^^^ ((Int32.toUInt32 ((x * (-1640531535)) + (sal * 40503)) >>> (Int32.toUInt32 15 &&& Int32.toUInt32 31)).toInt32)) * (-2048144777)) >>> (Int32.toUInt32 13 &&& Int32.toUInt32 31)).toInt32)) * (-1028477379)) >>> (Int32.toUInt32 16 &&& Int32.toUInt32 31)).toInt32)) &&& 2147483647) / 100 * 100)
set_option maxHeartbeats 400000 in
set_option maxRecDepth 100000 in
theorem c_X5_bucketBy (l : Launch) (D : va_G) (g : Nat → ClassId) (x : Int32) (sal : Int32) : Rd l D (zT g) yX5_bucketBy wsX5_bucketBy (rmOf 0 0) [.int x, .int sal] ([]) (.int (nI (v_X5_bucketBy x sal))) := by
  refine Rd.of (cc := cX5_bucketBy) (maxL := 3) (ret := (some .int)) (by decide) rfl (Nat.le_of_ble_eq_true rfl) ?_
  intro p e s m below meth c ls hx hb hr hml hown hts hlocks hP hK hl
  have hown : s.vm.findClass RX5 = some m.cls := hown
  obtain ⟨q, hq⟩ : ∃ q : Nat, q = v_X5_bucketBy x sal := ⟨_, rfl⟩
  rw [← hq]
  unfold v_X5_bucketBy at hq
  have hl : lv_has ls 3 [(0, .int x), (1, .int sal)] := hl
  refine lv_iload_n hx hb dX5_bucketBy_0 rfl (lv_at hl 0 rfl) ?_
  refine lv_ldc (v := (-1640531535)) hx hb hown (hts (.constant RX5 43 (-1640531535)) (List.mem_of_getElem? (i := 1) rfl)) dX5_bucketBy_1 ?_
  refine lv_imul hx hb dX5_bucketBy_3 ?_
  refine lv_iload_n hx hb dX5_bucketBy_4 rfl (lv_at hl 1 rfl) ?_
  refine lv_ldc (v := 40503) hx hb hown (hts (.constant RX5 44 (40503)) (List.mem_of_getElem? (i := 2) rfl)) dX5_bucketBy_5 ?_
  refine lv_imul hx hb dX5_bucketBy_7 ?_
  refine lv_iadd hx hb dX5_bucketBy_8 ?_
  refine lv_istore_n (lv' := [(2, .int ((x * (-1640531535)) + (sal * 40503))), (0, .int x), (1, .int sal)]) hx hb dX5_bucketBy_9 rfl hl (by decide) rfl (fun ls hl => ?_)
  refine lv_iload_n hx hb dX5_bucketBy_10 rfl (lv_at hl 0 rfl) ?_
  refine lv_iload_n hx hb dX5_bucketBy_11 rfl (lv_at hl 0 rfl) ?_
  refine lv_bipush (v := 15) hx hb dX5_bucketBy_12 (by decide) ?_
  refine lv_iushr hx hb dX5_bucketBy_14 rfl ?_
  refine lv_ixor hx hb dX5_bucketBy_15 ?_
  refine lv_istore_n (lv' := [(2, .int (((x * (-1640531535)) + (sal * 40503)) ^^^ ((Int32.toUInt32 ((x * (-1640531535)) + (sal * 40503)) >>> (Int32.toUInt32 15 &&& Int32.toUInt32 31)).toInt32))), (0, .int x), (1, .int sal)]) hx hb dX5_bucketBy_16 rfl hl (by decide) rfl (fun ls hl => ?_)
  refine lv_iload_n hx hb dX5_bucketBy_17 rfl (lv_at hl 0 rfl) ?_
  refine lv_ldc (v := (-2048144777)) hx hb hown (hts (.constant RX5 45 (-2048144777)) (List.mem_of_getElem? (i := 3) rfl)) dX5_bucketBy_18 ?_
  refine lv_imul hx hb dX5_bucketBy_20 ?_
  refine lv_istore_n (lv' := [(2, .int ((((x * (-1640531535)) + (sal * 40503)) ^^^ ((Int32.toUInt32 ((x * (-1640531535)) + (sal * 40503)) >>> (Int32.toUInt32 15 &&& Int32.toUInt32 31)).toInt32)) * (-2048144777))), (0, .int x), (1, .int sal)]) hx hb dX5_bucketBy_21 rfl hl (by decide) rfl (fun ls hl => ?_)
  refine lv_iload_n hx hb dX5_bucketBy_22 rfl (lv_at hl 0 rfl) ?_
  refine lv_iload_n hx hb dX5_bucketBy_23 rfl (lv_at hl 0 rfl) ?_
  refine lv_bipush (v := 13) hx hb dX5_bucketBy_24 (by decide) ?_
  refine lv_iushr hx hb dX5_bucketBy_26 rfl ?_
  refine lv_ixor hx hb dX5_bucketBy_27 ?_
  refine lv_istore_n (lv' := [(2, .int (((((x * (-1640531535)) + (sal * 40503)) ^^^ ((Int32.toUInt32 ((x * (-1640531535)) + (sal * 40503)) >>> (Int32.toUInt32 15 &&& Int32.toUInt32 31)).toInt32)) * (-2048144777)) ^^^ ((Int32.toUInt32 ((((x * (-1640531535)) + (sal * 40503)) ^^^ ((Int32.toUInt32 ((x * (-1640531535)) + (sal * 40503)) >>> (Int32.toUInt32 15 &&& Int32.toUInt32 31)).toInt32)) * (-2048144777)) >>> (Int32.toUInt32 13 &&& Int32.toUInt32 31)).toInt32))), (0, .int x), (1, .int sal)]) hx hb dX5_bucketBy_28 rfl hl (by decide) rfl (fun ls hl => ?_)
  refine lv_iload_n hx hb dX5_bucketBy_29 rfl (lv_at hl 0 rfl) ?_
  refine lv_ldc (v := (-1028477379)) hx hb hown (hts (.constant RX5 46 (-1028477379)) (List.mem_of_getElem? (i := 4) rfl)) dX5_bucketBy_30 ?_
  refine lv_imul hx hb dX5_bucketBy_32 ?_
  refine lv_istore_n (lv' := [(2, .int ((((((x * (-1640531535)) + (sal * 40503)) ^^^ ((Int32.toUInt32 ((x * (-1640531535)) + (sal * 40503)) >>> (Int32.toUInt32 15 &&& Int32.toUInt32 31)).toInt32)) * (-2048144777)) ^^^ ((Int32.toUInt32 ((((x * (-1640531535)) + (sal * 40503)) ^^^ ((Int32.toUInt32 ((x * (-1640531535)) + (sal * 40503)) >>> (Int32.toUInt32 15 &&& Int32.toUInt32 31)).toInt32)) * (-2048144777)) >>> (Int32.toUInt32 13 &&& Int32.toUInt32 31)).toInt32)) * (-1028477379))), (0, .int x), (1, .int sal)]) hx hb dX5_bucketBy_33 rfl hl (by decide) rfl (fun ls hl => ?_)
  refine lv_iload_n hx hb dX5_bucketBy_34 rfl (lv_at hl 0 rfl) ?_
  refine lv_iload_n hx hb dX5_bucketBy_35 rfl (lv_at hl 0 rfl) ?_
  refine lv_bipush (v := 16) hx hb dX5_bucketBy_36 (by decide) ?_
  refine lv_iushr hx hb dX5_bucketBy_38 rfl ?_
  refine lv_ixor hx hb dX5_bucketBy_39 ?_
  refine lv_istore_n (lv' := [(2, .int (((((((x * (-1640531535)) + (sal * 40503)) ^^^ ((Int32.toUInt32 ((x * (-1640531535)) + (sal * 40503)) >>> (Int32.toUInt32 15 &&& Int32.toUInt32 31)).toInt32)) * (-2048144777)) ^^^ ((Int32.toUInt32 ((((x * (-1640531535)) + (sal * 40503)) ^^^ ((Int32.toUInt32 ((x * (-1640531535)) + (sal * 40503)) >>> (Int32.toUInt32 15 &&& Int32.toUInt32 31)).toInt32)) * (-2048144777)) >>> (Int32.toUInt32 13 &&& Int32.toUInt32 31)).toInt32)) * (-1028477379)) ^^^ ((Int32.toUInt32 ((((((x * (-1640531535)) + (sal * 40503)) ^^^ ((Int32.toUInt32 ((x * (-1640531535)) + (sal * 40503)) >>> (Int32.toUInt32 15 &&& Int32.toUInt32 31)).toInt32)) * (-2048144777)) ^^^ ((Int32.toUInt32 ((((x * (-1640531535)) + (sal * 40503)) ^^^ ((Int32.toUInt32 ((x * (-1640531535)) + (sal * 40503)) >>> (Int32.toUInt32 15 &&& Int32.toUInt32 31)).toInt32)) * (-2048144777)) >>> (Int32.toUInt32 13 &&& Int32.toUInt32 31)).toInt32)) * (-1028477379)) >>> (Int32.toUInt32 16 &&& Int32.toUInt32 31)).toInt32))), (0, .int x), (1, .int sal)]) hx hb dX5_bucketBy_40 rfl hl (by decide) rfl (fun ls hl => ?_)
  refine lv_iload_n hx hb dX5_bucketBy_41 rfl (lv_at hl 0 rfl) ?_
  refine lv_ldc (v := 2147483647) hx hb hown (hts (.constant RX5 47 (2147483647)) (List.mem_of_getElem? (i := 5) rfl)) dX5_bucketBy_42 ?_
  refine lv_iand hx hb dX5_bucketBy_44 ?_
  refine lv_bipush (v := 100) hx hb dX5_bucketBy_45 (by decide) ?_
  refine lv_irem hx hb dX5_bucketBy_47 (by decide) ?_
  refine lv_is (znat (zbucket _)).1 ?_
  exact zret_i hx hb hr hlocks dX5_bucketBy_48 (congrArg nI hq)
def v_X5_thrown (M : Nat → Nat → Int32) : Int32 := (M 5 0)
set_option maxHeartbeats 400000 in
set_option maxRecDepth 100000 in
theorem c_X5_thrown (l : Launch) (D : va_G) (g : Nat → ClassId) (u : Nat → Nat) (M : Nat → Nat → Int32) (w : Int64) : Rd l D (zT g) yX5_thrown wsX5_thrown (rmOf 0 0) [.ref (u 0)] (zB_X5 (g 0) u M w) (.int (v_X5_thrown M)) := by
  refine Rd.of (cc := cX5_thrown) (maxL := 1) (ret := (some .int)) (by decide) rfl (Nat.le_of_ble_eq_true rfl) ?_
  intro p e s m below meth c ls hx hb hr hml hown hts hlocks hP hK hl
  have hown : s.vm.findClass RX5 = some m.cls := hown
  have hinX5 : ∀ w ∈ u_ws RX5 TX5 13, w ∈ wsX5_thrown := fun _ h9 => (List.mem_cons_of_mem _ (List.mem_append_right _ h9))
  obtain ⟨q, hq⟩ : ∃ q : Int32, q = v_X5_thrown M := ⟨_, rfl⟩
  rw [← hq]
  unfold v_X5_thrown at hq
  have hl : lv_has ls 1 [(0, .ref (u 0))] := hl
  refine lv_aload_n hx hb dX5_thrown_0 rfl (lv_at hl 0 rfl) ?_
  refine va_get (D := D) (ci := 5) (v := .int (M 5 0)) (C := RX5) (T := TX5) (N := 13) hx hb hts hinX5 hown hK.1 hP 0 rfl rfl 5 (by decide) (hts (.fieldLink RX5 28 "SaltSharesModel" "thrown" "I") (List.mem_of_getElem? (i := 1) rfl)) (fun _ h9 => h9) rfl dX5_thrown_1 ?_
  exact zret_i hx hb hr hlocks dX5_thrown_4 hq
def v_X5_of (M : Nat → Nat → Int32) (b : Nat) (k : Nat) : Int32 := (M 0 (5 + (6 * b) + k))
set_option maxHeartbeats 400000 in
set_option maxRecDepth 100000 in
theorem c_X5_of (l : Launch) (D : va_G) (g : Nat → ClassId) (u : Nat → Nat) (M : Nat → Nat → Int32) (w : Int64) (b : Nat) (k : Nat) (z0 : 5 + 6 * b + k < 954) : Rd l D (zT g) yX5_of wsX5_of (rmOf 0 0) [.ref (u 0), .int (nI b), .int (nI k)] (zB_X5 (g 0) u M w) (.int (v_X5_of M b k)) := by
  refine Rd.of (cc := cX5_of) (maxL := 3) (ret := (some .int)) (by decide) rfl (Nat.le_of_ble_eq_true rfl) ?_
  intro p e s m below meth c ls hx hb hr hml hown hts hlocks hP hK hl
  have hown : s.vm.findClass RX5 = some m.cls := hown
  have hinX5 : ∀ w ∈ u_ws RX5 TX5 13, w ∈ wsX5_of := fun _ h9 => (List.mem_cons_of_mem _ (List.mem_append_right _ h9))
  obtain ⟨q, hq⟩ : ∃ q : Int32, q = v_X5_of M b k := ⟨_, rfl⟩
  rw [← hq]
  unfold v_X5_of at hq
  have hl : lv_has ls 3 [(0, .ref (u 0)), (1, .int (nI b)), (2, .int (nI k))] := hl
  refine lv_aload_n hx hb dX5_of_0 rfl (lv_at hl 0 rfl) ?_
  refine va_get (D := D) (ci := 5) (v := .ref (u 1)) (C := RX5) (T := TX5) (N := 13) hx hb hts hinX5 hown hK.1 hP 0 rfl rfl 0 (by decide) (hts (.fieldLink RX5 7 "SaltSharesModel" "z" "[I") (List.mem_of_getElem? (i := 1) rfl)) (fun _ h9 => h9) rfl dX5_of_1 ?_
  refine lv_iconst (v := 5) hx hb dX5_of_4 (by decide) ?_
  refine lv_bipush (v := 6) hx hb dX5_of_5 (by decide) ?_
  refine lv_iload_n hx hb dX5_of_7 rfl (lv_at hl 1 rfl) ?_
  refine lv_imul hx hb dX5_of_8 ?_
  refine lv_is (show (6 : Int32) * (nI b) = (nI (6 * b)) from pk_mul 6 b) ?_
  refine lv_iadd hx hb dX5_of_9 ?_
  refine lv_is (show (5 : Int32) + (nI (6 * b)) = (nI (5 + (6 * b))) from nI_add 5 (6 * b)) ?_
  refine lv_iload_n hx hb dX5_of_10 rfl (lv_at hl 2 rfl) ?_
  refine lv_iadd hx hb dX5_of_11 ?_
  refine lv_is (show (nI (5 + (6 * b))) + (nI k) = (nI (5 + (6 * b) + k)) from nI_add (5 + (6 * b)) k) ?_
  refine z_iald (i := 5 + (6 * b) + k) hx hb hK hP 1 0 rfl rfl (by omega) (by decide) dX5_of_12 ?_
  exact zret_i hx hb hr hlocks dX5_of_13 hq
def v_X5_isBread (M : Nat → Nat → Int32) (x : Int32) : Bool := v_X5_within x 0 ((M 0 1) - 1)
set_option maxHeartbeats 400000 in
set_option maxRecDepth 100000 in
theorem c_X5_isBread (l : Launch) (D : va_G) (g : Nat → ClassId) (u : Nat → Nat) (M : Nat → Nat → Int32) (w : Int64) (x : Int32) : Rd l D (zT g) yX5_isBread wsX5_isBread (rmOf 1 22) [.ref (u 0), .int x] (zB_X5 (g 0) u M w) (.int (bI (v_X5_isBread M x))) := by
  refine Rd.of (cc := cX5_isBread) (maxL := 2) (ret := (some .boolean)) (by decide) rfl (Nat.le_of_ble_eq_true rfl) ?_
  intro p e s m below meth c ls hx hb hr hml hown hts hlocks hP hK hl
  have hown : s.vm.findClass RX5 = some m.cls := hown
  have hinX5 : ∀ w ∈ u_ws RX5 TX5 13, w ∈ wsX5_isBread := fun _ h9 => (List.mem_cons_of_mem _ (List.mem_append_right _ h9))
  obtain ⟨q, hq⟩ : ∃ q : Bool, q = v_X5_isBread M x := ⟨_, rfl⟩
  rw [← hq]
  unfold v_X5_isBread at hq
  have hl : lv_has ls 2 [(0, .ref (u 0)), (1, .int x)] := hl
  refine lv_iload_n hx hb dX5_isBread_0 rfl (lv_at hl 1 rfl) ?_
  refine lv_iconst (v := 0) hx hb dX5_isBread_1 (by decide) ?_
  refine lv_aload_n hx hb dX5_isBread_2 rfl (lv_at hl 0 rfl) ?_
  refine va_get (D := D) (ci := 5) (v := .ref (u 1)) (C := RX5) (T := TX5) (N := 13) hx hb hts hinX5 hown hK.1 hP 0 rfl rfl 0 (by decide) (hts (.fieldLink RX5 7 "SaltSharesModel" "z" "[I") (List.mem_of_getElem? (i := 1) rfl)) (fun _ h9 => h9) rfl dX5_isBread_3 ?_
  refine lv_iconst (v := 1) hx hb dX5_isBread_6 (by decide) ?_
  refine z_iald (i := 1) hx hb hK hP 1 0 rfl rfl (by omega) (by decide) dX5_isBread_7 ?_
  refine lv_iconst (v := 1) hx hb dX5_isBread_8 (by decide) ?_
  refine lv_isub hx hb dX5_isBread_9 ?_
  refine zcSO (n := 3) (c_X5_within l D g x 0 ((M 0 1) - 1)) hx hb hml hown hts gX5_isBread_X5_within rfl ⟨by decide, by decide, by decide⟩ ⟨Nat.le_of_ble_eq_true rfl, Nat.le_of_ble_eq_true rfl⟩ ⟨rfl, rfl⟩ hK (hP.sub [] rfl) hl.1 rfl rfl (Nat.le_of_ble_eq_true rfl) ⟨Nat.zero_le _, Nat.zero_le _⟩ dX5_isBread_10 ?_
  exact zret_z (q' := (v_X5_within x 0 ((M 0 1) - 1))) hx hb hr hlocks dX5_isBread_13 hq
def v_X5_isOpen (M : Nat → Nat → Int32) (b : Nat) : Bool := (if (v_X5_of M b 0) = 1 then true else false)
set_option maxHeartbeats 400000 in
set_option maxRecDepth 100000 in
theorem c_X5_isOpen (l : Launch) (D : va_G) (g : Nat → ClassId) (u : Nat → Nat) (M : Nat → Nat → Int32) (w : Int64) (b : Nat) (z0 : b < 8) : Rd l D (zT g) yX5_isOpen wsX5_isOpen (rmOf 1 22) [.ref (u 0), .int (nI b)] (zB_X5 (g 0) u M w) (.int (bI (v_X5_isOpen M b))) := by
  refine Rd.of (cc := cX5_isOpen) (maxL := 2) (ret := (some .boolean)) (by decide) rfl (Nat.le_of_ble_eq_true rfl) ?_
  intro p e s m below meth c ls hx hb hr hml hown hts hlocks hP hK hl
  have hown : s.vm.findClass RX5 = some m.cls := hown
  obtain ⟨q, hq⟩ : ∃ q : Bool, q = v_X5_isOpen M b := ⟨_, rfl⟩
  rw [← hq]
  unfold v_X5_isOpen at hq
  have hl : lv_has ls 2 [(0, .ref (u 0)), (1, .int (nI b))] := hl
  refine lv_aload_n hx hb dX5_isOpen_0 rfl (lv_at hl 0 rfl) ?_
  refine lv_iload_n hx hb dX5_isOpen_1 rfl (lv_at hl 1 rfl) ?_
  refine lv_iconst (v := 0) hx hb dX5_isOpen_2 (by decide) ?_
  refine zcV (ci := 5) (n := 2) (c_X5_of l D g u M w b 0 (by omega)) hx hb hml hown hts gX5_isOpen_X5_of rfl ⟨rfl, by decide, by decide, by decide⟩ ⟨Nat.le_of_ble_eq_true rfl, Nat.le_of_ble_eq_true rfl⟩ ⟨rfl, rfl⟩ hK hP rfl rfl rfl hl.1 rfl rfl (Nat.le_of_ble_eq_true rfl) ⟨Nat.zero_le _, Nat.zero_le _⟩ dX5_isOpen_3 ?_
  refine lv_iconst (v := 1) hx hb dX5_isOpen_6 (by decide) ?_
  refine lv_icmp_ne (tgt := 14) hx hb dX5_isOpen_7 (by decide) (fun c_2 => ?_) (fun c_2 => ?_)
  · have c_2 : ¬ ((v_X5_of M b 0) = 1) := c_2
    have hq := hq.trans (if_neg c_2)
    refine lv_iconst (v := 0) hx hb dX5_isOpen_14 (by decide) ?_
    exact zret_z (q' := false) hx hb hr hlocks dX5_isOpen_15 hq
  · have c_2 : (v_X5_of M b 0) = 1 := c_2
    have hq := hq.trans (if_pos c_2)
    refine lv_iconst (v := 1) hx hb dX5_isOpen_10 (by decide) ?_
    refine lv_goto (tgt := 15) hx hb dX5_isOpen_11 (by decide) ?_
    exact zret_z (q' := true) hx hb hr hlocks dX5_isOpen_15 hq
def v_X5_isOfGroup (M : Nat → Nat → Int32) (b : Nat) : Bool := (if (v_X5_of M b 1) = (-1) then false else true)
set_option maxHeartbeats 400000 in
set_option maxRecDepth 100000 in
theorem c_X5_isOfGroup (l : Launch) (D : va_G) (g : Nat → ClassId) (u : Nat → Nat) (M : Nat → Nat → Int32) (w : Int64) (b : Nat) (z0 : b < 8) : Rd l D (zT g) yX5_isOfGroup wsX5_isOfGroup (rmOf 1 22) [.ref (u 0), .int (nI b)] (zB_X5 (g 0) u M w) (.int (bI (v_X5_isOfGroup M b))) := by
  refine Rd.of (cc := cX5_isOfGroup) (maxL := 2) (ret := (some .boolean)) (by decide) rfl (Nat.le_of_ble_eq_true rfl) ?_
  intro p e s m below meth c ls hx hb hr hml hown hts hlocks hP hK hl
  have hown : s.vm.findClass RX5 = some m.cls := hown
  obtain ⟨q, hq⟩ : ∃ q : Bool, q = v_X5_isOfGroup M b := ⟨_, rfl⟩
  rw [← hq]
  unfold v_X5_isOfGroup at hq
  have hl : lv_has ls 2 [(0, .ref (u 0)), (1, .int (nI b))] := hl
  refine lv_aload_n hx hb dX5_isOfGroup_0 rfl (lv_at hl 0 rfl) ?_
  refine lv_iload_n hx hb dX5_isOfGroup_1 rfl (lv_at hl 1 rfl) ?_
  refine lv_iconst (v := 1) hx hb dX5_isOfGroup_2 (by decide) ?_
  refine zcV (ci := 5) (n := 2) (c_X5_of l D g u M w b 1 (by omega)) hx hb hml hown hts gX5_isOfGroup_X5_of rfl ⟨rfl, by decide, by decide, by decide⟩ ⟨Nat.le_of_ble_eq_true rfl, Nat.le_of_ble_eq_true rfl⟩ ⟨rfl, rfl⟩ hK hP rfl rfl rfl hl.1 rfl rfl (Nat.le_of_ble_eq_true rfl) ⟨Nat.zero_le _, Nat.zero_le _⟩ dX5_isOfGroup_3 ?_
  refine lv_iconst (v := (-1)) hx hb dX5_isOfGroup_6 (by decide) ?_
  refine lv_icmp_eq (tgt := 14) hx hb dX5_isOfGroup_7 (by decide) (fun c_2 => ?_) (fun c_2 => ?_)
  · have c_2 : (v_X5_of M b 1) = (-1) := c_2
    have hq := hq.trans (if_pos c_2)
    refine lv_iconst (v := 0) hx hb dX5_isOfGroup_14 (by decide) ?_
    exact zret_z (q' := false) hx hb hr hlocks dX5_isOfGroup_15 hq
  · have c_2 : ¬ ((v_X5_of M b 1) = (-1)) := c_2
    have hq := hq.trans (if_neg c_2)
    refine lv_iconst (v := 1) hx hb dX5_isOfGroup_10 (by decide) ?_
    refine lv_goto (tgt := 15) hx hb dX5_isOfGroup_11 (by decide) ?_
    exact zret_z (q' := true) hx hb hr hlocks dX5_isOfGroup_15 hq
theorem v_X5_bucketBy_lt (x s : Int32) : v_X5_bucketBy x s < 100 := (znat (zbucket _)).2
/-- the breads' groups, in the reference's row -/
def zG (M : Nat → Nat → Int32) : Prop := ∀ b : Nat, b < 8 → M 0 (5 + 6 * b + 1) = -1 ∨ vp_in (M 0 (5 + 6 * b + 1)) 3
theorem zmg {M : Nat → Nat → Int32} {b : Nat} (c : v_X5_isOfGroup M b = true) (hb : b < 8) (hG : zG M) : vp_in (v_X5_of M b 1) 3 := by
  rcases hG b hb with h | h
  · have h2 : v_X5_of M b 1 = -1 := h
    unfold v_X5_isOfGroup at c
    rw [if_pos h2] at c
    cases c
  · exact h
theorem zlt8 {x : Int32} {i : Nat} (c : ¬ x ≤ nI i) (h : vp_in x 9) (hi : i ≤ 8) : i < 8 := by
  obtain ⟨j, hj, rfl⟩ := vp_in_of h (by decide)
  have h2 : ¬ j ≤ i := fun q => c (nI_le q (by omega))
  omega
def v_X5_saltOf (M : Nat → Nat → Int32) (b : Nat) : Int32 := (if (v_X5_isOfGroup M b) = true then (M 0 (2 + (Int32.toNatClampNeg (v_X5_of M b 1)))) else (v_X5_of M b 2))
set_option maxHeartbeats 400000 in
set_option maxRecDepth 100000 in
theorem c_X5_saltOf (l : Launch) (D : va_G) (g : Nat → ClassId) (u : Nat → Nat) (M : Nat → Nat → Int32) (w : Int64) (b : Nat) (z0 : b < 8) (z1 : zG M) : Rd l D (zT g) yX5_saltOf wsX5_saltOf (rmOf 2 43) [.ref (u 0), .int (nI b)] (zB_X5 (g 0) u M w) (.int (v_X5_saltOf M b)) := by
  refine Rd.of (cc := cX5_saltOf) (maxL := 2) (ret := (some .int)) (by decide) rfl (Nat.le_of_ble_eq_true rfl) ?_
  intro p e s m below meth c ls hx hb hr hml hown hts hlocks hP hK hl
  have hown : s.vm.findClass RX5 = some m.cls := hown
  have hinX5 : ∀ w ∈ u_ws RX5 TX5 13, w ∈ wsX5_saltOf := fun _ h9 => (List.mem_cons_of_mem _ (List.mem_append_right _ h9))
  obtain ⟨q, hq⟩ : ∃ q : Int32, q = v_X5_saltOf M b := ⟨_, rfl⟩
  rw [← hq]
  unfold v_X5_saltOf at hq
  have hl : lv_has ls 2 [(0, .ref (u 0)), (1, .int (nI b))] := hl
  refine lv_aload_n hx hb dX5_saltOf_0 rfl (lv_at hl 0 rfl) ?_
  refine lv_iload_n hx hb dX5_saltOf_1 rfl (lv_at hl 1 rfl) ?_
  refine zcV (ci := 5) (n := 1) (c_X5_isOfGroup l D g u M w b (by omega)) hx hb hml hown hts gX5_saltOf_X5_isOfGroup rfl ⟨rfl, by decide, by decide, by decide⟩ ⟨Nat.le_of_ble_eq_true rfl, Nat.le_of_ble_eq_true rfl⟩ ⟨rfl, rfl⟩ hK hP rfl rfl rfl hl.1 rfl rfl (Nat.le_of_ble_eq_true rfl) ⟨Nat.zero_le _, Nat.zero_le _⟩ dX5_saltOf_2 ?_
  refine zif_eq (tgt := 24) hx hb dX5_saltOf_5 (by decide) (fun c_2 => ?_) (fun c_2 => ?_)
  · have hq := hq.trans (zif_f c_2)
    refine lv_aload_n hx hb dX5_saltOf_24 rfl (lv_at hl 0 rfl) ?_
    refine lv_iload_n hx hb dX5_saltOf_25 rfl (lv_at hl 1 rfl) ?_
    refine lv_iconst (v := 2) hx hb dX5_saltOf_26 (by decide) ?_
    refine zcV (ci := 5) (n := 2) (c_X5_of l D g u M w b 2 (by omega)) hx hb hml hown hts gX5_saltOf_X5_of rfl ⟨rfl, by decide, by decide, by decide⟩ ⟨Nat.le_of_ble_eq_true rfl, Nat.le_of_ble_eq_true rfl⟩ ⟨rfl, rfl⟩ hK hP rfl rfl rfl hl.1 rfl rfl (Nat.le_of_ble_eq_true rfl) ⟨Nat.zero_le _, Nat.zero_le _⟩ dX5_saltOf_27 ?_
    exact zret_i hx hb hr hlocks dX5_saltOf_30 hq
  · have hq := hq.trans (zif_t c_2)
    refine lv_aload_n hx hb dX5_saltOf_8 rfl (lv_at hl 0 rfl) ?_
    refine va_get (D := D) (ci := 5) (v := .ref (u 1)) (C := RX5) (T := TX5) (N := 13) hx hb hts hinX5 hown hK.1 hP 0 rfl rfl 0 (by decide) (hts (.fieldLink RX5 7 "SaltSharesModel" "z" "[I") (List.mem_of_getElem? (i := 1) rfl)) (fun _ h9 => h9) rfl dX5_saltOf_9 ?_
    refine lv_iconst (v := 2) hx hb dX5_saltOf_12 (by decide) ?_
    refine lv_aload_n hx hb dX5_saltOf_13 rfl (lv_at hl 0 rfl) ?_
    refine lv_iload_n hx hb dX5_saltOf_14 rfl (lv_at hl 1 rfl) ?_
    refine lv_iconst (v := 1) hx hb dX5_saltOf_15 (by decide) ?_
    refine zcV (ci := 5) (n := 2) (c_X5_of l D g u M w b 1 (by omega)) hx hb hml hown hts gX5_saltOf_X5_of rfl ⟨rfl, by decide, by decide, by decide⟩ ⟨Nat.le_of_ble_eq_true rfl, Nat.le_of_ble_eq_true rfl⟩ ⟨rfl, rfl⟩ hK hP rfl rfl rfl hl.1 rfl rfl (Nat.le_of_ble_eq_true rfl) ⟨Nat.zero_le _, Nat.zero_le _⟩ dX5_saltOf_16 ?_
    have w_5 := znat (zmg (by assumption) z0 z1)
    have w_5b := w_5.2
    refine lv_is w_5.1 ?_
    refine lv_iadd hx hb dX5_saltOf_19 ?_
    refine lv_is (show (2 : Int32) + (nI (Int32.toNatClampNeg (v_X5_of M b 1))) = (nI (2 + (Int32.toNatClampNeg (v_X5_of M b 1)))) from nI_add 2 (Int32.toNatClampNeg (v_X5_of M b 1))) ?_
    refine z_iald (i := 2 + (Int32.toNatClampNeg (v_X5_of M b 1))) hx hb hK hP 1 0 rfl rfl (by omega) (by decide) dX5_saltOf_20 ?_
    refine lv_goto (tgt := 30) hx hb dX5_saltOf_21 (by decide) ?_
    exact zret_i hx hb hr hlocks dX5_saltOf_30 hq
def v_X5_owns (M : Nat → Nat → Int32) (b : Nat) (k : Nat) : Bool := (if (v_X5_isOfGroup M b) = true then (if (M 0 (53 + (100 * (Int32.toNatClampNeg (v_X5_of M b 1))) + k)) = (nI b) then true else false) else (if (v_X5_of M b 3) ≤ (nI k) then false else true))
set_option maxHeartbeats 400000 in
set_option maxRecDepth 100000 in
theorem c_X5_owns (l : Launch) (D : va_G) (g : Nat → ClassId) (u : Nat → Nat) (M : Nat → Nat → Int32) (w : Int64) (b : Nat) (k : Nat) (z0 : b < 8) (z1 : k < 100) (z2 : zG M) : Rd l D (zT g) yX5_owns wsX5_owns (rmOf 2 43) [.ref (u 0), .int (nI b), .int (nI k)] (zB_X5 (g 0) u M w) (.int (bI (v_X5_owns M b k))) := by
  refine Rd.of (cc := cX5_owns) (maxL := 3) (ret := (some .boolean)) (by decide) rfl (Nat.le_of_ble_eq_true rfl) ?_
  intro p e s m below meth c ls hx hb hr hml hown hts hlocks hP hK hl
  have hown : s.vm.findClass RX5 = some m.cls := hown
  have hinX5 : ∀ w ∈ u_ws RX5 TX5 13, w ∈ wsX5_owns := fun _ h9 => (List.mem_cons_of_mem _ (List.mem_append_right _ h9))
  obtain ⟨q, hq⟩ : ∃ q : Bool, q = v_X5_owns M b k := ⟨_, rfl⟩
  rw [← hq]
  unfold v_X5_owns at hq
  have hl : lv_has ls 3 [(0, .ref (u 0)), (1, .int (nI b)), (2, .int (nI k))] := hl
  refine lv_aload_n hx hb dX5_owns_0 rfl (lv_at hl 0 rfl) ?_
  refine lv_iload_n hx hb dX5_owns_1 rfl (lv_at hl 1 rfl) ?_
  refine zcV (ci := 5) (n := 1) (c_X5_isOfGroup l D g u M w b (by omega)) hx hb hml hown hts gX5_owns_X5_isOfGroup rfl ⟨rfl, by decide, by decide, by decide⟩ ⟨Nat.le_of_ble_eq_true rfl, Nat.le_of_ble_eq_true rfl⟩ ⟨rfl, rfl⟩ hK hP rfl rfl rfl hl.1 rfl rfl (Nat.le_of_ble_eq_true rfl) ⟨Nat.zero_le _, Nat.zero_le _⟩ dX5_owns_2 ?_
  refine zif_eq (tgt := 39) hx hb dX5_owns_5 (by decide) (fun c_2 => ?_) (fun c_2 => ?_)
  · have hq := hq.trans (zif_f c_2)
    refine lv_iload_n hx hb dX5_owns_39 rfl (lv_at hl 2 rfl) ?_
    refine lv_aload_n hx hb dX5_owns_40 rfl (lv_at hl 0 rfl) ?_
    refine lv_iload_n hx hb dX5_owns_41 rfl (lv_at hl 1 rfl) ?_
    refine lv_iconst (v := 3) hx hb dX5_owns_42 (by decide) ?_
    refine zcV (ci := 5) (n := 2) (c_X5_of l D g u M w b 3 (by omega)) hx hb hml hown hts gX5_owns_X5_of rfl ⟨rfl, by decide, by decide, by decide⟩ ⟨Nat.le_of_ble_eq_true rfl, Nat.le_of_ble_eq_true rfl⟩ ⟨rfl, rfl⟩ hK hP rfl rfl rfl hl.1 rfl rfl (Nat.le_of_ble_eq_true rfl) ⟨Nat.zero_le _, Nat.zero_le _⟩ dX5_owns_43 ?_
    refine lv_icmp_ge (tgt := 53) hx hb dX5_owns_46 (by decide) (fun c_4 => ?_) (fun c_4 => ?_)
    · have c_4 : (v_X5_of M b 3) ≤ (nI k) := c_4
      have hq := hq.trans (if_pos c_4)
      refine lv_iconst (v := 0) hx hb dX5_owns_53 (by decide) ?_
      exact zret_z (q' := false) hx hb hr hlocks dX5_owns_54 hq
    · have c_4 : ¬ ((v_X5_of M b 3) ≤ (nI k)) := c_4
      have hq := hq.trans (if_neg c_4)
      refine lv_iconst (v := 1) hx hb dX5_owns_49 (by decide) ?_
      refine lv_goto (tgt := 54) hx hb dX5_owns_50 (by decide) ?_
      exact zret_z (q' := true) hx hb hr hlocks dX5_owns_54 hq
  · have hq := hq.trans (zif_t c_2)
    refine lv_aload_n hx hb dX5_owns_8 rfl (lv_at hl 0 rfl) ?_
    refine va_get (D := D) (ci := 5) (v := .ref (u 1)) (C := RX5) (T := TX5) (N := 13) hx hb hts hinX5 hown hK.1 hP 0 rfl rfl 0 (by decide) (hts (.fieldLink RX5 7 "SaltSharesModel" "z" "[I") (List.mem_of_getElem? (i := 1) rfl)) (fun _ h9 => h9) rfl dX5_owns_9 ?_
    refine lv_bipush (v := 53) hx hb dX5_owns_12 (by decide) ?_
    refine lv_bipush (v := 100) hx hb dX5_owns_14 (by decide) ?_
    refine lv_aload_n hx hb dX5_owns_16 rfl (lv_at hl 0 rfl) ?_
    refine lv_iload_n hx hb dX5_owns_17 rfl (lv_at hl 1 rfl) ?_
    refine lv_iconst (v := 1) hx hb dX5_owns_18 (by decide) ?_
    refine zcV (ci := 5) (n := 2) (c_X5_of l D g u M w b 1 (by omega)) hx hb hml hown hts gX5_owns_X5_of rfl ⟨rfl, by decide, by decide, by decide⟩ ⟨Nat.le_of_ble_eq_true rfl, Nat.le_of_ble_eq_true rfl⟩ ⟨rfl, rfl⟩ hK hP rfl rfl rfl hl.1 rfl rfl (Nat.le_of_ble_eq_true rfl) ⟨Nat.zero_le _, Nat.zero_le _⟩ dX5_owns_19 ?_
    have w_6 := znat (zmg (by assumption) z0 z2)
    have w_6b := w_6.2
    refine lv_is w_6.1 ?_
    refine lv_imul hx hb dX5_owns_22 ?_
    refine lv_is (show (100 : Int32) * (nI (Int32.toNatClampNeg (v_X5_of M b 1))) = (nI (100 * (Int32.toNatClampNeg (v_X5_of M b 1)))) from pk_mul 100 (Int32.toNatClampNeg (v_X5_of M b 1))) ?_
    refine lv_iadd hx hb dX5_owns_23 ?_
    refine lv_is (show (53 : Int32) + (nI (100 * (Int32.toNatClampNeg (v_X5_of M b 1)))) = (nI (53 + (100 * (Int32.toNatClampNeg (v_X5_of M b 1))))) from nI_add 53 (100 * (Int32.toNatClampNeg (v_X5_of M b 1)))) ?_
    refine lv_iload_n hx hb dX5_owns_24 rfl (lv_at hl 2 rfl) ?_
    refine lv_iadd hx hb dX5_owns_25 ?_
    refine lv_is (show (nI (53 + (100 * (Int32.toNatClampNeg (v_X5_of M b 1))))) + (nI k) = (nI (53 + (100 * (Int32.toNatClampNeg (v_X5_of M b 1))) + k)) from nI_add (53 + (100 * (Int32.toNatClampNeg (v_X5_of M b 1)))) k) ?_
    refine z_iald (i := 53 + (100 * (Int32.toNatClampNeg (v_X5_of M b 1))) + k) hx hb hK hP 1 0 rfl rfl (by omega) (by decide) dX5_owns_26 ?_
    refine lv_iload_n hx hb dX5_owns_27 rfl (lv_at hl 1 rfl) ?_
    refine lv_icmp_ne (tgt := 35) hx hb dX5_owns_28 (by decide) (fun c_7 => ?_) (fun c_7 => ?_)
    · have c_7 : ¬ ((M 0 (53 + (100 * (Int32.toNatClampNeg (v_X5_of M b 1))) + k)) = (nI b)) := c_7
      have hq := hq.trans (if_neg c_7)
      refine lv_iconst (v := 0) hx hb dX5_owns_35 (by decide) ?_
      refine lv_goto (tgt := 54) hx hb dX5_owns_36 (by decide) ?_
      exact zret_z (q' := false) hx hb hr hlocks dX5_owns_54 hq
    · have c_7 : (M 0 (53 + (100 * (Int32.toNatClampNeg (v_X5_of M b 1))) + k)) = (nI b) := c_7
      have hq := hq.trans (if_pos c_7)
      refine lv_iconst (v := 1) hx hb dX5_owns_31 (by decide) ?_
      refine lv_goto (tgt := 54) hx hb dX5_owns_32 (by decide) ?_
      exact zret_z (q' := true) hx hb hr hlocks dX5_owns_54 hq
def v_X5_freeOf_4 (M : Nat → Nat → Int32) (gr : Nat) : Nat → Int32 → Nat → Int32
  | 0, _, _ => (0)
  | n + 1, many, i => (if 100 ≤ i then many else (if (M 0 (53 + (100 * gr) + i)) = (-1) then v_X5_freeOf_4 M gr n (many + 1) (i + 1) else v_X5_freeOf_4 M gr n (many + 0) (i + 1)))
def v_X5_freeOf (M : Nat → Nat → Int32) (gr : Nat) : Int32 := v_X5_freeOf_4 M gr 101 0 0
set_option maxHeartbeats 400000 in
set_option maxRecDepth 100000 in
theorem c_X5_freeOf (l : Launch) (D : va_G) (g : Nat → ClassId) (u : Nat → Nat) (M : Nat → Nat → Int32) (w : Int64) (gr : Nat) (z0 : gr < 3) : Rd l D (zT g) yX5_freeOf wsX5_freeOf (rmOf 0 0) [.ref (u 0), .int (nI gr)] (zB_X5 (g 0) u M w) (.int (v_X5_freeOf M gr)) := by
  refine Rd.of (cc := cX5_freeOf) (maxL := 4) (ret := (some .int)) (by decide) rfl (Nat.le_of_ble_eq_true rfl) ?_
  intro p e s m below meth c ls hx hb hr hml hown hts hlocks hP hK hl
  have hown : s.vm.findClass RX5 = some m.cls := hown
  have hinX5 : ∀ w ∈ u_ws RX5 TX5 13, w ∈ wsX5_freeOf := fun _ h9 => (List.mem_cons_of_mem _ (List.mem_append_right _ h9))
  obtain ⟨q, hq⟩ : ∃ q : Int32, q = v_X5_freeOf M gr := ⟨_, rfl⟩
  rw [← hq]
  unfold v_X5_freeOf at hq
  have hl : lv_has ls 4 [(0, .ref (u 0)), (1, .int (nI gr))] := hl
  refine lv_iconst (v := 0) hx hb dX5_freeOf_0 (by decide) ?_
  refine lv_istore_n (lv' := [(2, .int 0), (0, .ref (u 0)), (1, .int (nI gr))]) hx hb dX5_freeOf_1 rfl hl (by decide) rfl (fun ls hl => ?_)
  refine lv_iconst (v := 0) hx hb dX5_freeOf_2 (by decide) ?_
  refine lv_istore_n (lv' := [(3, .int 0), (2, .int 0), (0, .ref (u 0)), (1, .int (nI gr))]) hx hb dX5_freeOf_3 rfl hl (by decide) rfl (fun ls hl => ?_)
  have L4 : ∀ (n : Nat) (many : Int32) (i : Nat), (i ≤ 100) → 100 - i < n → ∀ (ls : Array Slot), lv_has ls 4 [(0, .ref (u 0)), (1, .int (nI gr)), (2, .int many), (3, .int (nI i))] → q = v_X5_freeOf_4 M gr n many i → W p l e (rmOf 0 0) s m [.ref (u 0), .int (nI gr)].toArray below meth c s.heap [] 0 0 (MQ below (zQ (.int q)) [.ref (u 0), .int (nI gr)].toArray s 0 0 (fun _ => False)) (F0 m 4 ls []) := by
    intro n
    induction n with
    | zero => intro many i v4_0 hn; exact absurd hn (Nat.not_lt_zero _)
    | succ n ih4 =>
      intro many i v4_0 hn4 ls hl hq
      rw [v_X5_freeOf_4] at hq
      refine lv_iload_n hx hb dX5_freeOf_4 rfl (lv_at hl 3 rfl) ?_
      refine lv_bipush (v := 100) hx hb dX5_freeOf_5 (by decide) ?_
      refine lv_icmp_ge (tgt := 42) hx hb dX5_freeOf_7 (by decide) (fun c_1 => ?_) (fun c_1 => ?_)
      · have c_1 : 100 ≤ i := (nI_leI (a := 100) (b := i) (by omega) (by omega)).mp c_1
        have hq := hq.trans (if_pos c_1)
        refine lv_iload_n hx hb dX5_freeOf_42 rfl (lv_at hl 2 rfl) ?_
        exact zret_i hx hb hr hlocks dX5_freeOf_43 hq
      · have c_1 : ¬ (100 ≤ i) := fun h9 => c_1 ((nI_leI (a := 100) (b := i) (by omega) (by omega)).mpr h9)
        have hq := hq.trans (if_neg c_1)
        refine lv_iload_n hx hb dX5_freeOf_10 rfl (lv_at hl 2 rfl) ?_
        refine lv_aload_n hx hb dX5_freeOf_11 rfl (lv_at hl 0 rfl) ?_
        refine va_get (D := D) (ci := 5) (v := .ref (u 1)) (C := RX5) (T := TX5) (N := 13) hx hb hts hinX5 hown hK.1 hP 0 rfl rfl 0 (by decide) (hts (.fieldLink RX5 7 "SaltSharesModel" "z" "[I") (List.mem_of_getElem? (i := 1) rfl)) (fun _ h9 => h9) rfl dX5_freeOf_12 ?_
        refine lv_bipush (v := 53) hx hb dX5_freeOf_15 (by decide) ?_
        refine lv_bipush (v := 100) hx hb dX5_freeOf_17 (by decide) ?_
        refine lv_iload_n hx hb dX5_freeOf_19 rfl (lv_at hl 1 rfl) ?_
        refine lv_imul hx hb dX5_freeOf_20 ?_
        refine lv_is (show (100 : Int32) * (nI gr) = (nI (100 * gr)) from pk_mul 100 gr) ?_
        refine lv_iadd hx hb dX5_freeOf_21 ?_
        refine lv_is (show (53 : Int32) + (nI (100 * gr)) = (nI (53 + (100 * gr))) from nI_add 53 (100 * gr)) ?_
        refine lv_iload_n hx hb dX5_freeOf_22 rfl (lv_at hl 3 rfl) ?_
        refine lv_iadd hx hb dX5_freeOf_23 ?_
        refine lv_is (show (nI (53 + (100 * gr))) + (nI i) = (nI (53 + (100 * gr) + i)) from nI_add (53 + (100 * gr)) i) ?_
        refine z_iald (i := 53 + (100 * gr) + i) hx hb hK hP 1 0 rfl rfl (by omega) (by decide) dX5_freeOf_24 ?_
        refine lv_iconst (v := (-1)) hx hb dX5_freeOf_25 (by decide) ?_
        refine lv_icmp_ne (tgt := 33) hx hb dX5_freeOf_26 (by decide) (fun c_2 => ?_) (fun c_2 => ?_)
        · have c_2 : ¬ ((M 0 (53 + (100 * gr) + i)) = (-1)) := c_2
          have hq := hq.trans (if_neg c_2)
          refine lv_iconst (v := 0) hx hb dX5_freeOf_33 (by decide) ?_
          refine lv_iadd hx hb dX5_freeOf_34 ?_
          refine lv_istore_n (lv' := [(2, .int (many + 0)), (0, .ref (u 0)), (1, .int (nI gr)), (3, .int (nI i))]) hx hb dX5_freeOf_35 rfl hl (by decide) rfl (fun ls hl => ?_)
          refine lv_iinc (v := (nI (i + 1))) (lv' := [(3, .int (nI (i + 1))), (2, .int (many + 0)), (0, .ref (u 0)), (1, .int (nI gr))]) hx hb dX5_freeOf_36 hl (k := 3) rfl (nI_add _ 1) (by decide) rfl (fun ls hl => ?_)
          refine lv_goto (tgt := 4) hx hb dX5_freeOf_39 (by decide) ?_
          exact ih4 (many + 0) (i + 1) (by omega) (by omega) ls (lv_sub hl [2, 3, 1, 0] rfl) hq
        · have c_2 : (M 0 (53 + (100 * gr) + i)) = (-1) := c_2
          have hq := hq.trans (if_pos c_2)
          refine lv_iconst (v := 1) hx hb dX5_freeOf_29 (by decide) ?_
          refine lv_goto (tgt := 34) hx hb dX5_freeOf_30 (by decide) ?_
          refine lv_iadd hx hb dX5_freeOf_34 ?_
          refine lv_istore_n (lv' := [(2, .int (many + 1)), (0, .ref (u 0)), (1, .int (nI gr)), (3, .int (nI i))]) hx hb dX5_freeOf_35 rfl hl (by decide) rfl (fun ls hl => ?_)
          refine lv_iinc (v := (nI (i + 1))) (lv' := [(3, .int (nI (i + 1))), (2, .int (many + 1)), (0, .ref (u 0)), (1, .int (nI gr))]) hx hb dX5_freeOf_36 hl (k := 3) rfl (nI_add _ 1) (by decide) rfl (fun ls hl => ?_)
          refine lv_goto (tgt := 4) hx hb dX5_freeOf_39 (by decide) ?_
          exact ih4 (many + 1) (i + 1) (by omega) (by omega) ls (lv_sub hl [2, 3, 1, 0] rfl) hq
  exact L4 101 0 0 (by omega) (by omega) ls (lv_sub hl [2, 3, 1, 0] rfl) hq
def v_X5_hasRoom (M : Nat → Nat → Int32) (b : Nat) (to : Int32) : Bool := (if (v_X5_isOfGroup M b) = true then (if (v_X5_freeOf M (Int32.toNatClampNeg (v_X5_of M b 1))) < (to - (v_X5_of M b 3)) then false else true) else true)
set_option maxHeartbeats 400000 in
set_option maxRecDepth 100000 in
theorem c_X5_hasRoom (l : Launch) (D : va_G) (g : Nat → ClassId) (u : Nat → Nat) (M : Nat → Nat → Int32) (w : Int64) (b : Nat) (to : Int32) (z0 : b < 8) (z1 : zG M) : Rd l D (zT g) yX5_hasRoom wsX5_hasRoom (rmOf 2 43) [.ref (u 0), .int (nI b), .int to] (zB_X5 (g 0) u M w) (.int (bI (v_X5_hasRoom M b to))) := by
  refine Rd.of (cc := cX5_hasRoom) (maxL := 3) (ret := (some .boolean)) (by decide) rfl (Nat.le_of_ble_eq_true rfl) ?_
  intro p e s m below meth c ls hx hb hr hml hown hts hlocks hP hK hl
  have hown : s.vm.findClass RX5 = some m.cls := hown
  obtain ⟨q, hq⟩ : ∃ q : Bool, q = v_X5_hasRoom M b to := ⟨_, rfl⟩
  rw [← hq]
  unfold v_X5_hasRoom at hq
  have hl : lv_has ls 3 [(0, .ref (u 0)), (1, .int (nI b)), (2, .int to)] := hl
  refine lv_aload_n hx hb dX5_hasRoom_0 rfl (lv_at hl 0 rfl) ?_
  refine lv_iload_n hx hb dX5_hasRoom_1 rfl (lv_at hl 1 rfl) ?_
  refine zcV (ci := 5) (n := 1) (c_X5_isOfGroup l D g u M w b (by omega)) hx hb hml hown hts gX5_hasRoom_X5_isOfGroup rfl ⟨rfl, by decide, by decide, by decide⟩ ⟨Nat.le_of_ble_eq_true rfl, Nat.le_of_ble_eq_true rfl⟩ ⟨rfl, rfl⟩ hK hP rfl rfl rfl hl.1 rfl rfl (Nat.le_of_ble_eq_true rfl) ⟨Nat.zero_le _, Nat.zero_le _⟩ dX5_hasRoom_2 ?_
  refine zif_eq (tgt := 29) hx hb dX5_hasRoom_5 (by decide) (fun c_2 => ?_) (fun c_2 => ?_)
  · have hq := hq.trans (zif_f c_2)
    refine lv_iconst (v := 1) hx hb dX5_hasRoom_29 (by decide) ?_
    refine lv_goto (tgt := 34) hx hb dX5_hasRoom_30 (by decide) ?_
    exact zret_z (q' := true) hx hb hr hlocks dX5_hasRoom_34 hq
  · have hq := hq.trans (zif_t c_2)
    refine lv_iload_n hx hb dX5_hasRoom_8 rfl (lv_at hl 2 rfl) ?_
    refine lv_aload_n hx hb dX5_hasRoom_9 rfl (lv_at hl 0 rfl) ?_
    refine lv_iload_n hx hb dX5_hasRoom_10 rfl (lv_at hl 1 rfl) ?_
    refine lv_iconst (v := 3) hx hb dX5_hasRoom_11 (by decide) ?_
    refine zcV (ci := 5) (n := 2) (c_X5_of l D g u M w b 3 (by omega)) hx hb hml hown hts gX5_hasRoom_X5_of rfl ⟨rfl, by decide, by decide, by decide⟩ ⟨Nat.le_of_ble_eq_true rfl, Nat.le_of_ble_eq_true rfl⟩ ⟨rfl, rfl⟩ hK hP rfl rfl rfl hl.1 rfl rfl (Nat.le_of_ble_eq_true rfl) ⟨Nat.zero_le _, Nat.zero_le _⟩ dX5_hasRoom_12 ?_
    refine lv_isub hx hb dX5_hasRoom_15 ?_
    refine lv_aload_n hx hb dX5_hasRoom_16 rfl (lv_at hl 0 rfl) ?_
    refine lv_aload_n hx hb dX5_hasRoom_17 rfl (lv_at hl 0 rfl) ?_
    refine lv_iload_n hx hb dX5_hasRoom_18 rfl (lv_at hl 1 rfl) ?_
    refine lv_iconst (v := 1) hx hb dX5_hasRoom_19 (by decide) ?_
    refine zcV (ci := 5) (n := 2) (c_X5_of l D g u M w b 1 (by omega)) hx hb hml hown hts gX5_hasRoom_X5_of rfl ⟨rfl, by decide, by decide, by decide⟩ ⟨Nat.le_of_ble_eq_true rfl, Nat.le_of_ble_eq_true rfl⟩ ⟨rfl, rfl⟩ hK hP rfl rfl rfl hl.1 rfl rfl (Nat.le_of_ble_eq_true rfl) ⟨Nat.zero_le _, Nat.zero_le _⟩ dX5_hasRoom_20 ?_
    have w_5 := znat (zmg (by assumption) z0 z1)
    have w_5b := w_5.2
    refine lv_is w_5.1 ?_
    refine zcV (ci := 5) (n := 1) (c_X5_freeOf l D g u M w (Int32.toNatClampNeg (v_X5_of M b 1)) (by omega)) hx hb hml hown hts gX5_hasRoom_X5_freeOf rfl ⟨rfl, by decide, by decide, by decide⟩ ⟨Nat.le_of_ble_eq_true rfl, Nat.le_of_ble_eq_true rfl⟩ ⟨rfl, rfl⟩ hK hP rfl rfl rfl hl.1 rfl rfl (Nat.le_of_ble_eq_true rfl) ⟨Nat.zero_le _, Nat.zero_le _⟩ dX5_hasRoom_23 ?_
    refine lv_icmp_gt (tgt := 33) hx hb dX5_hasRoom_26 (by decide) (fun c_7 => ?_) (fun c_7 => ?_)
    · have c_7 : (v_X5_freeOf M (Int32.toNatClampNeg (v_X5_of M b 1))) < (to - (v_X5_of M b 3)) := c_7
      have hq := hq.trans (if_pos c_7)
      refine lv_iconst (v := 0) hx hb dX5_hasRoom_33 (by decide) ?_
      exact zret_z (q' := false) hx hb hr hlocks dX5_hasRoom_34 hq
    · have c_7 : ¬ ((v_X5_freeOf M (Int32.toNatClampNeg (v_X5_of M b 1))) < (to - (v_X5_of M b 3))) := c_7
      have hq := hq.trans (if_neg c_7)
      refine lv_iconst (v := 1) hx hb dX5_hasRoom_29 (by decide) ?_
      refine lv_goto (tgt := 34) hx hb dX5_hasRoom_30 (by decide) ?_
      exact zret_z (q' := true) hx hb hr hlocks dX5_hasRoom_34 hq
def v_X5_isHeld (M : Nat → Nat → Int32) (from1 : Nat) (pe : Nat) (b : Nat) : Bool := (if (((M 0 (from1 + pe)) >>> ((nI b) &&& 31)) &&& 1) = 1 then true else false)
set_option maxHeartbeats 400000 in
set_option maxRecDepth 100000 in
theorem c_X5_isHeld (l : Launch) (D : va_G) (g : Nat → ClassId) (u : Nat → Nat) (M : Nat → Nat → Int32) (w : Int64) (from1 : Nat) (pe : Nat) (b : Nat) (z0 : from1 + pe < 954) : Rd l D (zT g) yX5_isHeld wsX5_isHeld (rmOf 0 0) [.ref (u 0), .int (nI from1), .int (nI pe), .int (nI b)] (zB_X5 (g 0) u M w) (.int (bI (v_X5_isHeld M from1 pe b))) := by
  refine Rd.of (cc := cX5_isHeld) (maxL := 4) (ret := (some .boolean)) (by decide) rfl (Nat.le_of_ble_eq_true rfl) ?_
  intro p e s m below meth c ls hx hb hr hml hown hts hlocks hP hK hl
  have hown : s.vm.findClass RX5 = some m.cls := hown
  have hinX5 : ∀ w ∈ u_ws RX5 TX5 13, w ∈ wsX5_isHeld := fun _ h9 => (List.mem_cons_of_mem _ (List.mem_append_right _ h9))
  obtain ⟨q, hq⟩ : ∃ q : Bool, q = v_X5_isHeld M from1 pe b := ⟨_, rfl⟩
  rw [← hq]
  unfold v_X5_isHeld at hq
  have hl : lv_has ls 4 [(0, .ref (u 0)), (1, .int (nI from1)), (2, .int (nI pe)), (3, .int (nI b))] := hl
  refine lv_aload_n hx hb dX5_isHeld_0 rfl (lv_at hl 0 rfl) ?_
  refine va_get (D := D) (ci := 5) (v := .ref (u 1)) (C := RX5) (T := TX5) (N := 13) hx hb hts hinX5 hown hK.1 hP 0 rfl rfl 0 (by decide) (hts (.fieldLink RX5 7 "SaltSharesModel" "z" "[I") (List.mem_of_getElem? (i := 1) rfl)) (fun _ h9 => h9) rfl dX5_isHeld_1 ?_
  refine lv_iload_n hx hb dX5_isHeld_4 rfl (lv_at hl 1 rfl) ?_
  refine lv_iload_n hx hb dX5_isHeld_5 rfl (lv_at hl 2 rfl) ?_
  refine lv_iadd hx hb dX5_isHeld_6 ?_
  refine lv_is (show (nI from1) + (nI pe) = (nI (from1 + pe)) from nI_add from1 pe) ?_
  refine z_iald (i := from1 + pe) hx hb hK hP 1 0 rfl rfl (by omega) (by decide) dX5_isHeld_7 ?_
  refine lv_iload_n hx hb dX5_isHeld_8 rfl (lv_at hl 3 rfl) ?_
  refine lv_ishr hx hb dX5_isHeld_9 ?_
  refine lv_iconst (v := 1) hx hb dX5_isHeld_10 (by decide) ?_
  refine lv_iand hx hb dX5_isHeld_11 ?_
  refine lv_iconst (v := 1) hx hb dX5_isHeld_12 (by decide) ?_
  refine lv_icmp_ne (tgt := 20) hx hb dX5_isHeld_13 (by decide) (fun c_1 => ?_) (fun c_1 => ?_)
  · have c_1 : ¬ ((((M 0 (from1 + pe)) >>> ((nI b) &&& 31)) &&& 1) = 1) := c_1
    have hq := hq.trans (if_neg c_1)
    refine lv_iconst (v := 0) hx hb dX5_isHeld_20 (by decide) ?_
    exact zret_z (q' := false) hx hb hr hlocks dX5_isHeld_21 hq
  · have c_1 : (((M 0 (from1 + pe)) >>> ((nI b) &&& 31)) &&& 1) = 1 := c_1
    have hq := hq.trans (if_pos c_1)
    refine lv_iconst (v := 1) hx hb dX5_isHeld_16 (by decide) ?_
    refine lv_goto (tgt := 21) hx hb dX5_isHeld_17 (by decide) ?_
    exact zret_z (q' := true) hx hb hr hlocks dX5_isHeld_21 hq
def v_X5_eatsNow (M : Nat → Nat → Int32) (pe : Nat) (b : Nat) : Int32 := (if (v_X5_isOpen M b) = true then (if (v_X5_isHeld M 503 pe b) = true then 0 else (if (v_X5_isHeld M 353 pe b) = true then 1 else (if (v_X5_owns M b (v_X5_bucketBy (nI pe) (v_X5_saltOf M b))) = true then 3 else (if (v_X5_of M b 4) = 1 then (if (v_X5_isHeld M 653 pe b) = true then 2 else 0) else 0)))) else 0)
set_option maxHeartbeats 400000 in
set_option maxRecDepth 100000 in
theorem c_X5_eatsNow (l : Launch) (D : va_G) (g : Nat → ClassId) (u : Nat → Nat) (M : Nat → Nat → Int32) (w : Int64) (pe : Nat) (b : Nat) (z0 : pe < 150) (z1 : b < 8) (z2 : zG M) : Rd l D (zT g) yX5_eatsNow wsX5_eatsNow (rmOf 3 65) [.ref (u 0), .int (nI pe), .int (nI b)] (zB_X5 (g 0) u M w) (.int (v_X5_eatsNow M pe b)) := by
  refine Rd.of (cc := cX5_eatsNow) (maxL := 4) (ret := (some .int)) (by decide) rfl (Nat.le_of_ble_eq_true rfl) ?_
  intro p e s m below meth c ls hx hb hr hml hown hts hlocks hP hK hl
  have hown : s.vm.findClass RX5 = some m.cls := hown
  obtain ⟨q, hq⟩ : ∃ q : Int32, q = v_X5_eatsNow M pe b := ⟨_, rfl⟩
  rw [← hq]
  unfold v_X5_eatsNow at hq
  have hl : lv_has ls 4 [(0, .ref (u 0)), (1, .int (nI pe)), (2, .int (nI b))] := hl
  refine lv_aload_n hx hb dX5_eatsNow_0 rfl (lv_at hl 0 rfl) ?_
  refine lv_iload_n hx hb dX5_eatsNow_1 rfl (lv_at hl 2 rfl) ?_
  refine zcV (ci := 5) (n := 1) (c_X5_isOpen l D g u M w b (by omega)) hx hb hml hown hts gX5_eatsNow_X5_isOpen rfl ⟨rfl, by decide, by decide, by decide⟩ ⟨Nat.le_of_ble_eq_true rfl, Nat.le_of_ble_eq_true rfl⟩ ⟨rfl, rfl⟩ hK hP rfl rfl rfl hl.1 rfl rfl (Nat.le_of_ble_eq_true rfl) ⟨Nat.zero_le _, Nat.zero_le _⟩ dX5_eatsNow_2 ?_
  refine zif_eq (tgt := 20) hx hb dX5_eatsNow_5 (by decide) (fun c_2 => ?_) (fun c_2 => ?_)
  · have hq := hq.trans (zif_f c_2)
    refine lv_iconst (v := 0) hx hb dX5_eatsNow_20 (by decide) ?_
    exact zret_i hx hb hr hlocks dX5_eatsNow_21 hq
  · have hq := hq.trans (zif_t c_2)
    refine lv_aload_n hx hb dX5_eatsNow_8 rfl (lv_at hl 0 rfl) ?_
    refine lv_sipush (v := 503) hx hb dX5_eatsNow_9 (by decide) ?_
    refine lv_iload_n hx hb dX5_eatsNow_12 rfl (lv_at hl 1 rfl) ?_
    refine lv_iload_n hx hb dX5_eatsNow_13 rfl (lv_at hl 2 rfl) ?_
    refine zcV (ci := 5) (n := 3) (c_X5_isHeld l D g u M w 503 pe b (by omega)) hx hb hml hown hts gX5_eatsNow_X5_isHeld rfl ⟨rfl, by decide, by decide, by decide⟩ ⟨Nat.le_of_ble_eq_true rfl, Nat.le_of_ble_eq_true rfl⟩ ⟨rfl, rfl⟩ hK hP rfl rfl rfl hl.1 rfl rfl (Nat.le_of_ble_eq_true rfl) ⟨Nat.zero_le _, Nat.zero_le _⟩ dX5_eatsNow_14 ?_
    refine zif_eq (tgt := 22) hx hb dX5_eatsNow_17 (by decide) (fun c_4 => ?_) (fun c_4 => ?_)
    · have hq := hq.trans (zif_f c_4)
      refine lv_aload_n hx hb dX5_eatsNow_22 rfl (lv_at hl 0 rfl) ?_
      refine lv_sipush (v := 353) hx hb dX5_eatsNow_23 (by decide) ?_
      refine lv_iload_n hx hb dX5_eatsNow_26 rfl (lv_at hl 1 rfl) ?_
      refine lv_iload_n hx hb dX5_eatsNow_27 rfl (lv_at hl 2 rfl) ?_
      refine zcV (ci := 5) (n := 3) (c_X5_isHeld l D g u M w 353 pe b (by omega)) hx hb hml hown hts gX5_eatsNow_X5_isHeld rfl ⟨rfl, by decide, by decide, by decide⟩ ⟨Nat.le_of_ble_eq_true rfl, Nat.le_of_ble_eq_true rfl⟩ ⟨rfl, rfl⟩ hK hP rfl rfl rfl hl.1 rfl rfl (Nat.le_of_ble_eq_true rfl) ⟨Nat.zero_le _, Nat.zero_le _⟩ dX5_eatsNow_28 ?_
      refine zif_eq (tgt := 36) hx hb dX5_eatsNow_31 (by decide) (fun c_6 => ?_) (fun c_6 => ?_)
      · have hq := hq.trans (zif_f c_6)
        refine lv_aload_n hx hb dX5_eatsNow_36 rfl (lv_at hl 0 rfl) ?_
        refine lv_iload_n hx hb dX5_eatsNow_37 rfl (lv_at hl 2 rfl) ?_
        refine lv_iload_n hx hb dX5_eatsNow_38 rfl (lv_at hl 1 rfl) ?_
        refine lv_aload_n hx hb dX5_eatsNow_39 rfl (lv_at hl 0 rfl) ?_
        refine lv_iload_n hx hb dX5_eatsNow_40 rfl (lv_at hl 2 rfl) ?_
        refine zcV (ci := 5) (n := 1) (c_X5_saltOf l D g u M w b (by omega) z2) hx hb hml hown hts gX5_eatsNow_X5_saltOf rfl ⟨rfl, by decide, by decide, by decide⟩ ⟨Nat.le_of_ble_eq_true rfl, Nat.le_of_ble_eq_true rfl⟩ ⟨rfl, rfl⟩ hK hP rfl rfl rfl hl.1 rfl rfl (Nat.le_of_ble_eq_true rfl) ⟨Nat.zero_le _, Nat.zero_le _⟩ dX5_eatsNow_41 ?_
        refine zcSO (n := 2) (c_X5_bucketBy l D g (nI pe) (v_X5_saltOf M b)) hx hb hml hown hts gX5_eatsNow_X5_bucketBy rfl ⟨by decide, by decide, by decide⟩ ⟨Nat.le_of_ble_eq_true rfl, Nat.le_of_ble_eq_true rfl⟩ ⟨rfl, rfl⟩ hK (hP.sub [] rfl) hl.1 rfl rfl (Nat.le_of_ble_eq_true rfl) ⟨Nat.zero_le _, Nat.zero_le _⟩ dX5_eatsNow_44 ?_
        have p_9 := v_X5_bucketBy_lt (nI pe) (v_X5_saltOf M b)
        refine zcV (ci := 5) (n := 2) (c_X5_owns l D g u M w b (v_X5_bucketBy (nI pe) (v_X5_saltOf M b)) (by omega) (by omega) z2) hx hb hml hown hts gX5_eatsNow_X5_owns rfl ⟨rfl, by decide, by decide, by decide⟩ ⟨Nat.le_of_ble_eq_true rfl, Nat.le_of_ble_eq_true rfl⟩ ⟨rfl, rfl⟩ hK hP rfl rfl rfl hl.1 rfl rfl (Nat.le_of_ble_eq_true rfl) ⟨Nat.zero_le _, Nat.zero_le _⟩ dX5_eatsNow_47 ?_
        refine lv_istore_n (lv' := [(3, .int (bI (v_X5_owns M b (v_X5_bucketBy (nI pe) (v_X5_saltOf M b))))), (0, .ref (u 0)), (1, .int (nI pe)), (2, .int (nI b))]) hx hb dX5_eatsNow_50 rfl hl (by decide) rfl (fun ls hl => ?_)
        refine lv_iload_n hx hb dX5_eatsNow_51 rfl (lv_at hl 0 rfl) ?_
        refine zif_eq (tgt := 59) hx hb dX5_eatsNow_52 (by decide) (fun c_11 => ?_) (fun c_11 => ?_)
        · have hq := hq.trans (zif_f c_11)
          refine lv_aload_n hx hb dX5_eatsNow_59 rfl (lv_at hl 1 rfl) ?_
          refine lv_iload_n hx hb dX5_eatsNow_60 rfl (lv_at hl 3 rfl) ?_
          refine lv_iconst (v := 4) hx hb dX5_eatsNow_61 (by decide) ?_
          refine zcV (ci := 5) (n := 2) (c_X5_of l D g u M w b 4 (by omega)) hx hb hml hown hts gX5_eatsNow_X5_of rfl ⟨rfl, by decide, by decide, by decide⟩ ⟨Nat.le_of_ble_eq_true rfl, Nat.le_of_ble_eq_true rfl⟩ ⟨rfl, rfl⟩ hK hP rfl rfl rfl hl.1 rfl rfl (Nat.le_of_ble_eq_true rfl) ⟨Nat.zero_le _, Nat.zero_le _⟩ dX5_eatsNow_62 ?_
          refine lv_iconst (v := 1) hx hb dX5_eatsNow_65 (by decide) ?_
          refine lv_icmp_ne (tgt := 85) hx hb dX5_eatsNow_66 (by decide) (fun c_13 => ?_) (fun c_13 => ?_)
          · have c_13 : ¬ ((v_X5_of M b 4) = 1) := c_13
            have hq := hq.trans (if_neg c_13)
            refine lv_iconst (v := 0) hx hb dX5_eatsNow_85 (by decide) ?_
            exact zret_i hx hb hr hlocks dX5_eatsNow_86 hq
          · have c_13 : (v_X5_of M b 4) = 1 := c_13
            have hq := hq.trans (if_pos c_13)
            refine lv_aload_n hx hb dX5_eatsNow_69 rfl (lv_at hl 1 rfl) ?_
            refine lv_sipush (v := 653) hx hb dX5_eatsNow_70 (by decide) ?_
            refine lv_iload_n hx hb dX5_eatsNow_73 rfl (lv_at hl 2 rfl) ?_
            refine lv_iload_n hx hb dX5_eatsNow_74 rfl (lv_at hl 3 rfl) ?_
            refine zcV (ci := 5) (n := 3) (c_X5_isHeld l D g u M w 653 pe b (by omega)) hx hb hml hown hts gX5_eatsNow_X5_isHeld rfl ⟨rfl, by decide, by decide, by decide⟩ ⟨Nat.le_of_ble_eq_true rfl, Nat.le_of_ble_eq_true rfl⟩ ⟨rfl, rfl⟩ hK hP rfl rfl rfl hl.1 rfl rfl (Nat.le_of_ble_eq_true rfl) ⟨Nat.zero_le _, Nat.zero_le _⟩ dX5_eatsNow_75 ?_
            refine zif_eq (tgt := 85) hx hb dX5_eatsNow_78 (by decide) (fun c_15 => ?_) (fun c_15 => ?_)
            · have hq := hq.trans (zif_f c_15)
              refine lv_iconst (v := 0) hx hb dX5_eatsNow_85 (by decide) ?_
              exact zret_i hx hb hr hlocks dX5_eatsNow_86 hq
            · have hq := hq.trans (zif_t c_15)
              refine lv_iconst (v := 2) hx hb dX5_eatsNow_81 (by decide) ?_
              refine lv_goto (tgt := 86) hx hb dX5_eatsNow_82 (by decide) ?_
              exact zret_i hx hb hr hlocks dX5_eatsNow_86 hq
        · have hq := hq.trans (zif_t c_11)
          refine lv_iconst (v := 3) hx hb dX5_eatsNow_55 (by decide) ?_
          refine lv_goto (tgt := 86) hx hb dX5_eatsNow_56 (by decide) ?_
          exact zret_i hx hb hr hlocks dX5_eatsNow_86 hq
      · have hq := hq.trans (zif_t c_6)
        refine lv_iconst (v := 1) hx hb dX5_eatsNow_34 (by decide) ?_
        exact zret_i hx hb hr hlocks dX5_eatsNow_35 hq
    · have hq := hq.trans (zif_t c_4)
      refine lv_iconst (v := 0) hx hb dX5_eatsNow_20 (by decide) ?_
      exact zret_i hx hb hr hlocks dX5_eatsNow_21 hq
def v_X5_eaters_4 (M : Nat → Nat → Int32) (b : Nat) : Nat → Int32 → Nat → Int32
  | 0, _, _ => (0)
  | n + 1, many, i => (if 150 ≤ i then many else (if (v_X5_eatsNow M i b) ≤ 0 then v_X5_eaters_4 M b n (many + 0) (i + 1) else v_X5_eaters_4 M b n (many + 1) (i + 1)))
def v_X5_eaters (M : Nat → Nat → Int32) (b : Nat) : Int32 := v_X5_eaters_4 M b 151 0 0
set_option maxHeartbeats 400000 in
set_option maxRecDepth 100000 in
theorem c_X5_eaters (l : Launch) (D : va_G) (g : Nat → ClassId) (u : Nat → Nat) (M : Nat → Nat → Int32) (w : Int64) (b : Nat) (z0 : b < 8) (z1 : zG M) : Rd l D (zT g) yX5_eaters wsX5_eaters (rmOf 4 88) [.ref (u 0), .int (nI b)] (zB_X5 (g 0) u M w) (.int (v_X5_eaters M b)) := by
  refine Rd.of (cc := cX5_eaters) (maxL := 4) (ret := (some .int)) (by decide) rfl (Nat.le_of_ble_eq_true rfl) ?_
  intro p e s m below meth c ls hx hb hr hml hown hts hlocks hP hK hl
  have hown : s.vm.findClass RX5 = some m.cls := hown
  obtain ⟨q, hq⟩ : ∃ q : Int32, q = v_X5_eaters M b := ⟨_, rfl⟩
  rw [← hq]
  unfold v_X5_eaters at hq
  have hl : lv_has ls 4 [(0, .ref (u 0)), (1, .int (nI b))] := hl
  refine lv_iconst (v := 0) hx hb dX5_eaters_0 (by decide) ?_
  refine lv_istore_n (lv' := [(2, .int 0), (0, .ref (u 0)), (1, .int (nI b))]) hx hb dX5_eaters_1 rfl hl (by decide) rfl (fun ls hl => ?_)
  refine lv_iconst (v := 0) hx hb dX5_eaters_2 (by decide) ?_
  refine lv_istore_n (lv' := [(3, .int 0), (2, .int 0), (0, .ref (u 0)), (1, .int (nI b))]) hx hb dX5_eaters_3 rfl hl (by decide) rfl (fun ls hl => ?_)
  have L4 : ∀ (n : Nat) (many : Int32) (i : Nat), (i ≤ 150) → 150 - i < n → ∀ (ls : Array Slot), lv_has ls 4 [(0, .ref (u 0)), (1, .int (nI b)), (2, .int many), (3, .int (nI i))] → q = v_X5_eaters_4 M b n many i → W p l e (rmOf 4 88) s m [.ref (u 0), .int (nI b)].toArray below meth c s.heap [] 0 0 (MQ below (zQ (.int q)) [.ref (u 0), .int (nI b)].toArray s 0 0 (fun _ => False)) (F0 m 4 ls []) := by
    intro n
    induction n with
    | zero => intro many i v4_0 hn; exact absurd hn (Nat.not_lt_zero _)
    | succ n ih4 =>
      intro many i v4_0 hn4 ls hl hq
      rw [v_X5_eaters_4] at hq
      refine lv_iload_n hx hb dX5_eaters_4 rfl (lv_at hl 3 rfl) ?_
      refine lv_sipush (v := 150) hx hb dX5_eaters_5 (by decide) ?_
      refine lv_icmp_ge (tgt := 34) hx hb dX5_eaters_8 (by decide) (fun c_1 => ?_) (fun c_1 => ?_)
      · have c_1 : 150 ≤ i := (nI_leI (a := 150) (b := i) (by omega) (by omega)).mp c_1
        have hq := hq.trans (if_pos c_1)
        refine lv_iload_n hx hb dX5_eaters_34 rfl (lv_at hl 2 rfl) ?_
        exact zret_i hx hb hr hlocks dX5_eaters_35 hq
      · have c_1 : ¬ (150 ≤ i) := fun h9 => c_1 ((nI_leI (a := 150) (b := i) (by omega) (by omega)).mpr h9)
        have hq := hq.trans (if_neg c_1)
        refine lv_iload_n hx hb dX5_eaters_11 rfl (lv_at hl 2 rfl) ?_
        refine lv_aload_n hx hb dX5_eaters_12 rfl (lv_at hl 0 rfl) ?_
        refine lv_iload_n hx hb dX5_eaters_13 rfl (lv_at hl 3 rfl) ?_
        refine lv_iload_n hx hb dX5_eaters_14 rfl (lv_at hl 1 rfl) ?_
        refine zcV (ci := 5) (n := 2) (c_X5_eatsNow l D g u M w i b (by omega) (by omega) z1) hx hb hml hown hts gX5_eaters_X5_eatsNow rfl ⟨rfl, by decide, by decide, by decide⟩ ⟨Nat.le_of_ble_eq_true rfl, Nat.le_of_ble_eq_true rfl⟩ ⟨rfl, rfl⟩ hK hP rfl rfl rfl hl.1 rfl rfl (Nat.le_of_ble_eq_true rfl) ⟨Nat.zero_le _, Nat.zero_le _⟩ dX5_eaters_15 ?_
        refine lv_if_le (tgt := 25) hx hb dX5_eaters_18 (by decide) (fun c_3 => ?_) (fun c_3 => ?_)
        · have c_3 : (v_X5_eatsNow M i b) ≤ 0 := c_3
          have hq := hq.trans (if_pos c_3)
          refine lv_iconst (v := 0) hx hb dX5_eaters_25 (by decide) ?_
          refine lv_iadd hx hb dX5_eaters_26 ?_
          refine lv_istore_n (lv' := [(2, .int (many + 0)), (0, .ref (u 0)), (1, .int (nI b)), (3, .int (nI i))]) hx hb dX5_eaters_27 rfl hl (by decide) rfl (fun ls hl => ?_)
          refine lv_iinc (v := (nI (i + 1))) (lv' := [(3, .int (nI (i + 1))), (2, .int (many + 0)), (0, .ref (u 0)), (1, .int (nI b))]) hx hb dX5_eaters_28 hl (k := 3) rfl (nI_add _ 1) (by decide) rfl (fun ls hl => ?_)
          refine lv_goto (tgt := 4) hx hb dX5_eaters_31 (by decide) ?_
          exact ih4 (many + 0) (i + 1) (by omega) (by omega) ls (lv_sub hl [2, 3, 1, 0] rfl) hq
        · have c_3 : ¬ ((v_X5_eatsNow M i b) ≤ 0) := c_3
          have hq := hq.trans (if_neg c_3)
          refine lv_iconst (v := 1) hx hb dX5_eaters_21 (by decide) ?_
          refine lv_goto (tgt := 26) hx hb dX5_eaters_22 (by decide) ?_
          refine lv_iadd hx hb dX5_eaters_26 ?_
          refine lv_istore_n (lv' := [(2, .int (many + 1)), (0, .ref (u 0)), (1, .int (nI b)), (3, .int (nI i))]) hx hb dX5_eaters_27 rfl hl (by decide) rfl (fun ls hl => ?_)
          refine lv_iinc (v := (nI (i + 1))) (lv' := [(3, .int (nI (i + 1))), (2, .int (many + 1)), (0, .ref (u 0)), (1, .int (nI b))]) hx hb dX5_eaters_28 hl (k := 3) rfl (nI_add _ 1) (by decide) rfl (fun ls hl => ?_)
          refine lv_goto (tgt := 4) hx hb dX5_eaters_31 (by decide) ?_
          exact ih4 (many + 1) (i + 1) (by omega) (by omega) ls (lv_sub hl [2, 3, 1, 0] rfl) hq
  exact L4 151 0 0 (by omega) (by omega) ls (lv_sub hl [2, 3, 1, 0] rfl) hq
def v_X5_breadsOf_4 (M : Nat → Nat → Int32) (pe : Nat) : Nat → Int32 → Nat → Int32
  | 0, _, _ => (0)
  | n + 1, bits, i => (if (M 0 1) ≤ (nI i) then bits else (if (v_X5_eatsNow M pe i) ≤ 0 then v_X5_breadsOf_4 M pe n (bits ||| 0) (i + 1) else v_X5_breadsOf_4 M pe n (bits ||| ((1 : Int32) <<< ((nI i) &&& 31))) (i + 1)))
def v_X5_breadsOf (M : Nat → Nat → Int32) (pe : Nat) : Int32 := v_X5_breadsOf_4 M pe 9 0 0
set_option maxHeartbeats 400000 in
set_option maxRecDepth 100000 in
theorem c_X5_breadsOf (l : Launch) (D : va_G) (g : Nat → ClassId) (u : Nat → Nat) (M : Nat → Nat → Int32) (w : Int64) (pe : Nat) (z0 : pe < 150) (z1 : zG M) (z2 : vp_in (M 0 1) 9) : Rd l D (zT g) yX5_breadsOf wsX5_breadsOf (rmOf 4 88) [.ref (u 0), .int (nI pe)] (zB_X5 (g 0) u M w) (.int (v_X5_breadsOf M pe)) := by
  refine Rd.of (cc := cX5_breadsOf) (maxL := 4) (ret := (some .int)) (by decide) rfl (Nat.le_of_ble_eq_true rfl) ?_
  intro p e s m below meth c ls hx hb hr hml hown hts hlocks hP hK hl
  have hown : s.vm.findClass RX5 = some m.cls := hown
  have hinX5 : ∀ w ∈ u_ws RX5 TX5 13, w ∈ wsX5_breadsOf := fun _ h9 => (List.mem_cons_of_mem _ (List.mem_append_right _ h9))
  obtain ⟨q, hq⟩ : ∃ q : Int32, q = v_X5_breadsOf M pe := ⟨_, rfl⟩
  rw [← hq]
  unfold v_X5_breadsOf at hq
  have hl : lv_has ls 4 [(0, .ref (u 0)), (1, .int (nI pe))] := hl
  refine lv_iconst (v := 0) hx hb dX5_breadsOf_0 (by decide) ?_
  refine lv_istore_n (lv' := [(2, .int 0), (0, .ref (u 0)), (1, .int (nI pe))]) hx hb dX5_breadsOf_1 rfl hl (by decide) rfl (fun ls hl => ?_)
  refine lv_iconst (v := 0) hx hb dX5_breadsOf_2 (by decide) ?_
  refine lv_istore_n (lv' := [(3, .int 0), (2, .int 0), (0, .ref (u 0)), (1, .int (nI pe))]) hx hb dX5_breadsOf_3 rfl hl (by decide) rfl (fun ls hl => ?_)
  have L4 : ∀ (n : Nat) (bits : Int32) (i : Nat), (i ≤ 8) → 8 - i < n → ∀ (ls : Array Slot), lv_has ls 4 [(0, .ref (u 0)), (1, .int (nI pe)), (2, .int bits), (3, .int (nI i))] → q = v_X5_breadsOf_4 M pe n bits i → W p l e (rmOf 4 88) s m [.ref (u 0), .int (nI pe)].toArray below meth c s.heap [] 0 0 (MQ below (zQ (.int q)) [.ref (u 0), .int (nI pe)].toArray s 0 0 (fun _ => False)) (F0 m 4 ls []) := by
    intro n
    induction n with
    | zero => intro bits i v4_0 hn; exact absurd hn (Nat.not_lt_zero _)
    | succ n ih4 =>
      intro bits i v4_0 hn4 ls hl hq
      rw [v_X5_breadsOf_4] at hq
      refine lv_iload_n hx hb dX5_breadsOf_4 rfl (lv_at hl 3 rfl) ?_
      refine lv_aload_n hx hb dX5_breadsOf_5 rfl (lv_at hl 0 rfl) ?_
      refine va_get (D := D) (ci := 5) (v := .ref (u 1)) (C := RX5) (T := TX5) (N := 13) hx hb hts hinX5 hown hK.1 hP 0 rfl rfl 0 (by decide) (hts (.fieldLink RX5 7 "SaltSharesModel" "z" "[I") (List.mem_of_getElem? (i := 1) rfl)) (fun _ h9 => h9) rfl dX5_breadsOf_6 ?_
      refine lv_iconst (v := 1) hx hb dX5_breadsOf_9 (by decide) ?_
      refine z_iald (i := 1) hx hb hK hP 1 0 rfl rfl (by omega) (by decide) dX5_breadsOf_10 ?_
      refine lv_icmp_ge (tgt := 39) hx hb dX5_breadsOf_11 (by decide) (fun c_1 => ?_) (fun c_1 => ?_)
      · have c_1 : (M 0 1) ≤ (nI i) := c_1
        have hq := hq.trans (if_pos c_1)
        refine lv_iload_n hx hb dX5_breadsOf_39 rfl (lv_at hl 2 rfl) ?_
        exact zret_i hx hb hr hlocks dX5_breadsOf_40 hq
      · have c_1 : ¬ ((M 0 1) ≤ (nI i)) := c_1
        have hq := hq.trans (if_neg c_1)
        have i8 := zlt8 (by assumption) z2 (by omega)
        refine lv_iload_n hx hb dX5_breadsOf_14 rfl (lv_at hl 2 rfl) ?_
        refine lv_aload_n hx hb dX5_breadsOf_15 rfl (lv_at hl 0 rfl) ?_
        refine lv_iload_n hx hb dX5_breadsOf_16 rfl (lv_at hl 1 rfl) ?_
        refine lv_iload_n hx hb dX5_breadsOf_17 rfl (lv_at hl 3 rfl) ?_
        refine zcV (ci := 5) (n := 2) (c_X5_eatsNow l D g u M w pe i (by omega) (by omega) z1) hx hb hml hown hts gX5_breadsOf_X5_eatsNow rfl ⟨rfl, by decide, by decide, by decide⟩ ⟨Nat.le_of_ble_eq_true rfl, Nat.le_of_ble_eq_true rfl⟩ ⟨rfl, rfl⟩ hK hP rfl rfl rfl hl.1 rfl rfl (Nat.le_of_ble_eq_true rfl) ⟨Nat.zero_le _, Nat.zero_le _⟩ dX5_breadsOf_18 ?_
        refine lv_if_le (tgt := 30) hx hb dX5_breadsOf_21 (by decide) (fun c_3 => ?_) (fun c_3 => ?_)
        · have c_3 : (v_X5_eatsNow M pe i) ≤ 0 := c_3
          have hq := hq.trans (if_pos c_3)
          refine lv_iconst (v := 0) hx hb dX5_breadsOf_30 (by decide) ?_
          refine lv_ior hx hb dX5_breadsOf_31 ?_
          refine lv_istore_n (lv' := [(2, .int (bits ||| 0)), (0, .ref (u 0)), (1, .int (nI pe)), (3, .int (nI i))]) hx hb dX5_breadsOf_32 rfl hl (by decide) rfl (fun ls hl => ?_)
          refine lv_iinc (v := (nI (i + 1))) (lv' := [(3, .int (nI (i + 1))), (2, .int (bits ||| 0)), (0, .ref (u 0)), (1, .int (nI pe))]) hx hb dX5_breadsOf_33 hl (k := 3) rfl (nI_add _ 1) (by decide) rfl (fun ls hl => ?_)
          refine lv_goto (tgt := 4) hx hb dX5_breadsOf_36 (by decide) ?_
          exact ih4 (bits ||| 0) (i + 1) (by omega) (by omega) ls (lv_sub hl [2, 3, 1, 0] rfl) hq
        · have c_3 : ¬ ((v_X5_eatsNow M pe i) ≤ 0) := c_3
          have hq := hq.trans (if_neg c_3)
          refine lv_iconst (v := 1) hx hb dX5_breadsOf_24 (by decide) ?_
          refine lv_iload_n hx hb dX5_breadsOf_25 rfl (lv_at hl 3 rfl) ?_
          refine lv_ishl hx hb dX5_breadsOf_26 ?_
          refine lv_goto (tgt := 31) hx hb dX5_breadsOf_27 (by decide) ?_
          refine lv_ior hx hb dX5_breadsOf_31 ?_
          refine lv_istore_n (lv' := [(2, .int (bits ||| ((1 : Int32) <<< ((nI i) &&& 31)))), (0, .ref (u 0)), (1, .int (nI pe)), (3, .int (nI i))]) hx hb dX5_breadsOf_32 rfl hl (by decide) rfl (fun ls hl => ?_)
          refine lv_iinc (v := (nI (i + 1))) (lv' := [(3, .int (nI (i + 1))), (2, .int (bits ||| ((1 : Int32) <<< ((nI i) &&& 31)))), (0, .ref (u 0)), (1, .int (nI pe))]) hx hb dX5_breadsOf_33 hl (k := 3) rfl (nI_add _ 1) (by decide) rfl (fun ls hl => ?_)
          refine lv_goto (tgt := 4) hx hb dX5_breadsOf_36 (by decide) ?_
          exact ih4 (bits ||| ((1 : Int32) <<< ((nI i) &&& 31))) (i + 1) (by omega) (by omega) ls (lv_sub hl [2, 3, 1, 0] rfl) hq
  exact L4 9 0 0 (by omega) (by omega) ls (lv_sub hl [2, 3, 1, 0] rfl) hq
def v_X5_changed_4 (M : Nat → Nat → Int32) (b : Nat) : Nat → Int32 → Nat → Int32
  | 0, _, _ => (0)
  | n + 1, many, i => (if 150 ≤ i then many else (if (v_X5_eatsNow M i b) ≤ 0 then (if 0 = (M 6 i) then v_X5_changed_4 M b n (many + 0) (i + 1) else v_X5_changed_4 M b n (many + 1) (i + 1)) else (if 1 = (M 6 i) then v_X5_changed_4 M b n (many + 0) (i + 1) else v_X5_changed_4 M b n (many + 1) (i + 1))))
def v_X5_changed (M : Nat → Nat → Int32) (b : Nat) : Int32 := v_X5_changed_4 M b 151 0 0
set_option maxHeartbeats 400000 in
set_option maxRecDepth 100000 in
theorem c_X5_changed (l : Launch) (D : va_G) (g : Nat → ClassId) (u : Nat → Nat) (M : Nat → Nat → Int32) (w : Int64) (b : Nat) (z0 : b < 8) (z1 : zG M) : Rd l D (zT g) yX5_changed wsX5_changed (rmOf 4 88) [.ref (u 0), .int (nI b)] (zB_X5 (g 0) u M w) (.int (v_X5_changed M b)) := by
  refine Rd.of (cc := cX5_changed) (maxL := 4) (ret := (some .int)) (by decide) rfl (Nat.le_of_ble_eq_true rfl) ?_
  intro p e s m below meth c ls hx hb hr hml hown hts hlocks hP hK hl
  have hown : s.vm.findClass RX5 = some m.cls := hown
  have hinX5 : ∀ w ∈ u_ws RX5 TX5 13, w ∈ wsX5_changed := fun _ h9 => (List.mem_cons_of_mem _ (List.mem_append_right _ h9))
  obtain ⟨q, hq⟩ : ∃ q : Int32, q = v_X5_changed M b := ⟨_, rfl⟩
  rw [← hq]
  unfold v_X5_changed at hq
  have hl : lv_has ls 4 [(0, .ref (u 0)), (1, .int (nI b))] := hl
  refine lv_iconst (v := 0) hx hb dX5_changed_0 (by decide) ?_
  refine lv_istore_n (lv' := [(2, .int 0), (0, .ref (u 0)), (1, .int (nI b))]) hx hb dX5_changed_1 rfl hl (by decide) rfl (fun ls hl => ?_)
  refine lv_iconst (v := 0) hx hb dX5_changed_2 (by decide) ?_
  refine lv_istore_n (lv' := [(3, .int 0), (2, .int 0), (0, .ref (u 0)), (1, .int (nI b))]) hx hb dX5_changed_3 rfl hl (by decide) rfl (fun ls hl => ?_)
  have L4 : ∀ (n : Nat) (many : Int32) (i : Nat), (i ≤ 150) → 150 - i < n → ∀ (ls : Array Slot), lv_has ls 4 [(0, .ref (u 0)), (1, .int (nI b)), (2, .int many), (3, .int (nI i))] → q = v_X5_changed_4 M b n many i → W p l e (rmOf 4 88) s m [.ref (u 0), .int (nI b)].toArray below meth c s.heap [] 0 0 (MQ below (zQ (.int q)) [.ref (u 0), .int (nI b)].toArray s 0 0 (fun _ => False)) (F0 m 4 ls []) := by
    intro n
    induction n with
    | zero => intro many i v4_0 hn; exact absurd hn (Nat.not_lt_zero _)
    | succ n ih4 =>
      intro many i v4_0 hn4 ls hl hq
      rw [v_X5_changed_4] at hq
      refine lv_iload_n hx hb dX5_changed_4 rfl (lv_at hl 3 rfl) ?_
      refine lv_sipush (v := 150) hx hb dX5_changed_5 (by decide) ?_
      refine lv_icmp_ge (tgt := 48) hx hb dX5_changed_8 (by decide) (fun c_1 => ?_) (fun c_1 => ?_)
      · have c_1 : 150 ≤ i := (nI_leI (a := 150) (b := i) (by omega) (by omega)).mp c_1
        have hq := hq.trans (if_pos c_1)
        refine lv_iload_n hx hb dX5_changed_48 rfl (lv_at hl 2 rfl) ?_
        exact zret_i hx hb hr hlocks dX5_changed_49 hq
      · have c_1 : ¬ (150 ≤ i) := fun h9 => c_1 ((nI_leI (a := 150) (b := i) (by omega) (by omega)).mpr h9)
        have hq := hq.trans (if_neg c_1)
        refine lv_iload_n hx hb dX5_changed_11 rfl (lv_at hl 2 rfl) ?_
        refine lv_aload_n hx hb dX5_changed_12 rfl (lv_at hl 0 rfl) ?_
        refine lv_iload_n hx hb dX5_changed_13 rfl (lv_at hl 3 rfl) ?_
        refine lv_iload_n hx hb dX5_changed_14 rfl (lv_at hl 1 rfl) ?_
        refine zcV (ci := 5) (n := 2) (c_X5_eatsNow l D g u M w i b (by omega) (by omega) z1) hx hb hml hown hts gX5_changed_X5_eatsNow rfl ⟨rfl, by decide, by decide, by decide⟩ ⟨Nat.le_of_ble_eq_true rfl, Nat.le_of_ble_eq_true rfl⟩ ⟨rfl, rfl⟩ hK hP rfl rfl rfl hl.1 rfl rfl (Nat.le_of_ble_eq_true rfl) ⟨Nat.zero_le _, Nat.zero_le _⟩ dX5_changed_15 ?_
        refine lv_if_le (tgt := 25) hx hb dX5_changed_18 (by decide) (fun c_3 => ?_) (fun c_3 => ?_)
        · have c_3 : (v_X5_eatsNow M i b) ≤ 0 := c_3
          have hq := hq.trans (if_pos c_3)
          refine lv_iconst (v := 0) hx hb dX5_changed_25 (by decide) ?_
          refine lv_aload_n hx hb dX5_changed_26 rfl (lv_at hl 0 rfl) ?_
          refine va_get (D := D) (ci := 5) (v := .ref (u 7)) (C := RX5) (T := TX5) (N := 13) hx hb hts hinX5 hown hK.1 hP 0 rfl rfl 6 (by decide) (hts (.fieldLink RX5 19 "SaltSharesModel" "ahead" "[I") (List.mem_of_getElem? (i := 1) rfl)) (fun _ h9 => h9) rfl dX5_changed_27 ?_
          refine lv_iload_n hx hb dX5_changed_30 rfl (lv_at hl 3 rfl) ?_
          refine z_iald (i := i) hx hb hK hP 4 0 rfl rfl (by omega) (by decide) dX5_changed_31 ?_
          refine lv_icmp_ne (tgt := 39) hx hb dX5_changed_32 (by decide) (fun c_4 => ?_) (fun c_4 => ?_)
          · have c_4 : ¬ (0 = (M 6 i)) := c_4
            have hq := hq.trans (if_neg c_4)
            refine lv_iconst (v := 1) hx hb dX5_changed_39 (by decide) ?_
            refine lv_iadd hx hb dX5_changed_40 ?_
            refine lv_istore_n (lv' := [(2, .int (many + 1)), (0, .ref (u 0)), (1, .int (nI b)), (3, .int (nI i))]) hx hb dX5_changed_41 rfl hl (by decide) rfl (fun ls hl => ?_)
            refine lv_iinc (v := (nI (i + 1))) (lv' := [(3, .int (nI (i + 1))), (2, .int (many + 1)), (0, .ref (u 0)), (1, .int (nI b))]) hx hb dX5_changed_42 hl (k := 3) rfl (nI_add _ 1) (by decide) rfl (fun ls hl => ?_)
            refine lv_goto (tgt := 4) hx hb dX5_changed_45 (by decide) ?_
            exact ih4 (many + 1) (i + 1) (by omega) (by omega) ls (lv_sub hl [2, 3, 1, 0] rfl) hq
          · have c_4 : 0 = (M 6 i) := c_4
            have hq := hq.trans (if_pos c_4)
            refine lv_iconst (v := 0) hx hb dX5_changed_35 (by decide) ?_
            refine lv_goto (tgt := 40) hx hb dX5_changed_36 (by decide) ?_
            refine lv_iadd hx hb dX5_changed_40 ?_
            refine lv_istore_n (lv' := [(2, .int (many + 0)), (0, .ref (u 0)), (1, .int (nI b)), (3, .int (nI i))]) hx hb dX5_changed_41 rfl hl (by decide) rfl (fun ls hl => ?_)
            refine lv_iinc (v := (nI (i + 1))) (lv' := [(3, .int (nI (i + 1))), (2, .int (many + 0)), (0, .ref (u 0)), (1, .int (nI b))]) hx hb dX5_changed_42 hl (k := 3) rfl (nI_add _ 1) (by decide) rfl (fun ls hl => ?_)
            refine lv_goto (tgt := 4) hx hb dX5_changed_45 (by decide) ?_
            exact ih4 (many + 0) (i + 1) (by omega) (by omega) ls (lv_sub hl [2, 3, 1, 0] rfl) hq
        · have c_3 : ¬ ((v_X5_eatsNow M i b) ≤ 0) := c_3
          have hq := hq.trans (if_neg c_3)
          refine lv_iconst (v := 1) hx hb dX5_changed_21 (by decide) ?_
          refine lv_goto (tgt := 26) hx hb dX5_changed_22 (by decide) ?_
          refine lv_aload_n hx hb dX5_changed_26 rfl (lv_at hl 0 rfl) ?_
          refine va_get (D := D) (ci := 5) (v := .ref (u 7)) (C := RX5) (T := TX5) (N := 13) hx hb hts hinX5 hown hK.1 hP 0 rfl rfl 6 (by decide) (hts (.fieldLink RX5 19 "SaltSharesModel" "ahead" "[I") (List.mem_of_getElem? (i := 1) rfl)) (fun _ h9 => h9) rfl dX5_changed_27 ?_
          refine lv_iload_n hx hb dX5_changed_30 rfl (lv_at hl 3 rfl) ?_
          refine z_iald (i := i) hx hb hK hP 4 0 rfl rfl (by omega) (by decide) dX5_changed_31 ?_
          refine lv_icmp_ne (tgt := 39) hx hb dX5_changed_32 (by decide) (fun c_5 => ?_) (fun c_5 => ?_)
          · have c_5 : ¬ (1 = (M 6 i)) := c_5
            have hq := hq.trans (if_neg c_5)
            refine lv_iconst (v := 1) hx hb dX5_changed_39 (by decide) ?_
            refine lv_iadd hx hb dX5_changed_40 ?_
            refine lv_istore_n (lv' := [(2, .int (many + 1)), (0, .ref (u 0)), (1, .int (nI b)), (3, .int (nI i))]) hx hb dX5_changed_41 rfl hl (by decide) rfl (fun ls hl => ?_)
            refine lv_iinc (v := (nI (i + 1))) (lv' := [(3, .int (nI (i + 1))), (2, .int (many + 1)), (0, .ref (u 0)), (1, .int (nI b))]) hx hb dX5_changed_42 hl (k := 3) rfl (nI_add _ 1) (by decide) rfl (fun ls hl => ?_)
            refine lv_goto (tgt := 4) hx hb dX5_changed_45 (by decide) ?_
            exact ih4 (many + 1) (i + 1) (by omega) (by omega) ls (lv_sub hl [2, 3, 1, 0] rfl) hq
          · have c_5 : 1 = (M 6 i) := c_5
            have hq := hq.trans (if_pos c_5)
            refine lv_iconst (v := 0) hx hb dX5_changed_35 (by decide) ?_
            refine lv_goto (tgt := 40) hx hb dX5_changed_36 (by decide) ?_
            refine lv_iadd hx hb dX5_changed_40 ?_
            refine lv_istore_n (lv' := [(2, .int (many + 0)), (0, .ref (u 0)), (1, .int (nI b)), (3, .int (nI i))]) hx hb dX5_changed_41 rfl hl (by decide) rfl (fun ls hl => ?_)
            refine lv_iinc (v := (nI (i + 1))) (lv' := [(3, .int (nI (i + 1))), (2, .int (many + 0)), (0, .ref (u 0)), (1, .int (nI b))]) hx hb dX5_changed_42 hl (k := 3) rfl (nI_add _ 1) (by decide) rfl (fun ls hl => ?_)
            refine lv_goto (tgt := 4) hx hb dX5_changed_45 (by decide) ?_
            exact ih4 (many + 0) (i + 1) (by omega) (by omega) ls (lv_sub hl [2, 3, 1, 0] rfl) hq
  exact L4 151 0 0 (by omega) (by omega) ls (lv_sub hl [2, 3, 1, 0] rfl) hq
def v_X5_personsWith_5 (M : Nat → Nat → Int32) (from1 : Nat) (b : Nat) : Nat → Int32 → Nat → Int32
  | 0, _, _ => (0)
  | n + 1, many, i => (if 150 ≤ i then many else (if (v_X5_isHeld M from1 i b) = true then v_X5_personsWith_5 M from1 b n (many + 1) (i + 1) else v_X5_personsWith_5 M from1 b n (many + 0) (i + 1)))
def v_X5_personsWith (M : Nat → Nat → Int32) (from1 : Nat) (b : Nat) : Int32 := v_X5_personsWith_5 M from1 b 151 0 0
set_option maxHeartbeats 400000 in
set_option maxRecDepth 100000 in
theorem c_X5_personsWith (l : Launch) (D : va_G) (g : Nat → ClassId) (u : Nat → Nat) (M : Nat → Nat → Int32) (w : Int64) (from1 : Nat) (b : Nat) (z0 : from1 ≤ 800) : Rd l D (zT g) yX5_personsWith wsX5_personsWith (rmOf 1 23) [.ref (u 0), .int (nI from1), .int (nI b)] (zB_X5 (g 0) u M w) (.int (v_X5_personsWith M from1 b)) := by
  refine Rd.of (cc := cX5_personsWith) (maxL := 5) (ret := (some .int)) (by decide) rfl (Nat.le_of_ble_eq_true rfl) ?_
  intro p e s m below meth c ls hx hb hr hml hown hts hlocks hP hK hl
  have hown : s.vm.findClass RX5 = some m.cls := hown
  obtain ⟨q, hq⟩ : ∃ q : Int32, q = v_X5_personsWith M from1 b := ⟨_, rfl⟩
  rw [← hq]
  unfold v_X5_personsWith at hq
  have hl : lv_has ls 5 [(0, .ref (u 0)), (1, .int (nI from1)), (2, .int (nI b))] := hl
  refine lv_iconst (v := 0) hx hb dX5_personsWith_0 (by decide) ?_
  refine lv_istore_n (lv' := [(3, .int 0), (0, .ref (u 0)), (1, .int (nI from1)), (2, .int (nI b))]) hx hb dX5_personsWith_1 rfl hl (by decide) rfl (fun ls hl => ?_)
  refine lv_iconst (v := 0) hx hb dX5_personsWith_2 (by decide) ?_
  refine lv_istore (lv' := [(4, .int 0), (3, .int 0), (0, .ref (u 0)), (1, .int (nI from1)), (2, .int (nI b))]) hx hb dX5_personsWith_3 hl (by decide) rfl (fun ls hl => ?_)
  have L5 : ∀ (n : Nat) (many : Int32) (i : Nat), (i ≤ 150) → 150 - i < n → ∀ (ls : Array Slot), lv_has ls 5 [(0, .ref (u 0)), (1, .int (nI from1)), (2, .int (nI b)), (3, .int many), (4, .int (nI i))] → q = v_X5_personsWith_5 M from1 b n many i → W p l e (rmOf 1 23) s m [.ref (u 0), .int (nI from1), .int (nI b)].toArray below meth c s.heap [] 0 0 (MQ below (zQ (.int q)) [.ref (u 0), .int (nI from1), .int (nI b)].toArray s 0 0 (fun _ => False)) (F0 m 5 ls []) := by
    intro n
    induction n with
    | zero => intro many i v5_0 hn; exact absurd hn (Nat.not_lt_zero _)
    | succ n ih5 =>
      intro many i v5_0 hn5 ls hl hq
      rw [v_X5_personsWith_5] at hq
      refine lv_iload hx hb dX5_personsWith_5 (lv_at hl 4 rfl) ?_
      refine lv_sipush (v := 150) hx hb dX5_personsWith_7 (by decide) ?_
      refine lv_icmp_ge (tgt := 38) hx hb dX5_personsWith_10 (by decide) (fun c_1 => ?_) (fun c_1 => ?_)
      · have c_1 : 150 ≤ i := (nI_leI (a := 150) (b := i) (by omega) (by omega)).mp c_1
        have hq := hq.trans (if_pos c_1)
        refine lv_iload_n hx hb dX5_personsWith_38 rfl (lv_at hl 3 rfl) ?_
        exact zret_i hx hb hr hlocks dX5_personsWith_39 hq
      · have c_1 : ¬ (150 ≤ i) := fun h9 => c_1 ((nI_leI (a := 150) (b := i) (by omega) (by omega)).mpr h9)
        have hq := hq.trans (if_neg c_1)
        refine lv_iload_n hx hb dX5_personsWith_13 rfl (lv_at hl 3 rfl) ?_
        refine lv_aload_n hx hb dX5_personsWith_14 rfl (lv_at hl 0 rfl) ?_
        refine lv_iload_n hx hb dX5_personsWith_15 rfl (lv_at hl 1 rfl) ?_
        refine lv_iload hx hb dX5_personsWith_16 (lv_at hl 4 rfl) ?_
        refine lv_iload_n hx hb dX5_personsWith_18 rfl (lv_at hl 2 rfl) ?_
        refine zcV (ci := 5) (n := 3) (c_X5_isHeld l D g u M w from1 i b (by omega)) hx hb hml hown hts gX5_personsWith_X5_isHeld rfl ⟨rfl, by decide, by decide, by decide⟩ ⟨Nat.le_of_ble_eq_true rfl, Nat.le_of_ble_eq_true rfl⟩ ⟨rfl, rfl⟩ hK hP rfl rfl rfl hl.1 rfl rfl (Nat.le_of_ble_eq_true rfl) ⟨Nat.zero_le _, Nat.zero_le _⟩ dX5_personsWith_19 ?_
        refine zif_eq (tgt := 29) hx hb dX5_personsWith_22 (by decide) (fun c_3 => ?_) (fun c_3 => ?_)
        · have hq := hq.trans (zif_f c_3)
          refine lv_iconst (v := 0) hx hb dX5_personsWith_29 (by decide) ?_
          refine lv_iadd hx hb dX5_personsWith_30 ?_
          refine lv_istore_n (lv' := [(3, .int (many + 0)), (0, .ref (u 0)), (1, .int (nI from1)), (2, .int (nI b)), (4, .int (nI i))]) hx hb dX5_personsWith_31 rfl hl (by decide) rfl (fun ls hl => ?_)
          refine lv_iinc (v := (nI (i + 1))) (lv' := [(4, .int (nI (i + 1))), (3, .int (many + 0)), (0, .ref (u 0)), (1, .int (nI from1)), (2, .int (nI b))]) hx hb dX5_personsWith_32 hl (k := 4) rfl (nI_add _ 1) (by decide) rfl (fun ls hl => ?_)
          refine lv_goto (tgt := 5) hx hb dX5_personsWith_35 (by decide) ?_
          exact ih5 (many + 0) (i + 1) (by omega) (by omega) ls (lv_sub hl [2, 3, 4, 1, 0] rfl) hq
        · have hq := hq.trans (zif_t c_3)
          refine lv_iconst (v := 1) hx hb dX5_personsWith_25 (by decide) ?_
          refine lv_goto (tgt := 30) hx hb dX5_personsWith_26 (by decide) ?_
          refine lv_iadd hx hb dX5_personsWith_30 ?_
          refine lv_istore_n (lv' := [(3, .int (many + 1)), (0, .ref (u 0)), (1, .int (nI from1)), (2, .int (nI b)), (4, .int (nI i))]) hx hb dX5_personsWith_31 rfl hl (by decide) rfl (fun ls hl => ?_)
          refine lv_iinc (v := (nI (i + 1))) (lv' := [(4, .int (nI (i + 1))), (3, .int (many + 1)), (0, .ref (u 0)), (1, .int (nI from1)), (2, .int (nI b))]) hx hb dX5_personsWith_32 hl (k := 4) rfl (nI_add _ 1) (by decide) rfl (fun ls hl => ?_)
          refine lv_goto (tgt := 5) hx hb dX5_personsWith_35 (by decide) ?_
          exact ih5 (many + 1) (i + 1) (by omega) (by omega) ls (lv_sub hl [2, 3, 4, 1, 0] rfl) hq
  exact L5 151 0 0 (by omega) (by omega) ls (lv_sub hl [2, 3, 4, 1, 0] rfl) hq
def v_X5_canRaise (M : Nat → Nat → Int32) (b : Nat) (to : Int32) : Bool := (if (v_X5_isOpen M b) = true then (if to < (v_X5_of M b 3) then false else (if (v_X5_hasRoom M b to) = true then true else false)) else false)
set_option maxHeartbeats 400000 in
set_option maxRecDepth 100000 in
theorem c_X5_canRaise (l : Launch) (D : va_G) (g : Nat → ClassId) (u : Nat → Nat) (M : Nat → Nat → Int32) (w : Int64) (b : Nat) (to : Int32) (z0 : b < 8) (z1 : zG M) : Rd l D (zT g) yX5_canRaise wsX5_canRaise (rmOf 3 65) [.ref (u 0), .int (nI b), .int to] (zB_X5 (g 0) u M w) (.int (bI (v_X5_canRaise M b to))) := by
  refine Rd.of (cc := cX5_canRaise) (maxL := 3) (ret := (some .boolean)) (by decide) rfl (Nat.le_of_ble_eq_true rfl) ?_
  intro p e s m below meth c ls hx hb hr hml hown hts hlocks hP hK hl
  have hown : s.vm.findClass RX5 = some m.cls := hown
  obtain ⟨q, hq⟩ : ∃ q : Bool, q = v_X5_canRaise M b to := ⟨_, rfl⟩
  rw [← hq]
  unfold v_X5_canRaise at hq
  have hl : lv_has ls 3 [(0, .ref (u 0)), (1, .int (nI b)), (2, .int to)] := hl
  refine lv_aload_n hx hb dX5_canRaise_0 rfl (lv_at hl 0 rfl) ?_
  refine lv_iload_n hx hb dX5_canRaise_1 rfl (lv_at hl 1 rfl) ?_
  refine zcV (ci := 5) (n := 1) (c_X5_isOpen l D g u M w b (by omega)) hx hb hml hown hts gX5_canRaise_X5_isOpen rfl ⟨rfl, by decide, by decide, by decide⟩ ⟨Nat.le_of_ble_eq_true rfl, Nat.le_of_ble_eq_true rfl⟩ ⟨rfl, rfl⟩ hK hP rfl rfl rfl hl.1 rfl rfl (Nat.le_of_ble_eq_true rfl) ⟨Nat.zero_le _, Nat.zero_le _⟩ dX5_canRaise_2 ?_
  refine zif_eq (tgt := 31) hx hb dX5_canRaise_5 (by decide) (fun c_2 => ?_) (fun c_2 => ?_)
  · have hq := hq.trans (zif_f c_2)
    refine lv_iconst (v := 0) hx hb dX5_canRaise_31 (by decide) ?_
    exact zret_z (q' := false) hx hb hr hlocks dX5_canRaise_32 hq
  · have hq := hq.trans (zif_t c_2)
    refine lv_aload_n hx hb dX5_canRaise_8 rfl (lv_at hl 0 rfl) ?_
    refine lv_iload_n hx hb dX5_canRaise_9 rfl (lv_at hl 1 rfl) ?_
    refine lv_iconst (v := 3) hx hb dX5_canRaise_10 (by decide) ?_
    refine zcV (ci := 5) (n := 2) (c_X5_of l D g u M w b 3 (by omega)) hx hb hml hown hts gX5_canRaise_X5_of rfl ⟨rfl, by decide, by decide, by decide⟩ ⟨Nat.le_of_ble_eq_true rfl, Nat.le_of_ble_eq_true rfl⟩ ⟨rfl, rfl⟩ hK hP rfl rfl rfl hl.1 rfl rfl (Nat.le_of_ble_eq_true rfl) ⟨Nat.zero_le _, Nat.zero_le _⟩ dX5_canRaise_11 ?_
    refine lv_iload_n hx hb dX5_canRaise_14 rfl (lv_at hl 2 rfl) ?_
    refine lv_icmp_gt (tgt := 31) hx hb dX5_canRaise_15 (by decide) (fun c_4 => ?_) (fun c_4 => ?_)
    · have c_4 : to < (v_X5_of M b 3) := c_4
      have hq := hq.trans (if_pos c_4)
      refine lv_iconst (v := 0) hx hb dX5_canRaise_31 (by decide) ?_
      exact zret_z (q' := false) hx hb hr hlocks dX5_canRaise_32 hq
    · have c_4 : ¬ (to < (v_X5_of M b 3)) := c_4
      have hq := hq.trans (if_neg c_4)
      refine lv_aload_n hx hb dX5_canRaise_18 rfl (lv_at hl 0 rfl) ?_
      refine lv_iload_n hx hb dX5_canRaise_19 rfl (lv_at hl 1 rfl) ?_
      refine lv_iload_n hx hb dX5_canRaise_20 rfl (lv_at hl 2 rfl) ?_
      refine zcV (ci := 5) (n := 2) (c_X5_hasRoom l D g u M w b to (by omega) z1) hx hb hml hown hts gX5_canRaise_X5_hasRoom rfl ⟨rfl, by decide, by decide, by decide⟩ ⟨Nat.le_of_ble_eq_true rfl, Nat.le_of_ble_eq_true rfl⟩ ⟨rfl, rfl⟩ hK hP rfl rfl rfl hl.1 rfl rfl (Nat.le_of_ble_eq_true rfl) ⟨Nat.zero_le _, Nat.zero_le _⟩ dX5_canRaise_21 ?_
      refine zif_eq (tgt := 31) hx hb dX5_canRaise_24 (by decide) (fun c_6 => ?_) (fun c_6 => ?_)
      · have hq := hq.trans (zif_f c_6)
        refine lv_iconst (v := 0) hx hb dX5_canRaise_31 (by decide) ?_
        exact zret_z (q' := false) hx hb hr hlocks dX5_canRaise_32 hq
      · have hq := hq.trans (zif_t c_6)
        refine lv_iconst (v := 1) hx hb dX5_canRaise_27 (by decide) ?_
        refine lv_goto (tgt := 32) hx hb dX5_canRaise_28 (by decide) ?_
        exact zret_z (q' := true) hx hb hr hlocks dX5_canRaise_32 hq
def v_X5_canLower (M : Nat → Nat → Int32) (b : Nat) (to : Int32) : Bool := (if (v_X5_isOpen M b) = true then (if (v_X5_of M b 3) < to then false else true) else false)
set_option maxHeartbeats 400000 in
set_option maxRecDepth 100000 in
theorem c_X5_canLower (l : Launch) (D : va_G) (g : Nat → ClassId) (u : Nat → Nat) (M : Nat → Nat → Int32) (w : Int64) (b : Nat) (to : Int32) (z0 : b < 8) : Rd l D (zT g) yX5_canLower wsX5_canLower (rmOf 2 43) [.ref (u 0), .int (nI b), .int to] (zB_X5 (g 0) u M w) (.int (bI (v_X5_canLower M b to))) := by
  refine Rd.of (cc := cX5_canLower) (maxL := 3) (ret := (some .boolean)) (by decide) rfl (Nat.le_of_ble_eq_true rfl) ?_
  intro p e s m below meth c ls hx hb hr hml hown hts hlocks hP hK hl
  have hown : s.vm.findClass RX5 = some m.cls := hown
  obtain ⟨q, hq⟩ : ∃ q : Bool, q = v_X5_canLower M b to := ⟨_, rfl⟩
  rw [← hq]
  unfold v_X5_canLower at hq
  have hl : lv_has ls 3 [(0, .ref (u 0)), (1, .int (nI b)), (2, .int to)] := hl
  refine lv_aload_n hx hb dX5_canLower_0 rfl (lv_at hl 0 rfl) ?_
  refine lv_iload_n hx hb dX5_canLower_1 rfl (lv_at hl 1 rfl) ?_
  refine zcV (ci := 5) (n := 1) (c_X5_isOpen l D g u M w b (by omega)) hx hb hml hown hts gX5_canLower_X5_isOpen rfl ⟨rfl, by decide, by decide, by decide⟩ ⟨Nat.le_of_ble_eq_true rfl, Nat.le_of_ble_eq_true rfl⟩ ⟨rfl, rfl⟩ hK hP rfl rfl rfl hl.1 rfl rfl (Nat.le_of_ble_eq_true rfl) ⟨Nat.zero_le _, Nat.zero_le _⟩ dX5_canLower_2 ?_
  refine zif_eq (tgt := 22) hx hb dX5_canLower_5 (by decide) (fun c_2 => ?_) (fun c_2 => ?_)
  · have hq := hq.trans (zif_f c_2)
    refine lv_iconst (v := 0) hx hb dX5_canLower_22 (by decide) ?_
    exact zret_z (q' := false) hx hb hr hlocks dX5_canLower_23 hq
  · have hq := hq.trans (zif_t c_2)
    refine lv_aload_n hx hb dX5_canLower_8 rfl (lv_at hl 0 rfl) ?_
    refine lv_iload_n hx hb dX5_canLower_9 rfl (lv_at hl 1 rfl) ?_
    refine lv_iconst (v := 3) hx hb dX5_canLower_10 (by decide) ?_
    refine zcV (ci := 5) (n := 2) (c_X5_of l D g u M w b 3 (by omega)) hx hb hml hown hts gX5_canLower_X5_of rfl ⟨rfl, by decide, by decide, by decide⟩ ⟨Nat.le_of_ble_eq_true rfl, Nat.le_of_ble_eq_true rfl⟩ ⟨rfl, rfl⟩ hK hP rfl rfl rfl hl.1 rfl rfl (Nat.le_of_ble_eq_true rfl) ⟨Nat.zero_le _, Nat.zero_le _⟩ dX5_canLower_11 ?_
    refine lv_iload_n hx hb dX5_canLower_14 rfl (lv_at hl 2 rfl) ?_
    refine lv_icmp_lt (tgt := 22) hx hb dX5_canLower_15 (by decide) (fun c_4 => ?_) (fun c_4 => ?_)
    · have c_4 : (v_X5_of M b 3) < to := c_4
      have hq := hq.trans (if_pos c_4)
      refine lv_iconst (v := 0) hx hb dX5_canLower_22 (by decide) ?_
      exact zret_z (q' := false) hx hb hr hlocks dX5_canLower_23 hq
    · have c_4 : ¬ ((v_X5_of M b 3) < to) := c_4
      have hq := hq.trans (if_neg c_4)
      refine lv_iconst (v := 1) hx hb dX5_canLower_18 (by decide) ?_
      refine lv_goto (tgt := 23) hx hb dX5_canLower_19 (by decide) ?_
      exact zret_z (q' := true) hx hb hr hlocks dX5_canLower_23 hq
def v_X5_hasOwnSalt (M : Nat → Nat → Int32) (b : Nat) : Bool := (if (v_X5_isOpen M b) = true then (if (v_X5_isOfGroup M b) = true then false else true) else false)
set_option maxHeartbeats 400000 in
set_option maxRecDepth 100000 in
theorem c_X5_hasOwnSalt (l : Launch) (D : va_G) (g : Nat → ClassId) (u : Nat → Nat) (M : Nat → Nat → Int32) (w : Int64) (b : Nat) (z0 : b < 8) : Rd l D (zT g) yX5_hasOwnSalt wsX5_hasOwnSalt (rmOf 2 43) [.ref (u 0), .int (nI b)] (zB_X5 (g 0) u M w) (.int (bI (v_X5_hasOwnSalt M b))) := by
  refine Rd.of (cc := cX5_hasOwnSalt) (maxL := 2) (ret := (some .boolean)) (by decide) rfl (Nat.le_of_ble_eq_true rfl) ?_
  intro p e s m below meth c ls hx hb hr hml hown hts hlocks hP hK hl
  have hown : s.vm.findClass RX5 = some m.cls := hown
  obtain ⟨q, hq⟩ : ∃ q : Bool, q = v_X5_hasOwnSalt M b := ⟨_, rfl⟩
  rw [← hq]
  unfold v_X5_hasOwnSalt at hq
  have hl : lv_has ls 2 [(0, .ref (u 0)), (1, .int (nI b))] := hl
  refine lv_aload_n hx hb dX5_hasOwnSalt_0 rfl (lv_at hl 0 rfl) ?_
  refine lv_iload_n hx hb dX5_hasOwnSalt_1 rfl (lv_at hl 1 rfl) ?_
  refine zcV (ci := 5) (n := 1) (c_X5_isOpen l D g u M w b (by omega)) hx hb hml hown hts gX5_hasOwnSalt_X5_isOpen rfl ⟨rfl, by decide, by decide, by decide⟩ ⟨Nat.le_of_ble_eq_true rfl, Nat.le_of_ble_eq_true rfl⟩ ⟨rfl, rfl⟩ hK hP rfl rfl rfl hl.1 rfl rfl (Nat.le_of_ble_eq_true rfl) ⟨Nat.zero_le _, Nat.zero_le _⟩ dX5_hasOwnSalt_2 ?_
  refine zif_eq (tgt := 20) hx hb dX5_hasOwnSalt_5 (by decide) (fun c_2 => ?_) (fun c_2 => ?_)
  · have hq := hq.trans (zif_f c_2)
    refine lv_iconst (v := 0) hx hb dX5_hasOwnSalt_20 (by decide) ?_
    exact zret_z (q' := false) hx hb hr hlocks dX5_hasOwnSalt_21 hq
  · have hq := hq.trans (zif_t c_2)
    refine lv_aload_n hx hb dX5_hasOwnSalt_8 rfl (lv_at hl 0 rfl) ?_
    refine lv_iload_n hx hb dX5_hasOwnSalt_9 rfl (lv_at hl 1 rfl) ?_
    refine zcV (ci := 5) (n := 1) (c_X5_isOfGroup l D g u M w b (by omega)) hx hb hml hown hts gX5_hasOwnSalt_X5_isOfGroup rfl ⟨rfl, by decide, by decide, by decide⟩ ⟨Nat.le_of_ble_eq_true rfl, Nat.le_of_ble_eq_true rfl⟩ ⟨rfl, rfl⟩ hK hP rfl rfl rfl hl.1 rfl rfl (Nat.le_of_ble_eq_true rfl) ⟨Nat.zero_le _, Nat.zero_le _⟩ dX5_hasOwnSalt_10 ?_
    refine zif_ne (tgt := 20) hx hb dX5_hasOwnSalt_13 (by decide) (fun c_4 => ?_) (fun c_4 => ?_)
    · have hq := hq.trans (zif_t c_4)
      refine lv_iconst (v := 0) hx hb dX5_hasOwnSalt_20 (by decide) ?_
      exact zret_z (q' := false) hx hb hr hlocks dX5_hasOwnSalt_21 hq
    · have hq := hq.trans (zif_f c_4)
      refine lv_iconst (v := 1) hx hb dX5_hasOwnSalt_16 (by decide) ?_
      refine lv_goto (tgt := 21) hx hb dX5_hasOwnSalt_17 (by decide) ?_
      exact zret_z (q' := true) hx hb hr hlocks dX5_hasOwnSalt_21 hq
def v_X5_isEnded (M : Nat → Nat → Int32) : Bool := (if (M 10 0) = 6 then true else (if (M 10 0) = 3 then (if (M 9 0) = (-1) then false else true) else false))
set_option maxHeartbeats 400000 in
set_option maxRecDepth 100000 in
theorem c_X5_isEnded (l : Launch) (D : va_G) (g : Nat → ClassId) (u : Nat → Nat) (M : Nat → Nat → Int32) (w : Int64) : Rd l D (zT g) yX5_isEnded wsX5_isEnded (rmOf 0 0) [.ref (u 0)] (zB_X5 (g 0) u M w) (.int (bI (v_X5_isEnded M))) := by
  refine Rd.of (cc := cX5_isEnded) (maxL := 1) (ret := (some .boolean)) (by decide) rfl (Nat.le_of_ble_eq_true rfl) ?_
  intro p e s m below meth c ls hx hb hr hml hown hts hlocks hP hK hl
  have hown : s.vm.findClass RX5 = some m.cls := hown
  have hinX5 : ∀ w ∈ u_ws RX5 TX5 13, w ∈ wsX5_isEnded := fun _ h9 => (List.mem_cons_of_mem _ (List.mem_append_right _ h9))
  obtain ⟨q, hq⟩ : ∃ q : Bool, q = v_X5_isEnded M := ⟨_, rfl⟩
  rw [← hq]
  unfold v_X5_isEnded at hq
  have hl : lv_has ls 1 [(0, .ref (u 0))] := hl
  refine lv_aload_n hx hb dX5_isEnded_0 rfl (lv_at hl 0 rfl) ?_
  refine va_get (D := D) (ci := 5) (v := .int (M 10 0)) (C := RX5) (T := TX5) (N := 13) hx hb hts hinX5 hown hK.1 hP 0 rfl rfl 10 (by decide) (hts (.fieldLink RX5 162 "SaltSharesModel" "due" "I") (List.mem_of_getElem? (i := 1) rfl)) (fun _ h9 => h9) rfl dX5_isEnded_1 ?_
  refine lv_bipush (v := 6) hx hb dX5_isEnded_4 (by decide) ?_
  refine lv_icmp_eq (tgt := 25) hx hb dX5_isEnded_6 (by decide) (fun c_1 => ?_) (fun c_1 => ?_)
  · have c_1 : (M 10 0) = 6 := c_1
    have hq := hq.trans (if_pos c_1)
    refine lv_iconst (v := 1) hx hb dX5_isEnded_25 (by decide) ?_
    refine lv_goto (tgt := 30) hx hb dX5_isEnded_26 (by decide) ?_
    exact zret_z (q' := true) hx hb hr hlocks dX5_isEnded_30 hq
  · have c_1 : ¬ ((M 10 0) = 6) := c_1
    have hq := hq.trans (if_neg c_1)
    refine lv_aload_n hx hb dX5_isEnded_9 rfl (lv_at hl 0 rfl) ?_
    refine va_get (D := D) (ci := 5) (v := .int (M 10 0)) (C := RX5) (T := TX5) (N := 13) hx hb hts hinX5 hown hK.1 hP 0 rfl rfl 10 (by decide) (hts (.fieldLink RX5 162 "SaltSharesModel" "due" "I") (List.mem_of_getElem? (i := 1) rfl)) (fun _ h9 => h9) rfl dX5_isEnded_10 ?_
    refine lv_iconst (v := 3) hx hb dX5_isEnded_13 (by decide) ?_
    refine lv_icmp_ne (tgt := 29) hx hb dX5_isEnded_14 (by decide) (fun c_2 => ?_) (fun c_2 => ?_)
    · have c_2 : ¬ ((M 10 0) = 3) := c_2
      have hq := hq.trans (if_neg c_2)
      refine lv_iconst (v := 0) hx hb dX5_isEnded_29 (by decide) ?_
      exact zret_z (q' := false) hx hb hr hlocks dX5_isEnded_30 hq
    · have c_2 : (M 10 0) = 3 := c_2
      have hq := hq.trans (if_pos c_2)
      refine lv_aload_n hx hb dX5_isEnded_17 rfl (lv_at hl 0 rfl) ?_
      refine va_get (D := D) (ci := 5) (v := .int (M 9 0)) (C := RX5) (T := TX5) (N := 13) hx hb hts hinX5 hown hK.1 hP 0 rfl rfl 9 (by decide) (hts (.fieldLink RX5 159 "SaltSharesModel" "number" "I") (List.mem_of_getElem? (i := 2) rfl)) (fun _ h9 => h9) rfl dX5_isEnded_18 ?_
      refine lv_iconst (v := (-1)) hx hb dX5_isEnded_21 (by decide) ?_
      refine lv_icmp_eq (tgt := 29) hx hb dX5_isEnded_22 (by decide) (fun c_3 => ?_) (fun c_3 => ?_)
      · have c_3 : (M 9 0) = (-1) := c_3
        have hq := hq.trans (if_pos c_3)
        refine lv_iconst (v := 0) hx hb dX5_isEnded_29 (by decide) ?_
        exact zret_z (q' := false) hx hb hr hlocks dX5_isEnded_30 hq
      · have c_3 : ¬ ((M 9 0) = (-1)) := c_3
        have hq := hq.trans (if_neg c_3)
        refine lv_iconst (v := 1) hx hb dX5_isEnded_25 (by decide) ?_
        refine lv_goto (tgt := 30) hx hb dX5_isEnded_26 (by decide) ?_
        exact zret_z (q' := true) hx hb hr hlocks dX5_isEnded_30 hq
def v_X5_lowestOf_2 (M : Nat → Nat → Int32) (b : Nat) : Nat → Nat → Int32
  | 0, _ => (0)
  | n + 1, i => (if 100 ≤ i then (if i = 100 then (-1) else (nI i)) else (if (v_X5_owns M b i) = true then (if i = 100 then (-1) else (nI i)) else v_X5_lowestOf_2 M b n (i + 1)))
def v_X5_lowestOf (M : Nat → Nat → Int32) (b : Nat) : Int32 := v_X5_lowestOf_2 M b 101 0
set_option maxHeartbeats 400000 in
set_option maxRecDepth 100000 in
theorem c_X5_lowestOf (l : Launch) (D : va_G) (g : Nat → ClassId) (u : Nat → Nat) (M : Nat → Nat → Int32) (w : Int64) (b : Nat) (z0 : b < 8) (z1 : zG M) : Rd l D (zT g) yX5_lowestOf wsX5_lowestOf (rmOf 3 65) [.ref (u 0), .int (nI b)] (zB_X5 (g 0) u M w) (.int (v_X5_lowestOf M b)) := by
  refine Rd.of (cc := cX5_lowestOf) (maxL := 3) (ret := (some .int)) (by decide) rfl (Nat.le_of_ble_eq_true rfl) ?_
  intro p e s m below meth c ls hx hb hr hml hown hts hlocks hP hK hl
  have hown : s.vm.findClass RX5 = some m.cls := hown
  obtain ⟨q, hq⟩ : ∃ q : Int32, q = v_X5_lowestOf M b := ⟨_, rfl⟩
  rw [← hq]
  unfold v_X5_lowestOf at hq
  have hl : lv_has ls 3 [(0, .ref (u 0)), (1, .int (nI b))] := hl
  refine lv_iconst (v := 0) hx hb dX5_lowestOf_0 (by decide) ?_
  refine lv_istore_n (lv' := [(2, .int 0), (0, .ref (u 0)), (1, .int (nI b))]) hx hb dX5_lowestOf_1 rfl hl (by decide) rfl (fun ls hl => ?_)
  have L2 : ∀ (n : Nat) (i : Nat), (i ≤ 100) → 100 - i < n → ∀ (ls : Array Slot), lv_has ls 3 [(0, .ref (u 0)), (1, .int (nI b)), (2, .int (nI i))] → q = v_X5_lowestOf_2 M b n i → W p l e (rmOf 3 65) s m [.ref (u 0), .int (nI b)].toArray below meth c s.heap [] 0 0 (MQ below (zQ (.int q)) [.ref (u 0), .int (nI b)].toArray s 0 0 (fun _ => False)) (F0 m 2 ls []) := by
    intro n
    induction n with
    | zero => intro i v2_0 hn; exact absurd hn (Nat.not_lt_zero _)
    | succ n ih2 =>
      intro i v2_0 hn2 ls hl hq
      rw [v_X5_lowestOf_2] at hq
      refine lv_iload_n hx hb dX5_lowestOf_2 rfl (lv_at hl 2 rfl) ?_
      refine lv_bipush (v := 100) hx hb dX5_lowestOf_3 (by decide) ?_
      refine lv_icmp_ge (tgt := 23) hx hb dX5_lowestOf_5 (by decide) (fun c_1 => ?_) (fun c_1 => ?_)
      · have c_1 : 100 ≤ i := (nI_leI (a := 100) (b := i) (by omega) (by omega)).mp c_1
        have hq := hq.trans (if_pos c_1)
        refine lv_iload_n hx hb dX5_lowestOf_23 rfl (lv_at hl 2 rfl) ?_
        refine lv_bipush (v := 100) hx hb dX5_lowestOf_24 (by decide) ?_
        refine lv_icmp_ne (tgt := 33) hx hb dX5_lowestOf_26 (by decide) (fun c_2 => ?_) (fun c_2 => ?_)
        · have c_2 : ¬ (i = 100) := fun h9 => c_2 ((nI_eq (a := i) (b := 100) (by omega) (by omega)).mpr h9)
          have hq := hq.trans (if_neg c_2)
          refine lv_iload_n hx hb dX5_lowestOf_33 rfl (lv_at hl 2 rfl) ?_
          exact zret_i hx hb hr hlocks dX5_lowestOf_34 hq
        · have c_2 : i = 100 := (nI_eq (a := i) (b := 100) (by omega) (by omega)).mp c_2
          have hq := hq.trans (if_pos c_2)
          refine lv_iconst (v := (-1)) hx hb dX5_lowestOf_29 (by decide) ?_
          refine lv_goto (tgt := 34) hx hb dX5_lowestOf_30 (by decide) ?_
          exact zret_i hx hb hr hlocks dX5_lowestOf_34 hq
      · have c_1 : ¬ (100 ≤ i) := fun h9 => c_1 ((nI_leI (a := 100) (b := i) (by omega) (by omega)).mpr h9)
        have hq := hq.trans (if_neg c_1)
        refine lv_aload_n hx hb dX5_lowestOf_8 rfl (lv_at hl 0 rfl) ?_
        refine lv_iload_n hx hb dX5_lowestOf_9 rfl (lv_at hl 1 rfl) ?_
        refine lv_iload_n hx hb dX5_lowestOf_10 rfl (lv_at hl 2 rfl) ?_
        refine zcV (ci := 5) (n := 2) (c_X5_owns l D g u M w b i (by omega) (by omega) z1) hx hb hml hown hts gX5_lowestOf_X5_owns rfl ⟨rfl, by decide, by decide, by decide⟩ ⟨Nat.le_of_ble_eq_true rfl, Nat.le_of_ble_eq_true rfl⟩ ⟨rfl, rfl⟩ hK hP rfl rfl rfl hl.1 rfl rfl (Nat.le_of_ble_eq_true rfl) ⟨Nat.zero_le _, Nat.zero_le _⟩ dX5_lowestOf_11 ?_
        refine zif_ne (tgt := 23) hx hb dX5_lowestOf_14 (by decide) (fun c_4 => ?_) (fun c_4 => ?_)
        · have hq := hq.trans (zif_t c_4)
          refine lv_iload_n hx hb dX5_lowestOf_23 rfl (lv_at hl 2 rfl) ?_
          refine lv_bipush (v := 100) hx hb dX5_lowestOf_24 (by decide) ?_
          refine lv_icmp_ne (tgt := 33) hx hb dX5_lowestOf_26 (by decide) (fun c_5 => ?_) (fun c_5 => ?_)
          · have c_5 : ¬ (i = 100) := fun h9 => c_5 ((nI_eq (a := i) (b := 100) (by omega) (by omega)).mpr h9)
            have hq := hq.trans (if_neg c_5)
            refine lv_iload_n hx hb dX5_lowestOf_33 rfl (lv_at hl 2 rfl) ?_
            exact zret_i hx hb hr hlocks dX5_lowestOf_34 hq
          · have c_5 : i = 100 := (nI_eq (a := i) (b := 100) (by omega) (by omega)).mp c_5
            have hq := hq.trans (if_pos c_5)
            refine lv_iconst (v := (-1)) hx hb dX5_lowestOf_29 (by decide) ?_
            refine lv_goto (tgt := 34) hx hb dX5_lowestOf_30 (by decide) ?_
            exact zret_i hx hb hr hlocks dX5_lowestOf_34 hq
        · have hq := hq.trans (zif_f c_4)
          refine lv_iinc (v := (nI (i + 1))) (lv' := [(2, .int (nI (i + 1))), (0, .ref (u 0)), (1, .int (nI b))]) hx hb dX5_lowestOf_17 hl (k := 2) rfl (nI_add _ 1) (by decide) rfl (fun ls hl => ?_)
          refine lv_goto (tgt := 2) hx hb dX5_lowestOf_20 (by decide) ?_
          exact ih2 (i + 1) (by omega) (by omega) ls (lv_sub hl [1, 2, 0] rfl) hq
  exact L2 101 0 (by omega) (by omega) ls (lv_sub hl [1, 2, 0] rfl) hq
def v_X5_highestOf_3 (M : Nat → Nat → Int32) (b : Nat) : Nat → Int32 → Int32
  | 0, _ => (0)
  | n + 1, i => (if i < 0 then i else (if (v_X5_owns M b (Int32.toNatClampNeg i)) = true then i else v_X5_highestOf_3 M b n (i + (-1))))
def v_X5_highestOf (M : Nat → Nat → Int32) (b : Nat) : Int32 := v_X5_highestOf_3 M b 101 99
set_option maxHeartbeats 400000 in
set_option maxRecDepth 100000 in
theorem c_X5_highestOf (l : Launch) (D : va_G) (g : Nat → ClassId) (u : Nat → Nat) (M : Nat → Nat → Int32) (w : Int64) (b : Nat) (z0 : b < 8) (z1 : zG M) : Rd l D (zT g) yX5_highestOf wsX5_highestOf (rmOf 3 65) [.ref (u 0), .int (nI b)] (zB_X5 (g 0) u M w) (.int (v_X5_highestOf M b)) := by
  refine Rd.of (cc := cX5_highestOf) (maxL := 3) (ret := (some .int)) (by decide) rfl (Nat.le_of_ble_eq_true rfl) ?_
  intro p e s m below meth c ls hx hb hr hml hown hts hlocks hP hK hl
  have hown : s.vm.findClass RX5 = some m.cls := hown
  obtain ⟨q, hq⟩ : ∃ q : Int32, q = v_X5_highestOf M b := ⟨_, rfl⟩
  rw [← hq]
  unfold v_X5_highestOf at hq
  have hl : lv_has ls 3 [(0, .ref (u 0)), (1, .int (nI b))] := hl
  refine lv_bipush (v := 99) hx hb dX5_highestOf_0 (by decide) ?_
  refine lv_istore_n (lv' := [(2, .int 99), (0, .ref (u 0)), (1, .int (nI b))]) hx hb dX5_highestOf_2 rfl hl (by decide) rfl (fun ls hl => ?_)
  have L3 : ∀ (n : Nat) (i : Int32), (-1 ≤ i.toInt) → (i.toInt < 100) → (i.toInt + 1).toNat < n → ∀ (ls : Array Slot), lv_has ls 3 [(0, .ref (u 0)), (1, .int (nI b)), (2, .int i)] → q = v_X5_highestOf_3 M b n i → W p l e (rmOf 3 65) s m [.ref (u 0), .int (nI b)].toArray below meth c s.heap [] 0 0 (MQ below (zQ (.int q)) [.ref (u 0), .int (nI b)].toArray s 0 0 (fun _ => False)) (F0 m 3 ls []) := by
    intro n
    induction n with
    | zero => intro i v3_0 v3_1 hn; exact absurd hn (Nat.not_lt_zero _)
    | succ n ih3 =>
      intro i v3_0 v3_1 hn3 ls hl hq
      rw [v_X5_highestOf_3] at hq
      refine lv_iload_n hx hb dX5_highestOf_3 rfl (lv_at hl 2 rfl) ?_
      refine lv_if_lt (tgt := 22) hx hb dX5_highestOf_4 (by decide) (fun c_1 => ?_) (fun c_1 => ?_)
      · have c_1 : i < 0 := c_1
        have hq := hq.trans (if_pos c_1)
        refine lv_iload_n hx hb dX5_highestOf_22 rfl (lv_at hl 2 rfl) ?_
        exact zret_i hx hb hr hlocks dX5_highestOf_23 hq
      · have c_1 : ¬ (i < 0) := c_1
        have hq := hq.trans (if_neg c_1)
        refine lv_aload_n hx hb dX5_highestOf_7 rfl (lv_at hl 0 rfl) ?_
        refine lv_iload_n hx hb dX5_highestOf_8 rfl (lv_at hl 1 rfl) ?_
        refine lv_iload_n hx hb dX5_highestOf_9 rfl (lv_at hl 2 rfl) ?_
        have w_2 := znat (zin_dn (by assumption) v3_1)
        have w_2b := w_2.2
        refine lv_is w_2.1 ?_
        refine zcV (ci := 5) (n := 2) (c_X5_owns l D g u M w b (Int32.toNatClampNeg i) (by omega) (by omega) z1) hx hb hml hown hts gX5_highestOf_X5_owns rfl ⟨rfl, by decide, by decide, by decide⟩ ⟨Nat.le_of_ble_eq_true rfl, Nat.le_of_ble_eq_true rfl⟩ ⟨rfl, rfl⟩ hK hP rfl rfl rfl hl.1 rfl rfl (Nat.le_of_ble_eq_true rfl) ⟨Nat.zero_le _, Nat.zero_le _⟩ dX5_highestOf_10 ?_
        refine zif_ne (tgt := 22) hx hb dX5_highestOf_13 (by decide) (fun c_4 => ?_) (fun c_4 => ?_)
        · have hq := hq.trans (zif_t c_4)
          refine lv_iload_n hx hb dX5_highestOf_22 rfl (lv_at hl 2 rfl) ?_
          exact zret_i hx hb hr hlocks dX5_highestOf_23 hq
        · have hq := hq.trans (zif_f c_4)
          refine lv_iinc (v := (i + (-1))) (lv' := [(2, .int (i + (-1))), (0, .ref (u 0)), (1, .int (nI b))]) hx hb dX5_highestOf_16 hl (k := 2) rfl rfl (by decide) rfl (fun ls hl => ?_)
          refine lv_goto (tgt := 3) hx hb dX5_highestOf_19 (by decide) ?_
          exact ih3 (i + (-1)) (by have e9 := zdec (x := i) (by assumption); omega) (by have e9 := zdec (x := i) (by assumption); omega) (by have e9 := zdec (x := i) (by assumption); omega) ls (lv_sub hl [1, 2, 0] rfl) hq
  exact L3 101 99 (by decide) (by decide) (by decide) ls (lv_sub hl [1, 2, 0] rfl) hq
def v_X5_breadNow (M : Nat → Nat → Int32) (b : Nat) (k : Nat) : Int32 := (if k = 0 then (v_X5_of M b k) else (if k = 1 then (v_X5_of M b k) else (if k = 2 then (v_X5_saltOf M b) else (if k = 3 then (v_X5_of M b k) else (if k = 4 then (v_X5_of M b k) else (if k = 5 then (v_X5_eaters M b) else (if k = 6 then (v_X5_personsWith M 653 b) else (if k = 7 then (v_X5_of M b 5) else (if k = 8 then (v_X5_personsWith M 353 b) else (if k = 9 then (v_X5_personsWith M 503 b) else (if k = 10 then (v_X5_lowestOf M b) else (v_X5_highestOf M b))))))))))))
set_option maxHeartbeats 400000 in
set_option maxRecDepth 100000 in
theorem c_X5_breadNow (l : Launch) (D : va_G) (g : Nat → ClassId) (u : Nat → Nat) (M : Nat → Nat → Int32) (w : Int64) (b : Nat) (k : Nat) (z0 : b < 8) (z1 : zG M) (z2 : k < 12) : Rd l D (zT g) yX5_breadNow wsX5_breadNow (rmOf 5 111) [.ref (u 0), .int (nI b), .int (nI k)] (zB_X5 (g 0) u M w) (.int (v_X5_breadNow M b k)) := by
  refine Rd.of (cc := cX5_breadNow) (maxL := 3) (ret := (some .int)) (by decide) rfl (Nat.le_of_ble_eq_true rfl) ?_
  intro p e s m below meth c ls hx hb hr hml hown hts hlocks hP hK hl
  have hown : s.vm.findClass RX5 = some m.cls := hown
  obtain ⟨q, hq⟩ : ∃ q : Int32, q = v_X5_breadNow M b k := ⟨_, rfl⟩
  rw [← hq]
  unfold v_X5_breadNow at hq
  have hl : lv_has ls 3 [(0, .ref (u 0)), (1, .int (nI b)), (2, .int (nI k))] := hl
  refine lv_iload_n hx hb dX5_breadNow_0 rfl (lv_at hl 2 rfl) ?_
  by_cases c_1 : k = 0
  · have hq := hq.trans (if_pos c_1)
    have c_1I : Int32.toInt (nI k) = 0 := (congrArg Int32.toInt (congrArg nI c_1 : nI k = nI 0)).trans (by decide)
    refine lv_tableIn (off := 59) (tgt := 60) hx hb dX5_breadNow_1 (by rw [c_1I]; decide) (by rw [c_1I]; decide) (by rw [c_1I]; rfl) (by decide) ?_
    refine lv_aload_n hx hb dX5_breadNow_60 rfl (lv_at hl 0 rfl) ?_
    refine lv_iload_n hx hb dX5_breadNow_61 rfl (lv_at hl 1 rfl) ?_
    refine lv_iload_n hx hb dX5_breadNow_62 rfl (lv_at hl 2 rfl) ?_
    refine zcV (ci := 5) (n := 2) (c_X5_of l D g u M w b k (by omega)) hx hb hml hown hts gX5_breadNow_X5_of rfl ⟨rfl, by decide, by decide, by decide⟩ ⟨Nat.le_of_ble_eq_true rfl, Nat.le_of_ble_eq_true rfl⟩ ⟨rfl, rfl⟩ hK hP rfl rfl rfl hl.1 rfl rfl (Nat.le_of_ble_eq_true rfl) ⟨Nat.zero_le _, Nat.zero_le _⟩ dX5_breadNow_63 ?_
    exact zret_i hx hb hr hlocks dX5_breadNow_66 hq
  · have hq := hq.trans (if_neg c_1)
    by_cases c_3 : k = 1
    · have hq := hq.trans (if_pos c_3)
      have c_3I : Int32.toInt (nI k) = 1 := (congrArg Int32.toInt (congrArg nI c_3 : nI k = nI 1)).trans (by decide)
      refine lv_tableIn (off := 59) (tgt := 60) hx hb dX5_breadNow_1 (by rw [c_3I]; decide) (by rw [c_3I]; decide) (by rw [c_3I]; rfl) (by decide) ?_
      refine lv_aload_n hx hb dX5_breadNow_60 rfl (lv_at hl 0 rfl) ?_
      refine lv_iload_n hx hb dX5_breadNow_61 rfl (lv_at hl 1 rfl) ?_
      refine lv_iload_n hx hb dX5_breadNow_62 rfl (lv_at hl 2 rfl) ?_
      refine zcV (ci := 5) (n := 2) (c_X5_of l D g u M w b k (by omega)) hx hb hml hown hts gX5_breadNow_X5_of rfl ⟨rfl, by decide, by decide, by decide⟩ ⟨Nat.le_of_ble_eq_true rfl, Nat.le_of_ble_eq_true rfl⟩ ⟨rfl, rfl⟩ hK hP rfl rfl rfl hl.1 rfl rfl (Nat.le_of_ble_eq_true rfl) ⟨Nat.zero_le _, Nat.zero_le _⟩ dX5_breadNow_63 ?_
      exact zret_i hx hb hr hlocks dX5_breadNow_66 hq
    · have hq := hq.trans (if_neg c_3)
      by_cases c_5 : k = 2
      · have hq := hq.trans (if_pos c_5)
        have c_5I : Int32.toInt (nI k) = 2 := (congrArg Int32.toInt (congrArg nI c_5 : nI k = nI 2)).trans (by decide)
        refine lv_tableIn (off := 66) (tgt := 67) hx hb dX5_breadNow_1 (by rw [c_5I]; decide) (by rw [c_5I]; decide) (by rw [c_5I]; rfl) (by decide) ?_
        refine lv_aload_n hx hb dX5_breadNow_67 rfl (lv_at hl 0 rfl) ?_
        refine lv_iload_n hx hb dX5_breadNow_68 rfl (lv_at hl 1 rfl) ?_
        refine zcV (ci := 5) (n := 1) (c_X5_saltOf l D g u M w b (by omega) z1) hx hb hml hown hts gX5_breadNow_X5_saltOf rfl ⟨rfl, by decide, by decide, by decide⟩ ⟨Nat.le_of_ble_eq_true rfl, Nat.le_of_ble_eq_true rfl⟩ ⟨rfl, rfl⟩ hK hP rfl rfl rfl hl.1 rfl rfl (Nat.le_of_ble_eq_true rfl) ⟨Nat.zero_le _, Nat.zero_le _⟩ dX5_breadNow_69 ?_
        exact zret_i hx hb hr hlocks dX5_breadNow_72 hq
      · have hq := hq.trans (if_neg c_5)
        by_cases c_7 : k = 3
        · have hq := hq.trans (if_pos c_7)
          have c_7I : Int32.toInt (nI k) = 3 := (congrArg Int32.toInt (congrArg nI c_7 : nI k = nI 3)).trans (by decide)
          refine lv_tableIn (off := 59) (tgt := 60) hx hb dX5_breadNow_1 (by rw [c_7I]; decide) (by rw [c_7I]; decide) (by rw [c_7I]; rfl) (by decide) ?_
          refine lv_aload_n hx hb dX5_breadNow_60 rfl (lv_at hl 0 rfl) ?_
          refine lv_iload_n hx hb dX5_breadNow_61 rfl (lv_at hl 1 rfl) ?_
          refine lv_iload_n hx hb dX5_breadNow_62 rfl (lv_at hl 2 rfl) ?_
          refine zcV (ci := 5) (n := 2) (c_X5_of l D g u M w b k (by omega)) hx hb hml hown hts gX5_breadNow_X5_of rfl ⟨rfl, by decide, by decide, by decide⟩ ⟨Nat.le_of_ble_eq_true rfl, Nat.le_of_ble_eq_true rfl⟩ ⟨rfl, rfl⟩ hK hP rfl rfl rfl hl.1 rfl rfl (Nat.le_of_ble_eq_true rfl) ⟨Nat.zero_le _, Nat.zero_le _⟩ dX5_breadNow_63 ?_
          exact zret_i hx hb hr hlocks dX5_breadNow_66 hq
        · have hq := hq.trans (if_neg c_7)
          by_cases c_9 : k = 4
          · have hq := hq.trans (if_pos c_9)
            have c_9I : Int32.toInt (nI k) = 4 := (congrArg Int32.toInt (congrArg nI c_9 : nI k = nI 4)).trans (by decide)
            refine lv_tableIn (off := 59) (tgt := 60) hx hb dX5_breadNow_1 (by rw [c_9I]; decide) (by rw [c_9I]; decide) (by rw [c_9I]; rfl) (by decide) ?_
            refine lv_aload_n hx hb dX5_breadNow_60 rfl (lv_at hl 0 rfl) ?_
            refine lv_iload_n hx hb dX5_breadNow_61 rfl (lv_at hl 1 rfl) ?_
            refine lv_iload_n hx hb dX5_breadNow_62 rfl (lv_at hl 2 rfl) ?_
            refine zcV (ci := 5) (n := 2) (c_X5_of l D g u M w b k (by omega)) hx hb hml hown hts gX5_breadNow_X5_of rfl ⟨rfl, by decide, by decide, by decide⟩ ⟨Nat.le_of_ble_eq_true rfl, Nat.le_of_ble_eq_true rfl⟩ ⟨rfl, rfl⟩ hK hP rfl rfl rfl hl.1 rfl rfl (Nat.le_of_ble_eq_true rfl) ⟨Nat.zero_le _, Nat.zero_le _⟩ dX5_breadNow_63 ?_
            exact zret_i hx hb hr hlocks dX5_breadNow_66 hq
          · have hq := hq.trans (if_neg c_9)
            by_cases c_11 : k = 5
            · have hq := hq.trans (if_pos c_11)
              have c_11I : Int32.toInt (nI k) = 5 := (congrArg Int32.toInt (congrArg nI c_11 : nI k = nI 5)).trans (by decide)
              refine lv_tableIn (off := 72) (tgt := 73) hx hb dX5_breadNow_1 (by rw [c_11I]; decide) (by rw [c_11I]; decide) (by rw [c_11I]; rfl) (by decide) ?_
              refine lv_aload_n hx hb dX5_breadNow_73 rfl (lv_at hl 0 rfl) ?_
              refine lv_iload_n hx hb dX5_breadNow_74 rfl (lv_at hl 1 rfl) ?_
              refine zcV (ci := 5) (n := 1) (c_X5_eaters l D g u M w b (by omega) z1) hx hb hml hown hts gX5_breadNow_X5_eaters rfl ⟨rfl, by decide, by decide, by decide⟩ ⟨Nat.le_of_ble_eq_true rfl, Nat.le_of_ble_eq_true rfl⟩ ⟨rfl, rfl⟩ hK hP rfl rfl rfl hl.1 rfl rfl (Nat.le_of_ble_eq_true rfl) ⟨Nat.zero_le _, Nat.zero_le _⟩ dX5_breadNow_75 ?_
              exact zret_i hx hb hr hlocks dX5_breadNow_78 hq
            · have hq := hq.trans (if_neg c_11)
              by_cases c_13 : k = 6
              · have hq := hq.trans (if_pos c_13)
                have c_13I : Int32.toInt (nI k) = 6 := (congrArg Int32.toInt (congrArg nI c_13 : nI k = nI 6)).trans (by decide)
                refine lv_tableIn (off := 78) (tgt := 79) hx hb dX5_breadNow_1 (by rw [c_13I]; decide) (by rw [c_13I]; decide) (by rw [c_13I]; rfl) (by decide) ?_
                refine lv_aload_n hx hb dX5_breadNow_79 rfl (lv_at hl 0 rfl) ?_
                refine lv_sipush (v := 653) hx hb dX5_breadNow_80 (by decide) ?_
                refine lv_iload_n hx hb dX5_breadNow_83 rfl (lv_at hl 1 rfl) ?_
                refine zcV (ci := 5) (n := 2) (c_X5_personsWith l D g u M w 653 b (by omega)) hx hb hml hown hts gX5_breadNow_X5_personsWith rfl ⟨rfl, by decide, by decide, by decide⟩ ⟨Nat.le_of_ble_eq_true rfl, Nat.le_of_ble_eq_true rfl⟩ ⟨rfl, rfl⟩ hK hP rfl rfl rfl hl.1 rfl rfl (Nat.le_of_ble_eq_true rfl) ⟨Nat.zero_le _, Nat.zero_le _⟩ dX5_breadNow_84 ?_
                exact zret_i hx hb hr hlocks dX5_breadNow_87 hq
              · have hq := hq.trans (if_neg c_13)
                by_cases c_15 : k = 7
                · have hq := hq.trans (if_pos c_15)
                  have c_15I : Int32.toInt (nI k) = 7 := (congrArg Int32.toInt (congrArg nI c_15 : nI k = nI 7)).trans (by decide)
                  refine lv_tableIn (off := 87) (tgt := 88) hx hb dX5_breadNow_1 (by rw [c_15I]; decide) (by rw [c_15I]; decide) (by rw [c_15I]; rfl) (by decide) ?_
                  refine lv_aload_n hx hb dX5_breadNow_88 rfl (lv_at hl 0 rfl) ?_
                  refine lv_iload_n hx hb dX5_breadNow_89 rfl (lv_at hl 1 rfl) ?_
                  refine lv_iconst (v := 5) hx hb dX5_breadNow_90 (by decide) ?_
                  refine zcV (ci := 5) (n := 2) (c_X5_of l D g u M w b 5 (by omega)) hx hb hml hown hts gX5_breadNow_X5_of rfl ⟨rfl, by decide, by decide, by decide⟩ ⟨Nat.le_of_ble_eq_true rfl, Nat.le_of_ble_eq_true rfl⟩ ⟨rfl, rfl⟩ hK hP rfl rfl rfl hl.1 rfl rfl (Nat.le_of_ble_eq_true rfl) ⟨Nat.zero_le _, Nat.zero_le _⟩ dX5_breadNow_91 ?_
                  exact zret_i hx hb hr hlocks dX5_breadNow_94 hq
                · have hq := hq.trans (if_neg c_15)
                  by_cases c_17 : k = 8
                  · have hq := hq.trans (if_pos c_17)
                    have c_17I : Int32.toInt (nI k) = 8 := (congrArg Int32.toInt (congrArg nI c_17 : nI k = nI 8)).trans (by decide)
                    refine lv_tableIn (off := 94) (tgt := 95) hx hb dX5_breadNow_1 (by rw [c_17I]; decide) (by rw [c_17I]; decide) (by rw [c_17I]; rfl) (by decide) ?_
                    refine lv_aload_n hx hb dX5_breadNow_95 rfl (lv_at hl 0 rfl) ?_
                    refine lv_sipush (v := 353) hx hb dX5_breadNow_96 (by decide) ?_
                    refine lv_iload_n hx hb dX5_breadNow_99 rfl (lv_at hl 1 rfl) ?_
                    refine zcV (ci := 5) (n := 2) (c_X5_personsWith l D g u M w 353 b (by omega)) hx hb hml hown hts gX5_breadNow_X5_personsWith rfl ⟨rfl, by decide, by decide, by decide⟩ ⟨Nat.le_of_ble_eq_true rfl, Nat.le_of_ble_eq_true rfl⟩ ⟨rfl, rfl⟩ hK hP rfl rfl rfl hl.1 rfl rfl (Nat.le_of_ble_eq_true rfl) ⟨Nat.zero_le _, Nat.zero_le _⟩ dX5_breadNow_100 ?_
                    exact zret_i hx hb hr hlocks dX5_breadNow_103 hq
                  · have hq := hq.trans (if_neg c_17)
                    by_cases c_19 : k = 9
                    · have hq := hq.trans (if_pos c_19)
                      have c_19I : Int32.toInt (nI k) = 9 := (congrArg Int32.toInt (congrArg nI c_19 : nI k = nI 9)).trans (by decide)
                      refine lv_tableIn (off := 103) (tgt := 104) hx hb dX5_breadNow_1 (by rw [c_19I]; decide) (by rw [c_19I]; decide) (by rw [c_19I]; rfl) (by decide) ?_
                      refine lv_aload_n hx hb dX5_breadNow_104 rfl (lv_at hl 0 rfl) ?_
                      refine lv_sipush (v := 503) hx hb dX5_breadNow_105 (by decide) ?_
                      refine lv_iload_n hx hb dX5_breadNow_108 rfl (lv_at hl 1 rfl) ?_
                      refine zcV (ci := 5) (n := 2) (c_X5_personsWith l D g u M w 503 b (by omega)) hx hb hml hown hts gX5_breadNow_X5_personsWith rfl ⟨rfl, by decide, by decide, by decide⟩ ⟨Nat.le_of_ble_eq_true rfl, Nat.le_of_ble_eq_true rfl⟩ ⟨rfl, rfl⟩ hK hP rfl rfl rfl hl.1 rfl rfl (Nat.le_of_ble_eq_true rfl) ⟨Nat.zero_le _, Nat.zero_le _⟩ dX5_breadNow_109 ?_
                      exact zret_i hx hb hr hlocks dX5_breadNow_112 hq
                    · have hq := hq.trans (if_neg c_19)
                      by_cases c_21 : k = 10
                      · have hq := hq.trans (if_pos c_21)
                        have c_21I : Int32.toInt (nI k) = 10 := (congrArg Int32.toInt (congrArg nI c_21 : nI k = nI 10)).trans (by decide)
                        refine lv_tableIn (off := 112) (tgt := 113) hx hb dX5_breadNow_1 (by rw [c_21I]; decide) (by rw [c_21I]; decide) (by rw [c_21I]; rfl) (by decide) ?_
                        refine lv_aload_n hx hb dX5_breadNow_113 rfl (lv_at hl 0 rfl) ?_
                        refine lv_iload_n hx hb dX5_breadNow_114 rfl (lv_at hl 1 rfl) ?_
                        refine zcV (ci := 5) (n := 1) (c_X5_lowestOf l D g u M w b (by omega) z1) hx hb hml hown hts gX5_breadNow_X5_lowestOf rfl ⟨rfl, by decide, by decide, by decide⟩ ⟨Nat.le_of_ble_eq_true rfl, Nat.le_of_ble_eq_true rfl⟩ ⟨rfl, rfl⟩ hK hP rfl rfl rfl hl.1 rfl rfl (Nat.le_of_ble_eq_true rfl) ⟨Nat.zero_le _, Nat.zero_le _⟩ dX5_breadNow_115 ?_
                        exact zret_i hx hb hr hlocks dX5_breadNow_118 hq
                      · have hq := hq.trans (if_neg c_21)
                        have c_1N : ¬ Int32.toInt (nI k) = 0 := fun h9 => c_1 (by have := nI_toInt (n := k) (by omega); omega)
                        have c_3N : ¬ Int32.toInt (nI k) = 1 := fun h9 => c_3 (by have := nI_toInt (n := k) (by omega); omega)
                        have c_5N : ¬ Int32.toInt (nI k) = 2 := fun h9 => c_5 (by have := nI_toInt (n := k) (by omega); omega)
                        have c_7N : ¬ Int32.toInt (nI k) = 3 := fun h9 => c_7 (by have := nI_toInt (n := k) (by omega); omega)
                        have c_9N : ¬ Int32.toInt (nI k) = 4 := fun h9 => c_9 (by have := nI_toInt (n := k) (by omega); omega)
                        have c_11N : ¬ Int32.toInt (nI k) = 5 := fun h9 => c_11 (by have := nI_toInt (n := k) (by omega); omega)
                        have c_13N : ¬ Int32.toInt (nI k) = 6 := fun h9 => c_13 (by have := nI_toInt (n := k) (by omega); omega)
                        have c_15N : ¬ Int32.toInt (nI k) = 7 := fun h9 => c_15 (by have := nI_toInt (n := k) (by omega); omega)
                        have c_17N : ¬ Int32.toInt (nI k) = 8 := fun h9 => c_17 (by have := nI_toInt (n := k) (by omega); omega)
                        have c_19N : ¬ Int32.toInt (nI k) = 9 := fun h9 => c_19 (by have := nI_toInt (n := k) (by omega); omega)
                        have c_21N : ¬ Int32.toInt (nI k) = 10 := fun h9 => c_21 (by have := nI_toInt (n := k) (by omega); omega)
                        refine lv_tableOut (tgt := 119) hx hb dX5_breadNow_1 (by omega) (by decide) ?_
                        refine lv_aload_n hx hb dX5_breadNow_119 rfl (lv_at hl 0 rfl) ?_
                        refine lv_iload_n hx hb dX5_breadNow_120 rfl (lv_at hl 1 rfl) ?_
                        refine zcV (ci := 5) (n := 1) (c_X5_highestOf l D g u M w b (by omega) z1) hx hb hml hown hts gX5_breadNow_X5_highestOf rfl ⟨rfl, by decide, by decide, by decide⟩ ⟨Nat.le_of_ble_eq_true rfl, Nat.le_of_ble_eq_true rfl⟩ ⟨rfl, rfl⟩ hK hP rfl rfl rfl hl.1 rfl rfl (Nat.le_of_ble_eq_true rfl) ⟨Nat.zero_le _, Nat.zero_le _⟩ dX5_breadNow_121 ?_
                        exact zret_i hx hb hr hlocks dX5_breadNow_124 hq
def v_X5_personNow (M : Nat → Nat → Int32) (pe : Nat) (k : Nat) : Int32 := (if k = 0 then (v_X5_breadsOf M pe) else (if k = 1 then (M 0 (653 + pe)) else (if k = 2 then (M 0 (353 + pe)) else (if k = 3 then (M 0 (503 + pe)) else (M 0 (803 + pe))))))
set_option maxHeartbeats 400000 in
set_option maxRecDepth 100000 in
theorem c_X5_personNow (l : Launch) (D : va_G) (g : Nat → ClassId) (u : Nat → Nat) (M : Nat → Nat → Int32) (w : Int64) (pe : Nat) (k : Nat) (z0 : pe < 150) (z1 : zG M) (z2 : vp_in (M 0 1) 9) (z3 : k < 5) : Rd l D (zT g) yX5_personNow wsX5_personNow (rmOf 5 111) [.ref (u 0), .int (nI pe), .int (nI k)] (zB_X5 (g 0) u M w) (.int (v_X5_personNow M pe k)) := by
  refine Rd.of (cc := cX5_personNow) (maxL := 3) (ret := (some .int)) (by decide) rfl (Nat.le_of_ble_eq_true rfl) ?_
  intro p e s m below meth c ls hx hb hr hml hown hts hlocks hP hK hl
  have hown : s.vm.findClass RX5 = some m.cls := hown
  have hinX5 : ∀ w ∈ u_ws RX5 TX5 13, w ∈ wsX5_personNow := fun _ h9 => (List.mem_cons_of_mem _ (List.mem_append_right _ h9))
  obtain ⟨q, hq⟩ : ∃ q : Int32, q = v_X5_personNow M pe k := ⟨_, rfl⟩
  rw [← hq]
  unfold v_X5_personNow at hq
  have hl : lv_has ls 3 [(0, .ref (u 0)), (1, .int (nI pe)), (2, .int (nI k))] := hl
  refine lv_iload_n hx hb dX5_personNow_0 rfl (lv_at hl 2 rfl) ?_
  by_cases c_1 : k = 0
  · have hq := hq.trans (if_pos c_1)
    have c_1I : Int32.toInt (nI k) = 0 := (congrArg Int32.toInt (congrArg nI c_1 : nI k = nI 0)).trans (by decide)
    refine lv_tableIn (off := 31) (tgt := 32) hx hb dX5_personNow_1 (by rw [c_1I]; decide) (by rw [c_1I]; decide) (by rw [c_1I]; rfl) (by decide) ?_
    refine lv_aload_n hx hb dX5_personNow_32 rfl (lv_at hl 0 rfl) ?_
    refine lv_iload_n hx hb dX5_personNow_33 rfl (lv_at hl 1 rfl) ?_
    refine zcV (ci := 5) (n := 1) (c_X5_breadsOf l D g u M w pe (by omega) z1 z2) hx hb hml hown hts gX5_personNow_X5_breadsOf rfl ⟨rfl, by decide, by decide, by decide⟩ ⟨Nat.le_of_ble_eq_true rfl, Nat.le_of_ble_eq_true rfl⟩ ⟨rfl, rfl⟩ hK hP rfl rfl rfl hl.1 rfl rfl (Nat.le_of_ble_eq_true rfl) ⟨Nat.zero_le _, Nat.zero_le _⟩ dX5_personNow_34 ?_
    exact zret_i hx hb hr hlocks dX5_personNow_37 hq
  · have hq := hq.trans (if_neg c_1)
    by_cases c_3 : k = 1
    · have hq := hq.trans (if_pos c_3)
      have c_3I : Int32.toInt (nI k) = 1 := (congrArg Int32.toInt (congrArg nI c_3 : nI k = nI 1)).trans (by decide)
      refine lv_tableIn (off := 37) (tgt := 38) hx hb dX5_personNow_1 (by rw [c_3I]; decide) (by rw [c_3I]; decide) (by rw [c_3I]; rfl) (by decide) ?_
      refine lv_aload_n hx hb dX5_personNow_38 rfl (lv_at hl 0 rfl) ?_
      refine va_get (D := D) (ci := 5) (v := .ref (u 1)) (C := RX5) (T := TX5) (N := 13) hx hb hts hinX5 hown hK.1 hP 0 rfl rfl 0 (by decide) (hts (.fieldLink RX5 7 "SaltSharesModel" "z" "[I") (List.mem_of_getElem? (i := 1) rfl)) (fun _ h9 => h9) rfl dX5_personNow_39 ?_
      refine lv_sipush (v := 653) hx hb dX5_personNow_42 (by decide) ?_
      refine lv_iload_n hx hb dX5_personNow_45 rfl (lv_at hl 1 rfl) ?_
      refine lv_iadd hx hb dX5_personNow_46 ?_
      refine lv_is (show (653 : Int32) + (nI pe) = (nI (653 + pe)) from nI_add 653 pe) ?_
      refine z_iald (i := 653 + pe) hx hb hK hP 1 0 rfl rfl (by omega) (by decide) dX5_personNow_47 ?_
      exact zret_i hx hb hr hlocks dX5_personNow_48 hq
    · have hq := hq.trans (if_neg c_3)
      by_cases c_4 : k = 2
      · have hq := hq.trans (if_pos c_4)
        have c_4I : Int32.toInt (nI k) = 2 := (congrArg Int32.toInt (congrArg nI c_4 : nI k = nI 2)).trans (by decide)
        refine lv_tableIn (off := 48) (tgt := 49) hx hb dX5_personNow_1 (by rw [c_4I]; decide) (by rw [c_4I]; decide) (by rw [c_4I]; rfl) (by decide) ?_
        refine lv_aload_n hx hb dX5_personNow_49 rfl (lv_at hl 0 rfl) ?_
        refine va_get (D := D) (ci := 5) (v := .ref (u 1)) (C := RX5) (T := TX5) (N := 13) hx hb hts hinX5 hown hK.1 hP 0 rfl rfl 0 (by decide) (hts (.fieldLink RX5 7 "SaltSharesModel" "z" "[I") (List.mem_of_getElem? (i := 1) rfl)) (fun _ h9 => h9) rfl dX5_personNow_50 ?_
        refine lv_sipush (v := 353) hx hb dX5_personNow_53 (by decide) ?_
        refine lv_iload_n hx hb dX5_personNow_56 rfl (lv_at hl 1 rfl) ?_
        refine lv_iadd hx hb dX5_personNow_57 ?_
        refine lv_is (show (353 : Int32) + (nI pe) = (nI (353 + pe)) from nI_add 353 pe) ?_
        refine z_iald (i := 353 + pe) hx hb hK hP 1 0 rfl rfl (by omega) (by decide) dX5_personNow_58 ?_
        exact zret_i hx hb hr hlocks dX5_personNow_59 hq
      · have hq := hq.trans (if_neg c_4)
        by_cases c_5 : k = 3
        · have hq := hq.trans (if_pos c_5)
          have c_5I : Int32.toInt (nI k) = 3 := (congrArg Int32.toInt (congrArg nI c_5 : nI k = nI 3)).trans (by decide)
          refine lv_tableIn (off := 59) (tgt := 60) hx hb dX5_personNow_1 (by rw [c_5I]; decide) (by rw [c_5I]; decide) (by rw [c_5I]; rfl) (by decide) ?_
          refine lv_aload_n hx hb dX5_personNow_60 rfl (lv_at hl 0 rfl) ?_
          refine va_get (D := D) (ci := 5) (v := .ref (u 1)) (C := RX5) (T := TX5) (N := 13) hx hb hts hinX5 hown hK.1 hP 0 rfl rfl 0 (by decide) (hts (.fieldLink RX5 7 "SaltSharesModel" "z" "[I") (List.mem_of_getElem? (i := 1) rfl)) (fun _ h9 => h9) rfl dX5_personNow_61 ?_
          refine lv_sipush (v := 503) hx hb dX5_personNow_64 (by decide) ?_
          refine lv_iload_n hx hb dX5_personNow_67 rfl (lv_at hl 1 rfl) ?_
          refine lv_iadd hx hb dX5_personNow_68 ?_
          refine lv_is (show (503 : Int32) + (nI pe) = (nI (503 + pe)) from nI_add 503 pe) ?_
          refine z_iald (i := 503 + pe) hx hb hK hP 1 0 rfl rfl (by omega) (by decide) dX5_personNow_69 ?_
          exact zret_i hx hb hr hlocks dX5_personNow_70 hq
        · have hq := hq.trans (if_neg c_5)
          have c_1N : ¬ Int32.toInt (nI k) = 0 := fun h9 => c_1 (by have := nI_toInt (n := k) (by omega); omega)
          have c_3N : ¬ Int32.toInt (nI k) = 1 := fun h9 => c_3 (by have := nI_toInt (n := k) (by omega); omega)
          have c_4N : ¬ Int32.toInt (nI k) = 2 := fun h9 => c_4 (by have := nI_toInt (n := k) (by omega); omega)
          have c_5N : ¬ Int32.toInt (nI k) = 3 := fun h9 => c_5 (by have := nI_toInt (n := k) (by omega); omega)
          refine lv_tableOut (tgt := 71) hx hb dX5_personNow_1 (by omega) (by decide) ?_
          refine lv_aload_n hx hb dX5_personNow_71 rfl (lv_at hl 0 rfl) ?_
          refine va_get (D := D) (ci := 5) (v := .ref (u 1)) (C := RX5) (T := TX5) (N := 13) hx hb hts hinX5 hown hK.1 hP 0 rfl rfl 0 (by decide) (hts (.fieldLink RX5 7 "SaltSharesModel" "z" "[I") (List.mem_of_getElem? (i := 1) rfl)) (fun _ h9 => h9) rfl dX5_personNow_72 ?_
          refine lv_sipush (v := 803) hx hb dX5_personNow_75 (by decide) ?_
          refine lv_iload_n hx hb dX5_personNow_78 rfl (lv_at hl 1 rfl) ?_
          refine lv_iadd hx hb dX5_personNow_79 ?_
          refine lv_is (show (803 : Int32) + (nI pe) = (nI (803 + pe)) from nI_add 803 pe) ?_
          refine z_iald (i := 803 + pe) hx hb hK hP 1 0 rfl rfl (by omega) (by decide) dX5_personNow_80 ?_
          exact zret_i hx hb hr hlocks dX5_personNow_81 hq
def v_X5_openBreads_4 (M : Nat → Nat → Int32) : Nat → Int32 → Nat → Int32
  | 0, _, _ => (0)
  | n + 1, many, i => (if (M 0 1) ≤ (nI i) then many else v_X5_openBreads_4 M n (many + (v_X5_of M i 0)) (i + 1))
def v_X5_openBreads (M : Nat → Nat → Int32) : Int32 := v_X5_openBreads_4 M 9 0 0
set_option maxHeartbeats 400000 in
set_option maxRecDepth 100000 in
theorem c_X5_openBreads (l : Launch) (D : va_G) (g : Nat → ClassId) (u : Nat → Nat) (M : Nat → Nat → Int32) (w : Int64) (z0 : vp_in (M 0 1) 9) : Rd l D (zT g) yX5_openBreads wsX5_openBreads (rmOf 1 22) [.ref (u 0)] (zB_X5 (g 0) u M w) (.int (v_X5_openBreads M)) := by
  refine Rd.of (cc := cX5_openBreads) (maxL := 3) (ret := (some .int)) (by decide) rfl (Nat.le_of_ble_eq_true rfl) ?_
  intro p e s m below meth c ls hx hb hr hml hown hts hlocks hP hK hl
  have hown : s.vm.findClass RX5 = some m.cls := hown
  have hinX5 : ∀ w ∈ u_ws RX5 TX5 13, w ∈ wsX5_openBreads := fun _ h9 => (List.mem_cons_of_mem _ (List.mem_append_right _ h9))
  obtain ⟨q, hq⟩ : ∃ q : Int32, q = v_X5_openBreads M := ⟨_, rfl⟩
  rw [← hq]
  unfold v_X5_openBreads at hq
  have hl : lv_has ls 3 [(0, .ref (u 0))] := hl
  refine lv_iconst (v := 0) hx hb dX5_openBreads_0 (by decide) ?_
  refine lv_istore_n (lv' := [(1, .int 0), (0, .ref (u 0))]) hx hb dX5_openBreads_1 rfl hl (by decide) rfl (fun ls hl => ?_)
  refine lv_iconst (v := 0) hx hb dX5_openBreads_2 (by decide) ?_
  refine lv_istore_n (lv' := [(2, .int 0), (1, .int 0), (0, .ref (u 0))]) hx hb dX5_openBreads_3 rfl hl (by decide) rfl (fun ls hl => ?_)
  have L4 : ∀ (n : Nat) (many : Int32) (i : Nat), (i ≤ 8) → 8 - i < n → ∀ (ls : Array Slot), lv_has ls 3 [(0, .ref (u 0)), (1, .int many), (2, .int (nI i))] → q = v_X5_openBreads_4 M n many i → W p l e (rmOf 1 22) s m [.ref (u 0)].toArray below meth c s.heap [] 0 0 (MQ below (zQ (.int q)) [.ref (u 0)].toArray s 0 0 (fun _ => False)) (F0 m 4 ls []) := by
    intro n
    induction n with
    | zero => intro many i v4_0 hn; exact absurd hn (Nat.not_lt_zero _)
    | succ n ih4 =>
      intro many i v4_0 hn4 ls hl hq
      rw [v_X5_openBreads_4] at hq
      refine lv_iload_n hx hb dX5_openBreads_4 rfl (lv_at hl 2 rfl) ?_
      refine lv_aload_n hx hb dX5_openBreads_5 rfl (lv_at hl 0 rfl) ?_
      refine va_get (D := D) (ci := 5) (v := .ref (u 1)) (C := RX5) (T := TX5) (N := 13) hx hb hts hinX5 hown hK.1 hP 0 rfl rfl 0 (by decide) (hts (.fieldLink RX5 7 "SaltSharesModel" "z" "[I") (List.mem_of_getElem? (i := 1) rfl)) (fun _ h9 => h9) rfl dX5_openBreads_6 ?_
      refine lv_iconst (v := 1) hx hb dX5_openBreads_9 (by decide) ?_
      refine z_iald (i := 1) hx hb hK hP 1 0 rfl rfl (by omega) (by decide) dX5_openBreads_10 ?_
      refine lv_icmp_ge (tgt := 29) hx hb dX5_openBreads_11 (by decide) (fun c_1 => ?_) (fun c_1 => ?_)
      · have c_1 : (M 0 1) ≤ (nI i) := c_1
        have hq := hq.trans (if_pos c_1)
        refine lv_iload_n hx hb dX5_openBreads_29 rfl (lv_at hl 1 rfl) ?_
        exact zret_i hx hb hr hlocks dX5_openBreads_30 hq
      · have c_1 : ¬ ((M 0 1) ≤ (nI i)) := c_1
        have hq := hq.trans (if_neg c_1)
        have i8 := zlt8 (by assumption) z0 (by omega)
        refine lv_iload_n hx hb dX5_openBreads_14 rfl (lv_at hl 1 rfl) ?_
        refine lv_aload_n hx hb dX5_openBreads_15 rfl (lv_at hl 0 rfl) ?_
        refine lv_iload_n hx hb dX5_openBreads_16 rfl (lv_at hl 2 rfl) ?_
        refine lv_iconst (v := 0) hx hb dX5_openBreads_17 (by decide) ?_
        refine zcV (ci := 5) (n := 2) (c_X5_of l D g u M w i 0 (by omega)) hx hb hml hown hts gX5_openBreads_X5_of rfl ⟨rfl, by decide, by decide, by decide⟩ ⟨Nat.le_of_ble_eq_true rfl, Nat.le_of_ble_eq_true rfl⟩ ⟨rfl, rfl⟩ hK hP rfl rfl rfl hl.1 rfl rfl (Nat.le_of_ble_eq_true rfl) ⟨Nat.zero_le _, Nat.zero_le _⟩ dX5_openBreads_18 ?_
        refine lv_iadd hx hb dX5_openBreads_21 ?_
        refine lv_istore_n (lv' := [(1, .int (many + (v_X5_of M i 0))), (0, .ref (u 0)), (2, .int (nI i))]) hx hb dX5_openBreads_22 rfl hl (by decide) rfl (fun ls hl => ?_)
        refine lv_iinc (v := (nI (i + 1))) (lv' := [(2, .int (nI (i + 1))), (1, .int (many + (v_X5_of M i 0))), (0, .ref (u 0))]) hx hb dX5_openBreads_23 hl (k := 2) rfl (nI_add _ 1) (by decide) rfl (fun ls hl => ?_)
        refine lv_goto (tgt := 4) hx hb dX5_openBreads_26 (by decide) ?_
        exact ih4 (many + (v_X5_of M i 0)) (i + 1) (by omega) (by omega) ls (lv_sub hl [2, 1, 0] rfl) hq
  exact L4 9 0 0 (by omega) (by omega) ls (lv_sub hl [2, 1, 0] rfl) hq
def v_X5_bothEat_5 (M : Nat → Nat → Int32) (b : Nat) (b2 : Nat) : Nat → Int32 → Nat → Int32
  | 0, _, _ => (0)
  | n + 1, many, i => (if 150 ≤ i then many else (if (v_X5_eatsNow M i b) ≤ 0 then v_X5_bothEat_5 M b b2 n (many + 0) (i + 1) else (if (v_X5_eatsNow M i b2) ≤ 0 then v_X5_bothEat_5 M b b2 n (many + 0) (i + 1) else v_X5_bothEat_5 M b b2 n (many + 1) (i + 1))))
def v_X5_bothEat (M : Nat → Nat → Int32) (b : Nat) (b2 : Nat) : Int32 := v_X5_bothEat_5 M b b2 151 0 0
set_option maxHeartbeats 400000 in
set_option maxRecDepth 100000 in
theorem c_X5_bothEat (l : Launch) (D : va_G) (g : Nat → ClassId) (u : Nat → Nat) (M : Nat → Nat → Int32) (w : Int64) (b : Nat) (b2 : Nat) (z0 : b < 8) (z1 : b2 < 8) (z2 : zG M) : Rd l D (zT g) yX5_bothEat wsX5_bothEat (rmOf 4 88) [.ref (u 0), .int (nI b), .int (nI b2)] (zB_X5 (g 0) u M w) (.int (v_X5_bothEat M b b2)) := by
  refine Rd.of (cc := cX5_bothEat) (maxL := 5) (ret := (some .int)) (by decide) rfl (Nat.le_of_ble_eq_true rfl) ?_
  intro p e s m below meth c ls hx hb hr hml hown hts hlocks hP hK hl
  have hown : s.vm.findClass RX5 = some m.cls := hown
  obtain ⟨q, hq⟩ : ∃ q : Int32, q = v_X5_bothEat M b b2 := ⟨_, rfl⟩
  rw [← hq]
  unfold v_X5_bothEat at hq
  have hl : lv_has ls 5 [(0, .ref (u 0)), (1, .int (nI b)), (2, .int (nI b2))] := hl
  refine lv_iconst (v := 0) hx hb dX5_bothEat_0 (by decide) ?_
  refine lv_istore_n (lv' := [(3, .int 0), (0, .ref (u 0)), (1, .int (nI b)), (2, .int (nI b2))]) hx hb dX5_bothEat_1 rfl hl (by decide) rfl (fun ls hl => ?_)
  refine lv_iconst (v := 0) hx hb dX5_bothEat_2 (by decide) ?_
  refine lv_istore (lv' := [(4, .int 0), (3, .int 0), (0, .ref (u 0)), (1, .int (nI b)), (2, .int (nI b2))]) hx hb dX5_bothEat_3 hl (by decide) rfl (fun ls hl => ?_)
  have L5 : ∀ (n : Nat) (many : Int32) (i : Nat), (i ≤ 150) → 150 - i < n → ∀ (ls : Array Slot), lv_has ls 5 [(0, .ref (u 0)), (1, .int (nI b)), (2, .int (nI b2)), (3, .int many), (4, .int (nI i))] → q = v_X5_bothEat_5 M b b2 n many i → W p l e (rmOf 4 88) s m [.ref (u 0), .int (nI b), .int (nI b2)].toArray below meth c s.heap [] 0 0 (MQ below (zQ (.int q)) [.ref (u 0), .int (nI b), .int (nI b2)].toArray s 0 0 (fun _ => False)) (F0 m 5 ls []) := by
    intro n
    induction n with
    | zero => intro many i v5_0 hn; exact absurd hn (Nat.not_lt_zero _)
    | succ n ih5 =>
      intro many i v5_0 hn5 ls hl hq
      rw [v_X5_bothEat_5] at hq
      refine lv_iload hx hb dX5_bothEat_5 (lv_at hl 4 rfl) ?_
      refine lv_sipush (v := 150) hx hb dX5_bothEat_7 (by decide) ?_
      refine lv_icmp_ge (tgt := 47) hx hb dX5_bothEat_10 (by decide) (fun c_1 => ?_) (fun c_1 => ?_)
      · have c_1 : 150 ≤ i := (nI_leI (a := 150) (b := i) (by omega) (by omega)).mp c_1
        have hq := hq.trans (if_pos c_1)
        refine lv_iload_n hx hb dX5_bothEat_47 rfl (lv_at hl 3 rfl) ?_
        exact zret_i hx hb hr hlocks dX5_bothEat_48 hq
      · have c_1 : ¬ (150 ≤ i) := fun h9 => c_1 ((nI_leI (a := 150) (b := i) (by omega) (by omega)).mpr h9)
        have hq := hq.trans (if_neg c_1)
        refine lv_iload_n hx hb dX5_bothEat_13 rfl (lv_at hl 3 rfl) ?_
        refine lv_aload_n hx hb dX5_bothEat_14 rfl (lv_at hl 0 rfl) ?_
        refine lv_iload hx hb dX5_bothEat_15 (lv_at hl 4 rfl) ?_
        refine lv_iload_n hx hb dX5_bothEat_17 rfl (lv_at hl 1 rfl) ?_
        refine zcV (ci := 5) (n := 2) (c_X5_eatsNow l D g u M w i b (by omega) (by omega) z2) hx hb hml hown hts gX5_bothEat_X5_eatsNow rfl ⟨rfl, by decide, by decide, by decide⟩ ⟨Nat.le_of_ble_eq_true rfl, Nat.le_of_ble_eq_true rfl⟩ ⟨rfl, rfl⟩ hK hP rfl rfl rfl hl.1 rfl rfl (Nat.le_of_ble_eq_true rfl) ⟨Nat.zero_le _, Nat.zero_le _⟩ dX5_bothEat_18 ?_
        refine lv_if_le (tgt := 38) hx hb dX5_bothEat_21 (by decide) (fun c_3 => ?_) (fun c_3 => ?_)
        · have c_3 : (v_X5_eatsNow M i b) ≤ 0 := c_3
          have hq := hq.trans (if_pos c_3)
          refine lv_iconst (v := 0) hx hb dX5_bothEat_38 (by decide) ?_
          refine lv_iadd hx hb dX5_bothEat_39 ?_
          refine lv_istore_n (lv' := [(3, .int (many + 0)), (0, .ref (u 0)), (1, .int (nI b)), (2, .int (nI b2)), (4, .int (nI i))]) hx hb dX5_bothEat_40 rfl hl (by decide) rfl (fun ls hl => ?_)
          refine lv_iinc (v := (nI (i + 1))) (lv' := [(4, .int (nI (i + 1))), (3, .int (many + 0)), (0, .ref (u 0)), (1, .int (nI b)), (2, .int (nI b2))]) hx hb dX5_bothEat_41 hl (k := 4) rfl (nI_add _ 1) (by decide) rfl (fun ls hl => ?_)
          refine lv_goto (tgt := 5) hx hb dX5_bothEat_44 (by decide) ?_
          exact ih5 (many + 0) (i + 1) (by omega) (by omega) ls (lv_sub hl [2, 3, 4, 1, 0] rfl) hq
        · have c_3 : ¬ ((v_X5_eatsNow M i b) ≤ 0) := c_3
          have hq := hq.trans (if_neg c_3)
          refine lv_aload_n hx hb dX5_bothEat_24 rfl (lv_at hl 0 rfl) ?_
          refine lv_iload hx hb dX5_bothEat_25 (lv_at hl 4 rfl) ?_
          refine lv_iload_n hx hb dX5_bothEat_27 rfl (lv_at hl 2 rfl) ?_
          refine zcV (ci := 5) (n := 2) (c_X5_eatsNow l D g u M w i b2 (by omega) (by omega) z2) hx hb hml hown hts gX5_bothEat_X5_eatsNow rfl ⟨rfl, by decide, by decide, by decide⟩ ⟨Nat.le_of_ble_eq_true rfl, Nat.le_of_ble_eq_true rfl⟩ ⟨rfl, rfl⟩ hK hP rfl rfl rfl hl.1 rfl rfl (Nat.le_of_ble_eq_true rfl) ⟨Nat.zero_le _, Nat.zero_le _⟩ dX5_bothEat_28 ?_
          refine lv_if_le (tgt := 38) hx hb dX5_bothEat_31 (by decide) (fun c_5 => ?_) (fun c_5 => ?_)
          · have c_5 : (v_X5_eatsNow M i b2) ≤ 0 := c_5
            have hq := hq.trans (if_pos c_5)
            refine lv_iconst (v := 0) hx hb dX5_bothEat_38 (by decide) ?_
            refine lv_iadd hx hb dX5_bothEat_39 ?_
            refine lv_istore_n (lv' := [(3, .int (many + 0)), (0, .ref (u 0)), (1, .int (nI b)), (2, .int (nI b2)), (4, .int (nI i))]) hx hb dX5_bothEat_40 rfl hl (by decide) rfl (fun ls hl => ?_)
            refine lv_iinc (v := (nI (i + 1))) (lv' := [(4, .int (nI (i + 1))), (3, .int (many + 0)), (0, .ref (u 0)), (1, .int (nI b)), (2, .int (nI b2))]) hx hb dX5_bothEat_41 hl (k := 4) rfl (nI_add _ 1) (by decide) rfl (fun ls hl => ?_)
            refine lv_goto (tgt := 5) hx hb dX5_bothEat_44 (by decide) ?_
            exact ih5 (many + 0) (i + 1) (by omega) (by omega) ls (lv_sub hl [2, 3, 4, 1, 0] rfl) hq
          · have c_5 : ¬ ((v_X5_eatsNow M i b2) ≤ 0) := c_5
            have hq := hq.trans (if_neg c_5)
            refine lv_iconst (v := 1) hx hb dX5_bothEat_34 (by decide) ?_
            refine lv_goto (tgt := 39) hx hb dX5_bothEat_35 (by decide) ?_
            refine lv_iadd hx hb dX5_bothEat_39 ?_
            refine lv_istore_n (lv' := [(3, .int (many + 1)), (0, .ref (u 0)), (1, .int (nI b)), (2, .int (nI b2)), (4, .int (nI i))]) hx hb dX5_bothEat_40 rfl hl (by decide) rfl (fun ls hl => ?_)
            refine lv_iinc (v := (nI (i + 1))) (lv' := [(4, .int (nI (i + 1))), (3, .int (many + 1)), (0, .ref (u 0)), (1, .int (nI b)), (2, .int (nI b2))]) hx hb dX5_bothEat_41 hl (k := 4) rfl (nI_add _ 1) (by decide) rfl (fun ls hl => ?_)
            refine lv_goto (tgt := 5) hx hb dX5_bothEat_44 (by decide) ?_
            exact ih5 (many + 1) (i + 1) (by omega) (by omega) ls (lv_sub hl [2, 3, 4, 1, 0] rfl) hq
  exact L5 151 0 0 (by omega) (by omega) ls (lv_sub hl [2, 3, 4, 1, 0] rfl) hq
def v_X5_newEater_2 (M : Nat → Nat → Int32) (b : Nat) : Nat → Nat → Int32
  | 0, _ => (0)
  | n + 1, i => (if 150 ≤ i then (-1) else (if (v_X5_eatsNow M i b) ≤ 0 then v_X5_newEater_2 M b n (i + 1) else (if (M 6 i) = 0 then (nI i) else v_X5_newEater_2 M b n (i + 1))))
def v_X5_newEater (M : Nat → Nat → Int32) (b : Nat) : Int32 := v_X5_newEater_2 M b 151 0
set_option maxHeartbeats 400000 in
set_option maxRecDepth 100000 in
theorem c_X5_newEater (l : Launch) (D : va_G) (g : Nat → ClassId) (u : Nat → Nat) (M : Nat → Nat → Int32) (w : Int64) (b : Nat) (z0 : b < 8) (z1 : zG M) : Rd l D (zT g) yX5_newEater wsX5_newEater (rmOf 4 88) [.ref (u 0), .int (nI b)] (zB_X5 (g 0) u M w) (.int (v_X5_newEater M b)) := by
  refine Rd.of (cc := cX5_newEater) (maxL := 3) (ret := (some .int)) (by decide) rfl (Nat.le_of_ble_eq_true rfl) ?_
  intro p e s m below meth c ls hx hb hr hml hown hts hlocks hP hK hl
  have hown : s.vm.findClass RX5 = some m.cls := hown
  have hinX5 : ∀ w ∈ u_ws RX5 TX5 13, w ∈ wsX5_newEater := fun _ h9 => (List.mem_cons_of_mem _ (List.mem_append_right _ h9))
  obtain ⟨q, hq⟩ : ∃ q : Int32, q = v_X5_newEater M b := ⟨_, rfl⟩
  rw [← hq]
  unfold v_X5_newEater at hq
  have hl : lv_has ls 3 [(0, .ref (u 0)), (1, .int (nI b))] := hl
  refine lv_iconst (v := 0) hx hb dX5_newEater_0 (by decide) ?_
  refine lv_istore_n (lv' := [(2, .int 0), (0, .ref (u 0)), (1, .int (nI b))]) hx hb dX5_newEater_1 rfl hl (by decide) rfl (fun ls hl => ?_)
  have L2 : ∀ (n : Nat) (i : Nat), (i ≤ 150) → 150 - i < n → ∀ (ls : Array Slot), lv_has ls 3 [(0, .ref (u 0)), (1, .int (nI b)), (2, .int (nI i))] → q = v_X5_newEater_2 M b n i → W p l e (rmOf 4 88) s m [.ref (u 0), .int (nI b)].toArray below meth c s.heap [] 0 0 (MQ below (zQ (.int q)) [.ref (u 0), .int (nI b)].toArray s 0 0 (fun _ => False)) (F0 m 2 ls []) := by
    intro n
    induction n with
    | zero => intro i v2_0 hn; exact absurd hn (Nat.not_lt_zero _)
    | succ n ih2 =>
      intro i v2_0 hn2 ls hl hq
      rw [v_X5_newEater_2] at hq
      refine lv_iload_n hx hb dX5_newEater_2 rfl (lv_at hl 2 rfl) ?_
      refine lv_sipush (v := 150) hx hb dX5_newEater_3 (by decide) ?_
      refine lv_icmp_ge (tgt := 35) hx hb dX5_newEater_6 (by decide) (fun c_1 => ?_) (fun c_1 => ?_)
      · have c_1 : 150 ≤ i := (nI_leI (a := 150) (b := i) (by omega) (by omega)).mp c_1
        have hq := hq.trans (if_pos c_1)
        refine lv_iconst (v := (-1)) hx hb dX5_newEater_35 (by decide) ?_
        exact zret_i hx hb hr hlocks dX5_newEater_36 hq
      · have c_1 : ¬ (150 ≤ i) := fun h9 => c_1 ((nI_leI (a := 150) (b := i) (by omega) (by omega)).mpr h9)
        have hq := hq.trans (if_neg c_1)
        refine lv_aload_n hx hb dX5_newEater_9 rfl (lv_at hl 0 rfl) ?_
        refine lv_iload_n hx hb dX5_newEater_10 rfl (lv_at hl 2 rfl) ?_
        refine lv_iload_n hx hb dX5_newEater_11 rfl (lv_at hl 1 rfl) ?_
        refine zcV (ci := 5) (n := 2) (c_X5_eatsNow l D g u M w i b (by omega) (by omega) z1) hx hb hml hown hts gX5_newEater_X5_eatsNow rfl ⟨rfl, by decide, by decide, by decide⟩ ⟨Nat.le_of_ble_eq_true rfl, Nat.le_of_ble_eq_true rfl⟩ ⟨rfl, rfl⟩ hK hP rfl rfl rfl hl.1 rfl rfl (Nat.le_of_ble_eq_true rfl) ⟨Nat.zero_le _, Nat.zero_le _⟩ dX5_newEater_12 ?_
        refine lv_if_le (tgt := 29) hx hb dX5_newEater_15 (by decide) (fun c_3 => ?_) (fun c_3 => ?_)
        · have c_3 : (v_X5_eatsNow M i b) ≤ 0 := c_3
          have hq := hq.trans (if_pos c_3)
          refine lv_iinc (v := (nI (i + 1))) (lv' := [(2, .int (nI (i + 1))), (0, .ref (u 0)), (1, .int (nI b))]) hx hb dX5_newEater_29 hl (k := 2) rfl (nI_add _ 1) (by decide) rfl (fun ls hl => ?_)
          refine lv_goto (tgt := 2) hx hb dX5_newEater_32 (by decide) ?_
          exact ih2 (i + 1) (by omega) (by omega) ls (lv_sub hl [1, 2, 0] rfl) hq
        · have c_3 : ¬ ((v_X5_eatsNow M i b) ≤ 0) := c_3
          have hq := hq.trans (if_neg c_3)
          refine lv_aload_n hx hb dX5_newEater_18 rfl (lv_at hl 0 rfl) ?_
          refine va_get (D := D) (ci := 5) (v := .ref (u 7)) (C := RX5) (T := TX5) (N := 13) hx hb hts hinX5 hown hK.1 hP 0 rfl rfl 6 (by decide) (hts (.fieldLink RX5 19 "SaltSharesModel" "ahead" "[I") (List.mem_of_getElem? (i := 1) rfl)) (fun _ h9 => h9) rfl dX5_newEater_19 ?_
          refine lv_iload_n hx hb dX5_newEater_22 rfl (lv_at hl 2 rfl) ?_
          refine z_iald (i := i) hx hb hK hP 4 0 rfl rfl (by omega) (by decide) dX5_newEater_23 ?_
          refine lv_if_ne (tgt := 29) hx hb dX5_newEater_24 (by decide) (fun c_4 => ?_) (fun c_4 => ?_)
          · have c_4 : ¬ ((M 6 i) = 0) := c_4
            have hq := hq.trans (if_neg c_4)
            refine lv_iinc (v := (nI (i + 1))) (lv' := [(2, .int (nI (i + 1))), (0, .ref (u 0)), (1, .int (nI b))]) hx hb dX5_newEater_29 hl (k := 2) rfl (nI_add _ 1) (by decide) rfl (fun ls hl => ?_)
            refine lv_goto (tgt := 2) hx hb dX5_newEater_32 (by decide) ?_
            exact ih2 (i + 1) (by omega) (by omega) ls (lv_sub hl [1, 2, 0] rfl) hq
          · have c_4 : (M 6 i) = 0 := c_4
            have hq := hq.trans (if_pos c_4)
            refine lv_iload_n hx hb dX5_newEater_27 rfl (lv_at hl 2 rfl) ?_
            exact zret_i hx hb hr hlocks dX5_newEater_28 hq
  exact L2 151 0 (by omega) (by omega) ls (lv_sub hl [1, 2, 0] rfl) hq
def v_X5_eatsTwo_23 (M : Nat → Nat → Int32) (pe : Nat) (gr : Nat) : Nat → Int32 → Nat → Int32 × Nat
  | 0, _, _ => (0, 0)
  | n + 1, many, i => (if (M 0 1) ≤ (nI i) then (many, i) else (if (v_X5_of M i 1) = (nI gr) then v_X5_eatsTwo_23 M pe gr n (many + (((v_X5_breadsOf M pe) >>> ((nI i) &&& 31)) &&& 1)) (i + 1) else v_X5_eatsTwo_23 M pe gr n (many + 0) (i + 1)))
def v_X5_eatsTwo_11 (M : Nat → Nat → Int32) (pe : Nat) : Nat → Bool → Nat → Bool
  | 0, _, _ => (false)
  | n + 1, two, gr => (if 3 ≤ gr then two else (if two = true then v_X5_eatsTwo_11 M pe n true (gr + 1) else (if ((v_X5_eatsTwo_23 M pe gr 9 0 0).1) ≤ 1 then v_X5_eatsTwo_11 M pe n false (gr + 1) else v_X5_eatsTwo_11 M pe n true (gr + 1))))
def v_X5_eatsTwo (M : Nat → Nat → Int32) (pe : Nat) : Bool := v_X5_eatsTwo_11 M pe 4 false 0
set_option maxHeartbeats 400000 in
set_option maxRecDepth 100000 in
theorem c_X5_eatsTwo (l : Launch) (D : va_G) (g : Nat → ClassId) (u : Nat → Nat) (M : Nat → Nat → Int32) (w : Int64) (pe : Nat) (z0 : pe < 150) (z1 : zG M) (z2 : vp_in (M 0 1) 9) : Rd l D (zT g) yX5_eatsTwo wsX5_eatsTwo (rmOf 5 111) [.ref (u 0), .int (nI pe)] (zB_X5 (g 0) u M w) (.int (bI (v_X5_eatsTwo M pe))) := by
  refine Rd.of (cc := cX5_eatsTwo) (maxL := 7) (ret := (some .boolean)) (by decide) rfl (Nat.le_of_ble_eq_true rfl) ?_
  intro p e s m below meth c ls hx hb hr hml hown hts hlocks hP hK hl
  have hown : s.vm.findClass RX5 = some m.cls := hown
  have hinX5 : ∀ w ∈ u_ws RX5 TX5 13, w ∈ wsX5_eatsTwo := fun _ h9 => (List.mem_cons_of_mem _ (List.mem_append_right _ h9))
  obtain ⟨q, hq⟩ : ∃ q : Bool, q = v_X5_eatsTwo M pe := ⟨_, rfl⟩
  rw [← hq]
  unfold v_X5_eatsTwo at hq
  have hl : lv_has ls 7 [(0, .ref (u 0)), (1, .int (nI pe))] := hl
  refine lv_aload_n hx hb dX5_eatsTwo_0 rfl (lv_at hl 0 rfl) ?_
  refine lv_iload_n hx hb dX5_eatsTwo_1 rfl (lv_at hl 1 rfl) ?_
  refine zcV (ci := 5) (n := 1) (c_X5_breadsOf l D g u M w pe (by omega) z1 z2) hx hb hml hown hts gX5_eatsTwo_X5_breadsOf rfl ⟨rfl, by decide, by decide, by decide⟩ ⟨Nat.le_of_ble_eq_true rfl, Nat.le_of_ble_eq_true rfl⟩ ⟨rfl, rfl⟩ hK hP rfl rfl rfl hl.1 rfl rfl (Nat.le_of_ble_eq_true rfl) ⟨Nat.zero_le _, Nat.zero_le _⟩ dX5_eatsTwo_2 ?_
  refine lv_istore_n (lv' := [(2, .int (v_X5_breadsOf M pe)), (0, .ref (u 0)), (1, .int (nI pe))]) hx hb dX5_eatsTwo_5 rfl hl (by decide) rfl (fun ls hl => ?_)
  refine lv_iconst (v := 0) hx hb dX5_eatsTwo_6 (by decide) ?_
  refine lv_istore_n (lv' := [(3, .int 0), (2, .int (v_X5_breadsOf M pe)), (0, .ref (u 0)), (1, .int (nI pe))]) hx hb dX5_eatsTwo_7 rfl hl (by decide) rfl (fun ls hl => ?_)
  refine lv_iconst (v := 0) hx hb dX5_eatsTwo_8 (by decide) ?_
  refine lv_istore (lv' := [(4, .int 0), (3, .int 0), (2, .int (v_X5_breadsOf M pe)), (0, .ref (u 0)), (1, .int (nI pe))]) hx hb dX5_eatsTwo_9 hl (by decide) rfl (fun ls hl => ?_)
  have L11 : ∀ (n : Nat) (two : Bool) (gr : Nat), (gr ≤ 3) → 3 - gr < n → ∀ (ls : Array Slot), lv_has ls 7 [(0, .ref (u 0)), (1, .int (nI pe)), (2, .int (v_X5_breadsOf M pe)), (3, .int (bI two)), (4, .int (nI gr))] → q = v_X5_eatsTwo_11 M pe n two gr → W p l e (rmOf 5 111) s m [.ref (u 0), .int (nI pe)].toArray below meth c s.heap [] 0 0 (MQ below (zQ (.int (bI q))) [.ref (u 0), .int (nI pe)].toArray s 0 0 (fun _ => False)) (F0 m 11 ls []) := by
    intro n
    induction n with
    | zero => intro two gr v11_0 hn; exact absurd hn (Nat.not_lt_zero _)
    | succ n ih11 =>
      intro two gr v11_0 hn11 ls hl hq
      rw [v_X5_eatsTwo_11] at hq
      refine lv_iload hx hb dX5_eatsTwo_11 (lv_at hl 4 rfl) ?_
      refine lv_iconst (v := 3) hx hb dX5_eatsTwo_13 (by decide) ?_
      refine lv_icmp_ge (tgt := 89) hx hb dX5_eatsTwo_14 (by decide) (fun c_2 => ?_) (fun c_2 => ?_)
      · have c_2 : 3 ≤ gr := (nI_leI (a := 3) (b := gr) (by omega) (by omega)).mp c_2
        have hq := hq.trans (if_pos c_2)
        refine lv_iload_n hx hb dX5_eatsTwo_89 rfl (lv_at hl 3 rfl) ?_
        exact zret_z (q' := two) hx hb hr hlocks dX5_eatsTwo_90 hq
      · have c_2 : ¬ (3 ≤ gr) := fun h9 => c_2 ((nI_leI (a := 3) (b := gr) (by omega) (by omega)).mpr h9)
        have hq := hq.trans (if_neg c_2)
        refine lv_iconst (v := 0) hx hb dX5_eatsTwo_17 (by decide) ?_
        refine lv_istore (lv' := [(5, .int 0), (0, .ref (u 0)), (1, .int (nI pe)), (2, .int (v_X5_breadsOf M pe)), (3, .int (bI two)), (4, .int (nI gr))]) hx hb dX5_eatsTwo_18 hl (by decide) rfl (fun ls hl => ?_)
        refine lv_iconst (v := 0) hx hb dX5_eatsTwo_20 (by decide) ?_
        refine lv_istore (lv' := [(6, .int 0), (5, .int 0), (0, .ref (u 0)), (1, .int (nI pe)), (2, .int (v_X5_breadsOf M pe)), (3, .int (bI two)), (4, .int (nI gr))]) hx hb dX5_eatsTwo_21 hl (by decide) rfl (fun ls hl => ?_)
        have L23 : ∀ (n : Nat) (many : Int32) (i : Nat), (i ≤ 8) → 8 - i < n → ∀ (ls : Array Slot), lv_has ls 7 [(0, .ref (u 0)), (1, .int (nI pe)), (2, .int (v_X5_breadsOf M pe)), (3, .int (bI two)), (4, .int (nI gr)), (5, .int many), (6, .int (nI i))] → ∀ (r23 : Int32 × Nat), r23 = v_X5_eatsTwo_23 M pe gr n many i → (∀ (ls : Array Slot), lv_has ls 7 [(0, .ref (u 0)), (1, .int (nI pe)), (2, .int (v_X5_breadsOf M pe)), (3, .int (bI two)), (4, .int (nI gr)), (5, .int r23.1), (6, .int (nI r23.2))] → W p l e (rmOf 5 111) s m [.ref (u 0), .int (nI pe)].toArray below meth c s.heap [] 0 0 (MQ below (zQ (.int (bI q))) [.ref (u 0), .int (nI pe)].toArray s 0 0 (fun _ => False)) (F0 m 67 ls [])) → W p l e (rmOf 5 111) s m [.ref (u 0), .int (nI pe)].toArray below meth c s.heap [] 0 0 (MQ below (zQ (.int (bI q))) [.ref (u 0), .int (nI pe)].toArray s 0 0 (fun _ => False)) (F0 m 23 ls []) := by
          intro n
          induction n with
          | zero => intro many i v23_0 hn; exact absurd hn (Nat.not_lt_zero _)
          | succ n ih23 =>
            intro many i v23_0 hn23 ls hl r23 hq kk23
            rw [v_X5_eatsTwo_23] at hq
            refine lv_iload hx hb dX5_eatsTwo_23 (lv_at hl 6 rfl) ?_
            refine lv_aload_n hx hb dX5_eatsTwo_25 rfl (lv_at hl 0 rfl) ?_
            refine va_get (D := D) (ci := 5) (v := .ref (u 1)) (C := RX5) (T := TX5) (N := 13) hx hb hts hinX5 hown hK.1 hP 0 rfl rfl 0 (by decide) (hts (.fieldLink RX5 7 "SaltSharesModel" "z" "[I") (List.mem_of_getElem? (i := 1) rfl)) (fun _ h9 => h9) rfl dX5_eatsTwo_26 ?_
            refine lv_iconst (v := 1) hx hb dX5_eatsTwo_29 (by decide) ?_
            refine z_iald (i := 1) hx hb hK hP 1 0 rfl rfl (by omega) (by decide) dX5_eatsTwo_30 ?_
            refine lv_icmp_ge (tgt := 67) hx hb dX5_eatsTwo_31 (by decide) (fun c_3 => ?_) (fun c_3 => ?_)
            · have c_3 : (M 0 1) ≤ (nI i) := c_3
              have hq := hq.trans (if_pos c_3)
              subst hq
              exact kk23 ls (lv_sub hl [0, 1, 2, 3, 4, 5, 6] rfl)
            · have c_3 : ¬ ((M 0 1) ≤ (nI i)) := c_3
              have hq := hq.trans (if_neg c_3)
              have i8 := zlt8 (by assumption) z2 (by omega)
              refine lv_iload hx hb dX5_eatsTwo_34 (lv_at hl 5 rfl) ?_
              refine lv_aload_n hx hb dX5_eatsTwo_36 rfl (lv_at hl 0 rfl) ?_
              refine lv_iload hx hb dX5_eatsTwo_37 (lv_at hl 6 rfl) ?_
              refine lv_iconst (v := 1) hx hb dX5_eatsTwo_39 (by decide) ?_
              refine zcV (ci := 5) (n := 2) (c_X5_of l D g u M w i 1 (by omega)) hx hb hml hown hts gX5_eatsTwo_X5_of rfl ⟨rfl, by decide, by decide, by decide⟩ ⟨Nat.le_of_ble_eq_true rfl, Nat.le_of_ble_eq_true rfl⟩ ⟨rfl, rfl⟩ hK hP rfl rfl rfl hl.1 rfl rfl (Nat.le_of_ble_eq_true rfl) ⟨Nat.zero_le _, Nat.zero_le _⟩ dX5_eatsTwo_40 ?_
              refine lv_iload hx hb dX5_eatsTwo_43 (lv_at hl 4 rfl) ?_
              refine lv_icmp_ne (tgt := 57) hx hb dX5_eatsTwo_45 (by decide) (fun c_5 => ?_) (fun c_5 => ?_)
              · have c_5 : ¬ ((v_X5_of M i 1) = (nI gr)) := c_5
                have hq := hq.trans (if_neg c_5)
                refine lv_iconst (v := 0) hx hb dX5_eatsTwo_57 (by decide) ?_
                refine lv_iadd hx hb dX5_eatsTwo_58 ?_
                refine lv_istore (lv' := [(5, .int (many + 0)), (0, .ref (u 0)), (1, .int (nI pe)), (2, .int (v_X5_breadsOf M pe)), (3, .int (bI two)), (4, .int (nI gr)), (6, .int (nI i))]) hx hb dX5_eatsTwo_59 hl (by decide) rfl (fun ls hl => ?_)
                refine lv_iinc (v := (nI (i + 1))) (lv' := [(6, .int (nI (i + 1))), (5, .int (many + 0)), (0, .ref (u 0)), (1, .int (nI pe)), (2, .int (v_X5_breadsOf M pe)), (3, .int (bI two)), (4, .int (nI gr))]) hx hb dX5_eatsTwo_61 hl (k := 6) rfl (nI_add _ 1) (by decide) rfl (fun ls hl => ?_)
                refine lv_goto (tgt := 23) hx hb dX5_eatsTwo_64 (by decide) ?_
                exact ih23 (many + 0) (i + 1) (by omega) (by omega) ls (lv_sub hl [2, 3, 4, 5, 6, 1, 0] rfl) _ hq kk23
              · have c_5 : (v_X5_of M i 1) = (nI gr) := c_5
                have hq := hq.trans (if_pos c_5)
                refine lv_iload_n hx hb dX5_eatsTwo_48 rfl (lv_at hl 2 rfl) ?_
                refine lv_iload hx hb dX5_eatsTwo_49 (lv_at hl 6 rfl) ?_
                refine lv_ishr hx hb dX5_eatsTwo_51 ?_
                refine lv_iconst (v := 1) hx hb dX5_eatsTwo_52 (by decide) ?_
                refine lv_iand hx hb dX5_eatsTwo_53 ?_
                refine lv_goto (tgt := 58) hx hb dX5_eatsTwo_54 (by decide) ?_
                refine lv_iadd hx hb dX5_eatsTwo_58 ?_
                refine lv_istore (lv' := [(5, .int (many + (((v_X5_breadsOf M pe) >>> ((nI i) &&& 31)) &&& 1))), (0, .ref (u 0)), (1, .int (nI pe)), (2, .int (v_X5_breadsOf M pe)), (3, .int (bI two)), (4, .int (nI gr)), (6, .int (nI i))]) hx hb dX5_eatsTwo_59 hl (by decide) rfl (fun ls hl => ?_)
                refine lv_iinc (v := (nI (i + 1))) (lv' := [(6, .int (nI (i + 1))), (5, .int (many + (((v_X5_breadsOf M pe) >>> ((nI i) &&& 31)) &&& 1))), (0, .ref (u 0)), (1, .int (nI pe)), (2, .int (v_X5_breadsOf M pe)), (3, .int (bI two)), (4, .int (nI gr))]) hx hb dX5_eatsTwo_61 hl (k := 6) rfl (nI_add _ 1) (by decide) rfl (fun ls hl => ?_)
                refine lv_goto (tgt := 23) hx hb dX5_eatsTwo_64 (by decide) ?_
                exact ih23 (many + (((v_X5_breadsOf M pe) >>> ((nI i) &&& 31)) &&& 1)) (i + 1) (by omega) (by omega) ls (lv_sub hl [2, 3, 4, 5, 6, 1, 0] rfl) _ hq kk23
        refine L23 9 0 0 (by omega) (by omega) ls (lv_sub hl [2, 3, 4, 5, 6, 1, 0] rfl) _ rfl (fun ls hl => ?_)
        refine lv_iload_n hx hb dX5_eatsTwo_67 rfl (lv_at hl 3 rfl) ?_
        refine zif_ne (tgt := 77) hx hb dX5_eatsTwo_68 (by decide) (fun c_6 => ?_) (fun c_6 => ?_)
        · have hq := hq.trans (zif_t c_6)
          refine lv_iconst (v := 1) hx hb dX5_eatsTwo_77 (by decide) ?_
          refine lv_goto (tgt := 82) hx hb dX5_eatsTwo_78 (by decide) ?_
          refine lv_is (show (1 : Int32) = bI true from rfl) ?_
          refine lv_istore_n (lv' := [(3, .int (bI true)), (0, .ref (u 0)), (1, .int (nI pe)), (2, .int (v_X5_breadsOf M pe)), (4, .int (nI gr)), (5, .int ((v_X5_eatsTwo_23 M pe gr 9 0 0).1)), (6, .int (nI ((v_X5_eatsTwo_23 M pe gr 9 0 0).2)))]) hx hb dX5_eatsTwo_82 rfl hl (by decide) rfl (fun ls hl => ?_)
          refine lv_iinc (v := (nI (gr + 1))) (lv' := [(4, .int (nI (gr + 1))), (3, .int (bI true)), (0, .ref (u 0)), (1, .int (nI pe)), (2, .int (v_X5_breadsOf M pe)), (5, .int ((v_X5_eatsTwo_23 M pe gr 9 0 0).1)), (6, .int (nI ((v_X5_eatsTwo_23 M pe gr 9 0 0).2)))]) hx hb dX5_eatsTwo_83 hl (k := 4) rfl (nI_add _ 1) (by decide) rfl (fun ls hl => ?_)
          refine lv_goto (tgt := 11) hx hb dX5_eatsTwo_86 (by decide) ?_
          exact ih11 true (gr + 1) (by omega) (by omega) ls (lv_sub hl [2, 3, 4, 1, 0] rfl) hq
        · have hq := hq.trans (zif_f c_6)
          refine lv_iload hx hb dX5_eatsTwo_71 (lv_at hl 5 rfl) ?_
          refine lv_iconst (v := 1) hx hb dX5_eatsTwo_73 (by decide) ?_
          refine lv_icmp_le (tgt := 81) hx hb dX5_eatsTwo_74 (by decide) (fun c_7 => ?_) (fun c_7 => ?_)
          · have c_7 : ((v_X5_eatsTwo_23 M pe gr 9 0 0).1) ≤ 1 := c_7
            have hq := hq.trans (if_pos c_7)
            refine lv_iconst (v := 0) hx hb dX5_eatsTwo_81 (by decide) ?_
            refine lv_is (show (0 : Int32) = bI false from rfl) ?_
            refine lv_istore_n (lv' := [(3, .int (bI false)), (0, .ref (u 0)), (1, .int (nI pe)), (2, .int (v_X5_breadsOf M pe)), (4, .int (nI gr)), (5, .int ((v_X5_eatsTwo_23 M pe gr 9 0 0).1)), (6, .int (nI ((v_X5_eatsTwo_23 M pe gr 9 0 0).2)))]) hx hb dX5_eatsTwo_82 rfl hl (by decide) rfl (fun ls hl => ?_)
            refine lv_iinc (v := (nI (gr + 1))) (lv' := [(4, .int (nI (gr + 1))), (3, .int (bI false)), (0, .ref (u 0)), (1, .int (nI pe)), (2, .int (v_X5_breadsOf M pe)), (5, .int ((v_X5_eatsTwo_23 M pe gr 9 0 0).1)), (6, .int (nI ((v_X5_eatsTwo_23 M pe gr 9 0 0).2)))]) hx hb dX5_eatsTwo_83 hl (k := 4) rfl (nI_add _ 1) (by decide) rfl (fun ls hl => ?_)
            refine lv_goto (tgt := 11) hx hb dX5_eatsTwo_86 (by decide) ?_
            exact ih11 false (gr + 1) (by omega) (by omega) ls (lv_sub hl [2, 3, 4, 1, 0] rfl) hq
          · have c_7 : ¬ (((v_X5_eatsTwo_23 M pe gr 9 0 0).1) ≤ 1) := c_7
            have hq := hq.trans (if_neg c_7)
            refine lv_iconst (v := 1) hx hb dX5_eatsTwo_77 (by decide) ?_
            refine lv_goto (tgt := 82) hx hb dX5_eatsTwo_78 (by decide) ?_
            refine lv_is (show (1 : Int32) = bI true from rfl) ?_
            refine lv_istore_n (lv' := [(3, .int (bI true)), (0, .ref (u 0)), (1, .int (nI pe)), (2, .int (v_X5_breadsOf M pe)), (4, .int (nI gr)), (5, .int ((v_X5_eatsTwo_23 M pe gr 9 0 0).1)), (6, .int (nI ((v_X5_eatsTwo_23 M pe gr 9 0 0).2)))]) hx hb dX5_eatsTwo_82 rfl hl (by decide) rfl (fun ls hl => ?_)
            refine lv_iinc (v := (nI (gr + 1))) (lv' := [(4, .int (nI (gr + 1))), (3, .int (bI true)), (0, .ref (u 0)), (1, .int (nI pe)), (2, .int (v_X5_breadsOf M pe)), (5, .int ((v_X5_eatsTwo_23 M pe gr 9 0 0).1)), (6, .int (nI ((v_X5_eatsTwo_23 M pe gr 9 0 0).2)))]) hx hb dX5_eatsTwo_83 hl (k := 4) rfl (nI_add _ 1) (by decide) rfl (fun ls hl => ?_)
            refine lv_goto (tgt := 11) hx hb dX5_eatsTwo_86 (by decide) ?_
            exact ih11 true (gr + 1) (by omega) (by omega) ls (lv_sub hl [2, 3, 4, 1, 0] rfl) hq
  exact L11 4 false 0 (by omega) (by omega) ls (lv_sub hl [3, 4, 2, 1, 0] rfl) hq
def v_X5_sumOf_4 (M : Nat → Nat → Int32) (k : Nat) : Nat → Int32 → Nat → Int32
  | 0, _, _ => (0)
  | n + 1, sm, i => (if 150 ≤ i then sm else (if k = 4 then (if (v_X5_breadsOf M i) ≤ 0 then (if k = 3 then v_X5_sumOf_4 M k n (sm + (M 0 (803 + i))) (i + 1) else (if k = 7 then v_X5_sumOf_4 M k n (sm + ((v_X5_ones (M 0 (353 + i))) + (v_X5_ones (M 0 (503 + i))))) (i + 1) else v_X5_sumOf_4 M k n (sm + 0) (i + 1))) else (if k = 3 then v_X5_sumOf_4 M k n (sm + (M 0 (803 + i))) (i + 1) else (if k = 7 then v_X5_sumOf_4 M k n (sm + ((v_X5_ones (M 0 (353 + i))) + (v_X5_ones (M 0 (503 + i))))) (i + 1) else v_X5_sumOf_4 M k n (sm + 1) (i + 1)))) else (if k = 5 then (if (M 0 (653 + i)) ≤ 0 then (if k = 3 then v_X5_sumOf_4 M k n (sm + (M 0 (803 + i))) (i + 1) else (if k = 7 then v_X5_sumOf_4 M k n (sm + ((v_X5_ones (M 0 (353 + i))) + (v_X5_ones (M 0 (503 + i))))) (i + 1) else v_X5_sumOf_4 M k n (sm + 0) (i + 1))) else (if k = 3 then v_X5_sumOf_4 M k n (sm + (M 0 (803 + i))) (i + 1) else (if k = 7 then v_X5_sumOf_4 M k n (sm + ((v_X5_ones (M 0 (353 + i))) + (v_X5_ones (M 0 (503 + i))))) (i + 1) else v_X5_sumOf_4 M k n (sm + 1) (i + 1)))) else (if k = 6 then (if (v_X5_eatsTwo M i) = true then (if k = 3 then v_X5_sumOf_4 M k n (sm + (M 0 (803 + i))) (i + 1) else (if k = 7 then v_X5_sumOf_4 M k n (sm + ((v_X5_ones (M 0 (353 + i))) + (v_X5_ones (M 0 (503 + i))))) (i + 1) else v_X5_sumOf_4 M k n (sm + 1) (i + 1))) else (if k = 3 then v_X5_sumOf_4 M k n (sm + (M 0 (803 + i))) (i + 1) else (if k = 7 then v_X5_sumOf_4 M k n (sm + ((v_X5_ones (M 0 (353 + i))) + (v_X5_ones (M 0 (503 + i))))) (i + 1) else v_X5_sumOf_4 M k n (sm + 0) (i + 1)))) else (if k = 3 then v_X5_sumOf_4 M k n (sm + (M 0 (803 + i))) (i + 1) else (if k = 7 then v_X5_sumOf_4 M k n (sm + ((v_X5_ones (M 0 (353 + i))) + (v_X5_ones (M 0 (503 + i))))) (i + 1) else v_X5_sumOf_4 M k n (sm + 0) (i + 1)))))))
def v_X5_sumOf (M : Nat → Nat → Int32) (k : Nat) : Int32 := v_X5_sumOf_4 M k 151 0 0
set_option maxHeartbeats 400000 in
set_option maxRecDepth 100000 in
theorem c_X5_sumOf (l : Launch) (D : va_G) (g : Nat → ClassId) (u : Nat → Nat) (M : Nat → Nat → Int32) (w : Int64) (k : Nat) (z0 : zG M) (z1 : vp_in (M 0 1) 9) (z2 : k < 12) : Rd l D (zT g) yX5_sumOf wsX5_sumOf (rmOf 6 137) [.ref (u 0), .int (nI k)] (zB_X5 (g 0) u M w) (.int (v_X5_sumOf M k)) := by
  refine Rd.of (cc := cX5_sumOf) (maxL := 6) (ret := (some .int)) (by decide) rfl (Nat.le_of_ble_eq_true rfl) ?_
  intro p e s m below meth c ls hx hb hr hml hown hts hlocks hP hK hl
  have hown : s.vm.findClass RX5 = some m.cls := hown
  have hinX5 : ∀ w ∈ u_ws RX5 TX5 13, w ∈ wsX5_sumOf := fun _ h9 => (List.mem_cons_of_mem _ (List.mem_append_right _ h9))
  obtain ⟨q, hq⟩ : ∃ q : Int32, q = v_X5_sumOf M k := ⟨_, rfl⟩
  rw [← hq]
  unfold v_X5_sumOf at hq
  have hl : lv_has ls 6 [(0, .ref (u 0)), (1, .int (nI k))] := hl
  refine lv_iconst (v := 0) hx hb dX5_sumOf_0 (by decide) ?_
  refine lv_istore_n (lv' := [(2, .int 0), (0, .ref (u 0)), (1, .int (nI k))]) hx hb dX5_sumOf_1 rfl hl (by decide) rfl (fun ls hl => ?_)
  refine lv_iconst (v := 0) hx hb dX5_sumOf_2 (by decide) ?_
  refine lv_istore_n (lv' := [(3, .int 0), (2, .int 0), (0, .ref (u 0)), (1, .int (nI k))]) hx hb dX5_sumOf_3 rfl hl (by decide) rfl (fun ls hl => ?_)
  have L4 : ∀ (n : Nat) (sm : Int32) (i : Nat), (i ≤ 150) → 150 - i < n → ∀ (ls : Array Slot), lv_has ls 6 [(0, .ref (u 0)), (1, .int (nI k)), (2, .int sm), (3, .int (nI i))] → q = v_X5_sumOf_4 M k n sm i → W p l e (rmOf 6 137) s m [.ref (u 0), .int (nI k)].toArray below meth c s.heap [] 0 0 (MQ below (zQ (.int q)) [.ref (u 0), .int (nI k)].toArray s 0 0 (fun _ => False)) (F0 m 4 ls []) := by
    intro n
    induction n with
    | zero => intro sm i v4_0 hn; exact absurd hn (Nat.not_lt_zero _)
    | succ n ih4 =>
      intro sm i v4_0 hn4 ls hl hq
      rw [v_X5_sumOf_4] at hq
      refine lv_iload_n hx hb dX5_sumOf_4 rfl (lv_at hl 3 rfl) ?_
      refine lv_sipush (v := 150) hx hb dX5_sumOf_5 (by decide) ?_
      refine lv_icmp_ge (tgt := 156) hx hb dX5_sumOf_8 (by decide) (fun c_1 => ?_) (fun c_1 => ?_)
      · have c_1 : 150 ≤ i := (nI_leI (a := 150) (b := i) (by omega) (by omega)).mp c_1
        have hq := hq.trans (if_pos c_1)
        refine lv_iload_n hx hb dX5_sumOf_156 rfl (lv_at hl 2 rfl) ?_
        exact zret_i hx hb hr hlocks dX5_sumOf_157 hq
      · have c_1 : ¬ (150 ≤ i) := fun h9 => c_1 ((nI_leI (a := 150) (b := i) (by omega) (by omega)).mpr h9)
        have hq := hq.trans (if_neg c_1)
        refine lv_aload_n hx hb dX5_sumOf_11 rfl (lv_at hl 0 rfl) ?_
        refine va_get (D := D) (ci := 5) (v := .ref (u 1)) (C := RX5) (T := TX5) (N := 13) hx hb hts hinX5 hown hK.1 hP 0 rfl rfl 0 (by decide) (hts (.fieldLink RX5 7 "SaltSharesModel" "z" "[I") (List.mem_of_getElem? (i := 1) rfl)) (fun _ h9 => h9) rfl dX5_sumOf_12 ?_
        refine lv_sipush (v := 353) hx hb dX5_sumOf_15 (by decide) ?_
        refine lv_iload_n hx hb dX5_sumOf_18 rfl (lv_at hl 3 rfl) ?_
        refine lv_iadd hx hb dX5_sumOf_19 ?_
        refine lv_is (show (353 : Int32) + (nI i) = (nI (353 + i)) from nI_add 353 i) ?_
        refine z_iald (i := 353 + i) hx hb hK hP 1 0 rfl rfl (by omega) (by decide) dX5_sumOf_20 ?_
        refine zcSO (n := 1) (c_X5_ones l D g (M 0 (353 + i))) hx hb hml hown hts gX5_sumOf_X5_ones rfl ⟨by decide, by decide, by decide⟩ ⟨Nat.le_of_ble_eq_true rfl, Nat.le_of_ble_eq_true rfl⟩ ⟨rfl, rfl⟩ hK (hP.sub [] rfl) hl.1 rfl rfl (Nat.le_of_ble_eq_true rfl) ⟨Nat.zero_le _, Nat.zero_le _⟩ dX5_sumOf_21 ?_
        refine lv_aload_n hx hb dX5_sumOf_24 rfl (lv_at hl 0 rfl) ?_
        refine va_get (D := D) (ci := 5) (v := .ref (u 1)) (C := RX5) (T := TX5) (N := 13) hx hb hts hinX5 hown hK.1 hP 0 rfl rfl 0 (by decide) (hts (.fieldLink RX5 7 "SaltSharesModel" "z" "[I") (List.mem_of_getElem? (i := 1) rfl)) (fun _ h9 => h9) rfl dX5_sumOf_25 ?_
        refine lv_sipush (v := 503) hx hb dX5_sumOf_28 (by decide) ?_
        refine lv_iload_n hx hb dX5_sumOf_31 rfl (lv_at hl 3 rfl) ?_
        refine lv_iadd hx hb dX5_sumOf_32 ?_
        refine lv_is (show (503 : Int32) + (nI i) = (nI (503 + i)) from nI_add 503 i) ?_
        refine z_iald (i := 503 + i) hx hb hK hP 1 0 rfl rfl (by omega) (by decide) dX5_sumOf_33 ?_
        refine zcSO (n := 1) (c_X5_ones l D g (M 0 (503 + i))) hx hb hml hown hts gX5_sumOf_X5_ones rfl ⟨by decide, by decide, by decide⟩ ⟨Nat.le_of_ble_eq_true rfl, Nat.le_of_ble_eq_true rfl⟩ ⟨rfl, rfl⟩ hK (hP.sub [] rfl) hl.1 rfl rfl (Nat.le_of_ble_eq_true rfl) ⟨Nat.zero_le _, Nat.zero_le _⟩ dX5_sumOf_34 ?_
        refine lv_iadd hx hb dX5_sumOf_37 ?_
        refine lv_istore (lv' := [(4, .int ((v_X5_ones (M 0 (353 + i))) + (v_X5_ones (M 0 (503 + i))))), (0, .ref (u 0)), (1, .int (nI k)), (2, .int sm), (3, .int (nI i))]) hx hb dX5_sumOf_38 hl (by decide) rfl (fun ls hl => ?_)
        refine lv_iload_n hx hb dX5_sumOf_40 rfl (lv_at hl 2 rfl) ?_
        refine lv_iconst (v := 4) hx hb dX5_sumOf_41 (by decide) ?_
        refine lv_icmp_ne (tgt := 61) hx hb dX5_sumOf_42 (by decide) (fun c_4 => ?_) (fun c_4 => ?_)
        · have c_4 : ¬ (k = 4) := fun h9 => c_4 ((nI_eq (a := k) (b := 4) (by omega) (by omega)).mpr h9)
          have hq := hq.trans (if_neg c_4)
          refine lv_iload_n hx hb dX5_sumOf_61 rfl (lv_at hl 2 rfl) ?_
          refine lv_iconst (v := 5) hx hb dX5_sumOf_62 (by decide) ?_
          refine lv_icmp_ne (tgt := 87) hx hb dX5_sumOf_63 (by decide) (fun c_5 => ?_) (fun c_5 => ?_)
          · have c_5 : ¬ (k = 5) := fun h9 => c_5 ((nI_eq (a := k) (b := 5) (by omega) (by omega)).mpr h9)
            have hq := hq.trans (if_neg c_5)
            refine lv_iload_n hx hb dX5_sumOf_87 rfl (lv_at hl 2 rfl) ?_
            refine lv_bipush (v := 6) hx hb dX5_sumOf_88 (by decide) ?_
            refine lv_icmp_ne (tgt := 105) hx hb dX5_sumOf_90 (by decide) (fun c_6 => ?_) (fun c_6 => ?_)
            · have c_6 : ¬ (k = 6) := fun h9 => c_6 ((nI_eq (a := k) (b := 6) (by omega) (by omega)).mpr h9)
              have hq := hq.trans (if_neg c_6)
              refine lv_iconst (v := 0) hx hb dX5_sumOf_105 (by decide) ?_
              refine lv_is (show (0 : Int32) = bI false from rfl) ?_
              refine lv_istore (lv' := [(5, .int (bI false)), (4, .int ((v_X5_ones (M 0 (353 + i))) + (v_X5_ones (M 0 (503 + i))))), (0, .ref (u 0)), (1, .int (nI k)), (2, .int sm), (3, .int (nI i))]) hx hb dX5_sumOf_106 hl (by decide) rfl (fun ls hl => ?_)
              refine lv_iload_n hx hb dX5_sumOf_108 rfl (lv_at hl 4 rfl) ?_
              refine lv_iload_n hx hb dX5_sumOf_109 rfl (lv_at hl 3 rfl) ?_
              refine lv_iconst (v := 3) hx hb dX5_sumOf_110 (by decide) ?_
              refine lv_icmp_ne (tgt := 127) hx hb dX5_sumOf_111 (by decide) (fun c_7 => ?_) (fun c_7 => ?_)
              · have c_7 : ¬ (k = 3) := fun h9 => c_7 ((nI_eq (a := k) (b := 3) (by omega) (by omega)).mpr h9)
                have hq := hq.trans (if_neg c_7)
                refine lv_iload_n hx hb dX5_sumOf_127 rfl (lv_at hl 3 rfl) ?_
                refine lv_bipush (v := 7) hx hb dX5_sumOf_128 (by decide) ?_
                refine lv_icmp_ne (tgt := 138) hx hb dX5_sumOf_130 (by decide) (fun c_8 => ?_) (fun c_8 => ?_)
                · have c_8 : ¬ (k = 7) := fun h9 => c_8 ((nI_eq (a := k) (b := 7) (by omega) (by omega)).mpr h9)
                  have hq := hq.trans (if_neg c_8)
                  refine lv_iload hx hb dX5_sumOf_138 (lv_at hl 0 rfl) ?_
                  refine zif_eq (tgt := 147) hx hb dX5_sumOf_140 (by decide) (fun c_9 => ?_) (fun c_9 => ?_)
                  rotate_left
                  · cases c_9
                  refine lv_iconst (v := 0) hx hb dX5_sumOf_147 (by decide) ?_
                  refine lv_iadd hx hb dX5_sumOf_148 ?_
                  refine lv_istore_n (lv' := [(2, .int (sm + 0)), (5, .int (bI false)), (4, .int ((v_X5_ones (M 0 (353 + i))) + (v_X5_ones (M 0 (503 + i))))), (0, .ref (u 0)), (1, .int (nI k)), (3, .int (nI i))]) hx hb dX5_sumOf_149 rfl hl (by decide) rfl (fun ls hl => ?_)
                  refine lv_iinc (v := (nI (i + 1))) (lv' := [(3, .int (nI (i + 1))), (2, .int (sm + 0)), (5, .int (bI false)), (4, .int ((v_X5_ones (M 0 (353 + i))) + (v_X5_ones (M 0 (503 + i))))), (0, .ref (u 0)), (1, .int (nI k))]) hx hb dX5_sumOf_150 hl (k := 5) rfl (nI_add _ 1) (by decide) rfl (fun ls hl => ?_)
                  refine lv_goto (tgt := 4) hx hb dX5_sumOf_153 (by decide) ?_
                  exact ih4 (sm + 0) (i + 1) (by omega) (by omega) ls (lv_sub hl [4, 5, 1, 0] rfl) hq
                · have c_8 : k = 7 := (nI_eq (a := k) (b := 7) (by omega) (by omega)).mp c_8
                  have hq := hq.trans (if_pos c_8)
                  refine lv_iload hx hb dX5_sumOf_133 (lv_at hl 1 rfl) ?_
                  refine lv_goto (tgt := 148) hx hb dX5_sumOf_135 (by decide) ?_
                  refine lv_iadd hx hb dX5_sumOf_148 ?_
                  refine lv_istore_n (lv' := [(2, .int (sm + ((v_X5_ones (M 0 (353 + i))) + (v_X5_ones (M 0 (503 + i)))))), (5, .int (bI false)), (4, .int ((v_X5_ones (M 0 (353 + i))) + (v_X5_ones (M 0 (503 + i))))), (0, .ref (u 0)), (1, .int (nI k)), (3, .int (nI i))]) hx hb dX5_sumOf_149 rfl hl (by decide) rfl (fun ls hl => ?_)
                  refine lv_iinc (v := (nI (i + 1))) (lv' := [(3, .int (nI (i + 1))), (2, .int (sm + ((v_X5_ones (M 0 (353 + i))) + (v_X5_ones (M 0 (503 + i)))))), (5, .int (bI false)), (4, .int ((v_X5_ones (M 0 (353 + i))) + (v_X5_ones (M 0 (503 + i))))), (0, .ref (u 0)), (1, .int (nI k))]) hx hb dX5_sumOf_150 hl (k := 5) rfl (nI_add _ 1) (by decide) rfl (fun ls hl => ?_)
                  refine lv_goto (tgt := 4) hx hb dX5_sumOf_153 (by decide) ?_
                  exact ih4 (sm + ((v_X5_ones (M 0 (353 + i))) + (v_X5_ones (M 0 (503 + i))))) (i + 1) (by omega) (by omega) ls (lv_sub hl [4, 5, 1, 0] rfl) hq
              · have c_7 : k = 3 := (nI_eq (a := k) (b := 3) (by omega) (by omega)).mp c_7
                have hq := hq.trans (if_pos c_7)
                refine lv_aload_n hx hb dX5_sumOf_114 rfl (lv_at hl 2 rfl) ?_
                refine va_get (D := D) (ci := 5) (v := .ref (u 1)) (C := RX5) (T := TX5) (N := 13) hx hb hts hinX5 hown hK.1 hP 0 rfl rfl 0 (by decide) (hts (.fieldLink RX5 7 "SaltSharesModel" "z" "[I") (List.mem_of_getElem? (i := 1) rfl)) (fun _ h9 => h9) rfl dX5_sumOf_115 ?_
                refine lv_sipush (v := 803) hx hb dX5_sumOf_118 (by decide) ?_
                refine lv_iload_n hx hb dX5_sumOf_121 rfl (lv_at hl 5 rfl) ?_
                refine lv_iadd hx hb dX5_sumOf_122 ?_
                refine lv_is (show (803 : Int32) + (nI i) = (nI (803 + i)) from nI_add 803 i) ?_
                refine z_iald (i := 803 + i) hx hb hK hP 1 0 rfl rfl (by omega) (by decide) dX5_sumOf_123 ?_
                refine lv_goto (tgt := 148) hx hb dX5_sumOf_124 (by decide) ?_
                refine lv_iadd hx hb dX5_sumOf_148 ?_
                refine lv_istore_n (lv' := [(2, .int (sm + (M 0 (803 + i)))), (5, .int (bI false)), (4, .int ((v_X5_ones (M 0 (353 + i))) + (v_X5_ones (M 0 (503 + i))))), (0, .ref (u 0)), (1, .int (nI k)), (3, .int (nI i))]) hx hb dX5_sumOf_149 rfl hl (by decide) rfl (fun ls hl => ?_)
                refine lv_iinc (v := (nI (i + 1))) (lv' := [(3, .int (nI (i + 1))), (2, .int (sm + (M 0 (803 + i)))), (5, .int (bI false)), (4, .int ((v_X5_ones (M 0 (353 + i))) + (v_X5_ones (M 0 (503 + i))))), (0, .ref (u 0)), (1, .int (nI k))]) hx hb dX5_sumOf_150 hl (k := 5) rfl (nI_add _ 1) (by decide) rfl (fun ls hl => ?_)
                refine lv_goto (tgt := 4) hx hb dX5_sumOf_153 (by decide) ?_
                exact ih4 (sm + (M 0 (803 + i))) (i + 1) (by omega) (by omega) ls (lv_sub hl [4, 5, 1, 0] rfl) hq
            · have c_6 : k = 6 := (nI_eq (a := k) (b := 6) (by omega) (by omega)).mp c_6
              have hq := hq.trans (if_pos c_6)
              refine lv_aload_n hx hb dX5_sumOf_93 rfl (lv_at hl 1 rfl) ?_
              refine lv_iload_n hx hb dX5_sumOf_94 rfl (lv_at hl 4 rfl) ?_
              refine zcV (ci := 5) (n := 1) (c_X5_eatsTwo l D g u M w i (by omega) z0 z1) hx hb hml hown hts gX5_sumOf_X5_eatsTwo rfl ⟨rfl, by decide, by decide, by decide⟩ ⟨Nat.le_of_ble_eq_true rfl, Nat.le_of_ble_eq_true rfl⟩ ⟨rfl, rfl⟩ hK hP rfl rfl rfl hl.1 rfl rfl (Nat.le_of_ble_eq_true rfl) ⟨Nat.zero_le _, Nat.zero_le _⟩ dX5_sumOf_95 ?_
              refine zif_eq (tgt := 105) hx hb dX5_sumOf_98 (by decide) (fun c_11 => ?_) (fun c_11 => ?_)
              · have hq := hq.trans (zif_f c_11)
                refine lv_iconst (v := 0) hx hb dX5_sumOf_105 (by decide) ?_
                refine lv_is (show (0 : Int32) = bI false from rfl) ?_
                refine lv_istore (lv' := [(5, .int (bI false)), (4, .int ((v_X5_ones (M 0 (353 + i))) + (v_X5_ones (M 0 (503 + i))))), (0, .ref (u 0)), (1, .int (nI k)), (2, .int sm), (3, .int (nI i))]) hx hb dX5_sumOf_106 hl (by decide) rfl (fun ls hl => ?_)
                refine lv_iload_n hx hb dX5_sumOf_108 rfl (lv_at hl 4 rfl) ?_
                refine lv_iload_n hx hb dX5_sumOf_109 rfl (lv_at hl 3 rfl) ?_
                refine lv_iconst (v := 3) hx hb dX5_sumOf_110 (by decide) ?_
                refine lv_icmp_ne (tgt := 127) hx hb dX5_sumOf_111 (by decide) (fun c_12 => ?_) (fun c_12 => ?_)
                · have c_12 : ¬ (k = 3) := fun h9 => c_12 ((nI_eq (a := k) (b := 3) (by omega) (by omega)).mpr h9)
                  have hq := hq.trans (if_neg c_12)
                  refine lv_iload_n hx hb dX5_sumOf_127 rfl (lv_at hl 3 rfl) ?_
                  refine lv_bipush (v := 7) hx hb dX5_sumOf_128 (by decide) ?_
                  refine lv_icmp_ne (tgt := 138) hx hb dX5_sumOf_130 (by decide) (fun c_13 => ?_) (fun c_13 => ?_)
                  · have c_13 : ¬ (k = 7) := fun h9 => c_13 ((nI_eq (a := k) (b := 7) (by omega) (by omega)).mpr h9)
                    have hq := hq.trans (if_neg c_13)
                    refine lv_iload hx hb dX5_sumOf_138 (lv_at hl 0 rfl) ?_
                    refine zif_eq (tgt := 147) hx hb dX5_sumOf_140 (by decide) (fun c_14 => ?_) (fun c_14 => ?_)
                    rotate_left
                    · cases c_14
                    refine lv_iconst (v := 0) hx hb dX5_sumOf_147 (by decide) ?_
                    refine lv_iadd hx hb dX5_sumOf_148 ?_
                    refine lv_istore_n (lv' := [(2, .int (sm + 0)), (5, .int (bI false)), (4, .int ((v_X5_ones (M 0 (353 + i))) + (v_X5_ones (M 0 (503 + i))))), (0, .ref (u 0)), (1, .int (nI k)), (3, .int (nI i))]) hx hb dX5_sumOf_149 rfl hl (by decide) rfl (fun ls hl => ?_)
                    refine lv_iinc (v := (nI (i + 1))) (lv' := [(3, .int (nI (i + 1))), (2, .int (sm + 0)), (5, .int (bI false)), (4, .int ((v_X5_ones (M 0 (353 + i))) + (v_X5_ones (M 0 (503 + i))))), (0, .ref (u 0)), (1, .int (nI k))]) hx hb dX5_sumOf_150 hl (k := 5) rfl (nI_add _ 1) (by decide) rfl (fun ls hl => ?_)
                    refine lv_goto (tgt := 4) hx hb dX5_sumOf_153 (by decide) ?_
                    exact ih4 (sm + 0) (i + 1) (by omega) (by omega) ls (lv_sub hl [4, 5, 1, 0] rfl) hq
                  · have c_13 : k = 7 := (nI_eq (a := k) (b := 7) (by omega) (by omega)).mp c_13
                    have hq := hq.trans (if_pos c_13)
                    refine lv_iload hx hb dX5_sumOf_133 (lv_at hl 1 rfl) ?_
                    refine lv_goto (tgt := 148) hx hb dX5_sumOf_135 (by decide) ?_
                    refine lv_iadd hx hb dX5_sumOf_148 ?_
                    refine lv_istore_n (lv' := [(2, .int (sm + ((v_X5_ones (M 0 (353 + i))) + (v_X5_ones (M 0 (503 + i)))))), (5, .int (bI false)), (4, .int ((v_X5_ones (M 0 (353 + i))) + (v_X5_ones (M 0 (503 + i))))), (0, .ref (u 0)), (1, .int (nI k)), (3, .int (nI i))]) hx hb dX5_sumOf_149 rfl hl (by decide) rfl (fun ls hl => ?_)
                    refine lv_iinc (v := (nI (i + 1))) (lv' := [(3, .int (nI (i + 1))), (2, .int (sm + ((v_X5_ones (M 0 (353 + i))) + (v_X5_ones (M 0 (503 + i)))))), (5, .int (bI false)), (4, .int ((v_X5_ones (M 0 (353 + i))) + (v_X5_ones (M 0 (503 + i))))), (0, .ref (u 0)), (1, .int (nI k))]) hx hb dX5_sumOf_150 hl (k := 5) rfl (nI_add _ 1) (by decide) rfl (fun ls hl => ?_)
                    refine lv_goto (tgt := 4) hx hb dX5_sumOf_153 (by decide) ?_
                    exact ih4 (sm + ((v_X5_ones (M 0 (353 + i))) + (v_X5_ones (M 0 (503 + i))))) (i + 1) (by omega) (by omega) ls (lv_sub hl [4, 5, 1, 0] rfl) hq
                · have c_12 : k = 3 := (nI_eq (a := k) (b := 3) (by omega) (by omega)).mp c_12
                  have hq := hq.trans (if_pos c_12)
                  refine lv_aload_n hx hb dX5_sumOf_114 rfl (lv_at hl 2 rfl) ?_
                  refine va_get (D := D) (ci := 5) (v := .ref (u 1)) (C := RX5) (T := TX5) (N := 13) hx hb hts hinX5 hown hK.1 hP 0 rfl rfl 0 (by decide) (hts (.fieldLink RX5 7 "SaltSharesModel" "z" "[I") (List.mem_of_getElem? (i := 1) rfl)) (fun _ h9 => h9) rfl dX5_sumOf_115 ?_
                  refine lv_sipush (v := 803) hx hb dX5_sumOf_118 (by decide) ?_
                  refine lv_iload_n hx hb dX5_sumOf_121 rfl (lv_at hl 5 rfl) ?_
                  refine lv_iadd hx hb dX5_sumOf_122 ?_
                  refine lv_is (show (803 : Int32) + (nI i) = (nI (803 + i)) from nI_add 803 i) ?_
                  refine z_iald (i := 803 + i) hx hb hK hP 1 0 rfl rfl (by omega) (by decide) dX5_sumOf_123 ?_
                  refine lv_goto (tgt := 148) hx hb dX5_sumOf_124 (by decide) ?_
                  refine lv_iadd hx hb dX5_sumOf_148 ?_
                  refine lv_istore_n (lv' := [(2, .int (sm + (M 0 (803 + i)))), (5, .int (bI false)), (4, .int ((v_X5_ones (M 0 (353 + i))) + (v_X5_ones (M 0 (503 + i))))), (0, .ref (u 0)), (1, .int (nI k)), (3, .int (nI i))]) hx hb dX5_sumOf_149 rfl hl (by decide) rfl (fun ls hl => ?_)
                  refine lv_iinc (v := (nI (i + 1))) (lv' := [(3, .int (nI (i + 1))), (2, .int (sm + (M 0 (803 + i)))), (5, .int (bI false)), (4, .int ((v_X5_ones (M 0 (353 + i))) + (v_X5_ones (M 0 (503 + i))))), (0, .ref (u 0)), (1, .int (nI k))]) hx hb dX5_sumOf_150 hl (k := 5) rfl (nI_add _ 1) (by decide) rfl (fun ls hl => ?_)
                  refine lv_goto (tgt := 4) hx hb dX5_sumOf_153 (by decide) ?_
                  exact ih4 (sm + (M 0 (803 + i))) (i + 1) (by omega) (by omega) ls (lv_sub hl [4, 5, 1, 0] rfl) hq
              · have hq := hq.trans (zif_t c_11)
                refine lv_iconst (v := 1) hx hb dX5_sumOf_101 (by decide) ?_
                refine lv_goto (tgt := 106) hx hb dX5_sumOf_102 (by decide) ?_
                refine lv_is (show (1 : Int32) = bI true from rfl) ?_
                refine lv_istore (lv' := [(5, .int (bI true)), (4, .int ((v_X5_ones (M 0 (353 + i))) + (v_X5_ones (M 0 (503 + i))))), (0, .ref (u 0)), (1, .int (nI k)), (2, .int sm), (3, .int (nI i))]) hx hb dX5_sumOf_106 hl (by decide) rfl (fun ls hl => ?_)
                refine lv_iload_n hx hb dX5_sumOf_108 rfl (lv_at hl 4 rfl) ?_
                refine lv_iload_n hx hb dX5_sumOf_109 rfl (lv_at hl 3 rfl) ?_
                refine lv_iconst (v := 3) hx hb dX5_sumOf_110 (by decide) ?_
                refine lv_icmp_ne (tgt := 127) hx hb dX5_sumOf_111 (by decide) (fun c_15 => ?_) (fun c_15 => ?_)
                · have c_15 : ¬ (k = 3) := fun h9 => c_15 ((nI_eq (a := k) (b := 3) (by omega) (by omega)).mpr h9)
                  have hq := hq.trans (if_neg c_15)
                  refine lv_iload_n hx hb dX5_sumOf_127 rfl (lv_at hl 3 rfl) ?_
                  refine lv_bipush (v := 7) hx hb dX5_sumOf_128 (by decide) ?_
                  refine lv_icmp_ne (tgt := 138) hx hb dX5_sumOf_130 (by decide) (fun c_16 => ?_) (fun c_16 => ?_)
                  · have c_16 : ¬ (k = 7) := fun h9 => c_16 ((nI_eq (a := k) (b := 7) (by omega) (by omega)).mpr h9)
                    have hq := hq.trans (if_neg c_16)
                    refine lv_iload hx hb dX5_sumOf_138 (lv_at hl 0 rfl) ?_
                    refine zif_eq (tgt := 147) hx hb dX5_sumOf_140 (by decide) (fun c_17 => ?_) (fun c_17 => ?_)
                    · cases c_17
                    refine lv_iconst (v := 1) hx hb dX5_sumOf_143 (by decide) ?_
                    refine lv_goto (tgt := 148) hx hb dX5_sumOf_144 (by decide) ?_
                    refine lv_iadd hx hb dX5_sumOf_148 ?_
                    refine lv_istore_n (lv' := [(2, .int (sm + 1)), (5, .int (bI true)), (4, .int ((v_X5_ones (M 0 (353 + i))) + (v_X5_ones (M 0 (503 + i))))), (0, .ref (u 0)), (1, .int (nI k)), (3, .int (nI i))]) hx hb dX5_sumOf_149 rfl hl (by decide) rfl (fun ls hl => ?_)
                    refine lv_iinc (v := (nI (i + 1))) (lv' := [(3, .int (nI (i + 1))), (2, .int (sm + 1)), (5, .int (bI true)), (4, .int ((v_X5_ones (M 0 (353 + i))) + (v_X5_ones (M 0 (503 + i))))), (0, .ref (u 0)), (1, .int (nI k))]) hx hb dX5_sumOf_150 hl (k := 5) rfl (nI_add _ 1) (by decide) rfl (fun ls hl => ?_)
                    refine lv_goto (tgt := 4) hx hb dX5_sumOf_153 (by decide) ?_
                    exact ih4 (sm + 1) (i + 1) (by omega) (by omega) ls (lv_sub hl [4, 5, 1, 0] rfl) hq
                  · have c_16 : k = 7 := (nI_eq (a := k) (b := 7) (by omega) (by omega)).mp c_16
                    have hq := hq.trans (if_pos c_16)
                    refine lv_iload hx hb dX5_sumOf_133 (lv_at hl 1 rfl) ?_
                    refine lv_goto (tgt := 148) hx hb dX5_sumOf_135 (by decide) ?_
                    refine lv_iadd hx hb dX5_sumOf_148 ?_
                    refine lv_istore_n (lv' := [(2, .int (sm + ((v_X5_ones (M 0 (353 + i))) + (v_X5_ones (M 0 (503 + i)))))), (5, .int (bI true)), (4, .int ((v_X5_ones (M 0 (353 + i))) + (v_X5_ones (M 0 (503 + i))))), (0, .ref (u 0)), (1, .int (nI k)), (3, .int (nI i))]) hx hb dX5_sumOf_149 rfl hl (by decide) rfl (fun ls hl => ?_)
                    refine lv_iinc (v := (nI (i + 1))) (lv' := [(3, .int (nI (i + 1))), (2, .int (sm + ((v_X5_ones (M 0 (353 + i))) + (v_X5_ones (M 0 (503 + i)))))), (5, .int (bI true)), (4, .int ((v_X5_ones (M 0 (353 + i))) + (v_X5_ones (M 0 (503 + i))))), (0, .ref (u 0)), (1, .int (nI k))]) hx hb dX5_sumOf_150 hl (k := 5) rfl (nI_add _ 1) (by decide) rfl (fun ls hl => ?_)
                    refine lv_goto (tgt := 4) hx hb dX5_sumOf_153 (by decide) ?_
                    exact ih4 (sm + ((v_X5_ones (M 0 (353 + i))) + (v_X5_ones (M 0 (503 + i))))) (i + 1) (by omega) (by omega) ls (lv_sub hl [4, 5, 1, 0] rfl) hq
                · have c_15 : k = 3 := (nI_eq (a := k) (b := 3) (by omega) (by omega)).mp c_15
                  have hq := hq.trans (if_pos c_15)
                  refine lv_aload_n hx hb dX5_sumOf_114 rfl (lv_at hl 2 rfl) ?_
                  refine va_get (D := D) (ci := 5) (v := .ref (u 1)) (C := RX5) (T := TX5) (N := 13) hx hb hts hinX5 hown hK.1 hP 0 rfl rfl 0 (by decide) (hts (.fieldLink RX5 7 "SaltSharesModel" "z" "[I") (List.mem_of_getElem? (i := 1) rfl)) (fun _ h9 => h9) rfl dX5_sumOf_115 ?_
                  refine lv_sipush (v := 803) hx hb dX5_sumOf_118 (by decide) ?_
                  refine lv_iload_n hx hb dX5_sumOf_121 rfl (lv_at hl 5 rfl) ?_
                  refine lv_iadd hx hb dX5_sumOf_122 ?_
                  refine lv_is (show (803 : Int32) + (nI i) = (nI (803 + i)) from nI_add 803 i) ?_
                  refine z_iald (i := 803 + i) hx hb hK hP 1 0 rfl rfl (by omega) (by decide) dX5_sumOf_123 ?_
                  refine lv_goto (tgt := 148) hx hb dX5_sumOf_124 (by decide) ?_
                  refine lv_iadd hx hb dX5_sumOf_148 ?_
                  refine lv_istore_n (lv' := [(2, .int (sm + (M 0 (803 + i)))), (5, .int (bI true)), (4, .int ((v_X5_ones (M 0 (353 + i))) + (v_X5_ones (M 0 (503 + i))))), (0, .ref (u 0)), (1, .int (nI k)), (3, .int (nI i))]) hx hb dX5_sumOf_149 rfl hl (by decide) rfl (fun ls hl => ?_)
                  refine lv_iinc (v := (nI (i + 1))) (lv' := [(3, .int (nI (i + 1))), (2, .int (sm + (M 0 (803 + i)))), (5, .int (bI true)), (4, .int ((v_X5_ones (M 0 (353 + i))) + (v_X5_ones (M 0 (503 + i))))), (0, .ref (u 0)), (1, .int (nI k))]) hx hb dX5_sumOf_150 hl (k := 5) rfl (nI_add _ 1) (by decide) rfl (fun ls hl => ?_)
                  refine lv_goto (tgt := 4) hx hb dX5_sumOf_153 (by decide) ?_
                  exact ih4 (sm + (M 0 (803 + i))) (i + 1) (by omega) (by omega) ls (lv_sub hl [4, 5, 1, 0] rfl) hq
          · have c_5 : k = 5 := (nI_eq (a := k) (b := 5) (by omega) (by omega)).mp c_5
            have hq := hq.trans (if_pos c_5)
            refine lv_aload_n hx hb dX5_sumOf_66 rfl (lv_at hl 1 rfl) ?_
            refine va_get (D := D) (ci := 5) (v := .ref (u 1)) (C := RX5) (T := TX5) (N := 13) hx hb hts hinX5 hown hK.1 hP 0 rfl rfl 0 (by decide) (hts (.fieldLink RX5 7 "SaltSharesModel" "z" "[I") (List.mem_of_getElem? (i := 1) rfl)) (fun _ h9 => h9) rfl dX5_sumOf_67 ?_
            refine lv_sipush (v := 653) hx hb dX5_sumOf_70 (by decide) ?_
            refine lv_iload_n hx hb dX5_sumOf_73 rfl (lv_at hl 4 rfl) ?_
            refine lv_iadd hx hb dX5_sumOf_74 ?_
            refine lv_is (show (653 : Int32) + (nI i) = (nI (653 + i)) from nI_add 653 i) ?_
            refine z_iald (i := 653 + i) hx hb hK hP 1 0 rfl rfl (by omega) (by decide) dX5_sumOf_75 ?_
            refine lv_if_le (tgt := 83) hx hb dX5_sumOf_76 (by decide) (fun c_18 => ?_) (fun c_18 => ?_)
            · have c_18 : (M 0 (653 + i)) ≤ 0 := c_18
              have hq := hq.trans (if_pos c_18)
              refine lv_iconst (v := 0) hx hb dX5_sumOf_83 (by decide) ?_
              refine lv_goto (tgt := 106) hx hb dX5_sumOf_84 (by decide) ?_
              refine lv_is (show (0 : Int32) = bI false from rfl) ?_
              refine lv_istore (lv' := [(5, .int (bI false)), (4, .int ((v_X5_ones (M 0 (353 + i))) + (v_X5_ones (M 0 (503 + i))))), (0, .ref (u 0)), (1, .int (nI k)), (2, .int sm), (3, .int (nI i))]) hx hb dX5_sumOf_106 hl (by decide) rfl (fun ls hl => ?_)
              refine lv_iload_n hx hb dX5_sumOf_108 rfl (lv_at hl 4 rfl) ?_
              refine lv_iload_n hx hb dX5_sumOf_109 rfl (lv_at hl 3 rfl) ?_
              refine lv_iconst (v := 3) hx hb dX5_sumOf_110 (by decide) ?_
              refine lv_icmp_ne (tgt := 127) hx hb dX5_sumOf_111 (by decide) (fun c_19 => ?_) (fun c_19 => ?_)
              · have c_19 : ¬ (k = 3) := fun h9 => c_19 ((nI_eq (a := k) (b := 3) (by omega) (by omega)).mpr h9)
                have hq := hq.trans (if_neg c_19)
                refine lv_iload_n hx hb dX5_sumOf_127 rfl (lv_at hl 3 rfl) ?_
                refine lv_bipush (v := 7) hx hb dX5_sumOf_128 (by decide) ?_
                refine lv_icmp_ne (tgt := 138) hx hb dX5_sumOf_130 (by decide) (fun c_20 => ?_) (fun c_20 => ?_)
                · have c_20 : ¬ (k = 7) := fun h9 => c_20 ((nI_eq (a := k) (b := 7) (by omega) (by omega)).mpr h9)
                  have hq := hq.trans (if_neg c_20)
                  refine lv_iload hx hb dX5_sumOf_138 (lv_at hl 0 rfl) ?_
                  refine zif_eq (tgt := 147) hx hb dX5_sumOf_140 (by decide) (fun c_21 => ?_) (fun c_21 => ?_)
                  rotate_left
                  · cases c_21
                  refine lv_iconst (v := 0) hx hb dX5_sumOf_147 (by decide) ?_
                  refine lv_iadd hx hb dX5_sumOf_148 ?_
                  refine lv_istore_n (lv' := [(2, .int (sm + 0)), (5, .int (bI false)), (4, .int ((v_X5_ones (M 0 (353 + i))) + (v_X5_ones (M 0 (503 + i))))), (0, .ref (u 0)), (1, .int (nI k)), (3, .int (nI i))]) hx hb dX5_sumOf_149 rfl hl (by decide) rfl (fun ls hl => ?_)
                  refine lv_iinc (v := (nI (i + 1))) (lv' := [(3, .int (nI (i + 1))), (2, .int (sm + 0)), (5, .int (bI false)), (4, .int ((v_X5_ones (M 0 (353 + i))) + (v_X5_ones (M 0 (503 + i))))), (0, .ref (u 0)), (1, .int (nI k))]) hx hb dX5_sumOf_150 hl (k := 5) rfl (nI_add _ 1) (by decide) rfl (fun ls hl => ?_)
                  refine lv_goto (tgt := 4) hx hb dX5_sumOf_153 (by decide) ?_
                  exact ih4 (sm + 0) (i + 1) (by omega) (by omega) ls (lv_sub hl [4, 5, 1, 0] rfl) hq
                · have c_20 : k = 7 := (nI_eq (a := k) (b := 7) (by omega) (by omega)).mp c_20
                  have hq := hq.trans (if_pos c_20)
                  refine lv_iload hx hb dX5_sumOf_133 (lv_at hl 1 rfl) ?_
                  refine lv_goto (tgt := 148) hx hb dX5_sumOf_135 (by decide) ?_
                  refine lv_iadd hx hb dX5_sumOf_148 ?_
                  refine lv_istore_n (lv' := [(2, .int (sm + ((v_X5_ones (M 0 (353 + i))) + (v_X5_ones (M 0 (503 + i)))))), (5, .int (bI false)), (4, .int ((v_X5_ones (M 0 (353 + i))) + (v_X5_ones (M 0 (503 + i))))), (0, .ref (u 0)), (1, .int (nI k)), (3, .int (nI i))]) hx hb dX5_sumOf_149 rfl hl (by decide) rfl (fun ls hl => ?_)
                  refine lv_iinc (v := (nI (i + 1))) (lv' := [(3, .int (nI (i + 1))), (2, .int (sm + ((v_X5_ones (M 0 (353 + i))) + (v_X5_ones (M 0 (503 + i)))))), (5, .int (bI false)), (4, .int ((v_X5_ones (M 0 (353 + i))) + (v_X5_ones (M 0 (503 + i))))), (0, .ref (u 0)), (1, .int (nI k))]) hx hb dX5_sumOf_150 hl (k := 5) rfl (nI_add _ 1) (by decide) rfl (fun ls hl => ?_)
                  refine lv_goto (tgt := 4) hx hb dX5_sumOf_153 (by decide) ?_
                  exact ih4 (sm + ((v_X5_ones (M 0 (353 + i))) + (v_X5_ones (M 0 (503 + i))))) (i + 1) (by omega) (by omega) ls (lv_sub hl [4, 5, 1, 0] rfl) hq
              · have c_19 : k = 3 := (nI_eq (a := k) (b := 3) (by omega) (by omega)).mp c_19
                have hq := hq.trans (if_pos c_19)
                refine lv_aload_n hx hb dX5_sumOf_114 rfl (lv_at hl 2 rfl) ?_
                refine va_get (D := D) (ci := 5) (v := .ref (u 1)) (C := RX5) (T := TX5) (N := 13) hx hb hts hinX5 hown hK.1 hP 0 rfl rfl 0 (by decide) (hts (.fieldLink RX5 7 "SaltSharesModel" "z" "[I") (List.mem_of_getElem? (i := 1) rfl)) (fun _ h9 => h9) rfl dX5_sumOf_115 ?_
                refine lv_sipush (v := 803) hx hb dX5_sumOf_118 (by decide) ?_
                refine lv_iload_n hx hb dX5_sumOf_121 rfl (lv_at hl 5 rfl) ?_
                refine lv_iadd hx hb dX5_sumOf_122 ?_
                refine lv_is (show (803 : Int32) + (nI i) = (nI (803 + i)) from nI_add 803 i) ?_
                refine z_iald (i := 803 + i) hx hb hK hP 1 0 rfl rfl (by omega) (by decide) dX5_sumOf_123 ?_
                refine lv_goto (tgt := 148) hx hb dX5_sumOf_124 (by decide) ?_
                refine lv_iadd hx hb dX5_sumOf_148 ?_
                refine lv_istore_n (lv' := [(2, .int (sm + (M 0 (803 + i)))), (5, .int (bI false)), (4, .int ((v_X5_ones (M 0 (353 + i))) + (v_X5_ones (M 0 (503 + i))))), (0, .ref (u 0)), (1, .int (nI k)), (3, .int (nI i))]) hx hb dX5_sumOf_149 rfl hl (by decide) rfl (fun ls hl => ?_)
                refine lv_iinc (v := (nI (i + 1))) (lv' := [(3, .int (nI (i + 1))), (2, .int (sm + (M 0 (803 + i)))), (5, .int (bI false)), (4, .int ((v_X5_ones (M 0 (353 + i))) + (v_X5_ones (M 0 (503 + i))))), (0, .ref (u 0)), (1, .int (nI k))]) hx hb dX5_sumOf_150 hl (k := 5) rfl (nI_add _ 1) (by decide) rfl (fun ls hl => ?_)
                refine lv_goto (tgt := 4) hx hb dX5_sumOf_153 (by decide) ?_
                exact ih4 (sm + (M 0 (803 + i))) (i + 1) (by omega) (by omega) ls (lv_sub hl [4, 5, 1, 0] rfl) hq
            · have c_18 : ¬ ((M 0 (653 + i)) ≤ 0) := c_18
              have hq := hq.trans (if_neg c_18)
              refine lv_iconst (v := 1) hx hb dX5_sumOf_79 (by decide) ?_
              refine lv_goto (tgt := 106) hx hb dX5_sumOf_80 (by decide) ?_
              refine lv_is (show (1 : Int32) = bI true from rfl) ?_
              refine lv_istore (lv' := [(5, .int (bI true)), (4, .int ((v_X5_ones (M 0 (353 + i))) + (v_X5_ones (M 0 (503 + i))))), (0, .ref (u 0)), (1, .int (nI k)), (2, .int sm), (3, .int (nI i))]) hx hb dX5_sumOf_106 hl (by decide) rfl (fun ls hl => ?_)
              refine lv_iload_n hx hb dX5_sumOf_108 rfl (lv_at hl 4 rfl) ?_
              refine lv_iload_n hx hb dX5_sumOf_109 rfl (lv_at hl 3 rfl) ?_
              refine lv_iconst (v := 3) hx hb dX5_sumOf_110 (by decide) ?_
              refine lv_icmp_ne (tgt := 127) hx hb dX5_sumOf_111 (by decide) (fun c_22 => ?_) (fun c_22 => ?_)
              · have c_22 : ¬ (k = 3) := fun h9 => c_22 ((nI_eq (a := k) (b := 3) (by omega) (by omega)).mpr h9)
                have hq := hq.trans (if_neg c_22)
                refine lv_iload_n hx hb dX5_sumOf_127 rfl (lv_at hl 3 rfl) ?_
                refine lv_bipush (v := 7) hx hb dX5_sumOf_128 (by decide) ?_
                refine lv_icmp_ne (tgt := 138) hx hb dX5_sumOf_130 (by decide) (fun c_23 => ?_) (fun c_23 => ?_)
                · have c_23 : ¬ (k = 7) := fun h9 => c_23 ((nI_eq (a := k) (b := 7) (by omega) (by omega)).mpr h9)
                  have hq := hq.trans (if_neg c_23)
                  refine lv_iload hx hb dX5_sumOf_138 (lv_at hl 0 rfl) ?_
                  refine zif_eq (tgt := 147) hx hb dX5_sumOf_140 (by decide) (fun c_24 => ?_) (fun c_24 => ?_)
                  · cases c_24
                  refine lv_iconst (v := 1) hx hb dX5_sumOf_143 (by decide) ?_
                  refine lv_goto (tgt := 148) hx hb dX5_sumOf_144 (by decide) ?_
                  refine lv_iadd hx hb dX5_sumOf_148 ?_
                  refine lv_istore_n (lv' := [(2, .int (sm + 1)), (5, .int (bI true)), (4, .int ((v_X5_ones (M 0 (353 + i))) + (v_X5_ones (M 0 (503 + i))))), (0, .ref (u 0)), (1, .int (nI k)), (3, .int (nI i))]) hx hb dX5_sumOf_149 rfl hl (by decide) rfl (fun ls hl => ?_)
                  refine lv_iinc (v := (nI (i + 1))) (lv' := [(3, .int (nI (i + 1))), (2, .int (sm + 1)), (5, .int (bI true)), (4, .int ((v_X5_ones (M 0 (353 + i))) + (v_X5_ones (M 0 (503 + i))))), (0, .ref (u 0)), (1, .int (nI k))]) hx hb dX5_sumOf_150 hl (k := 5) rfl (nI_add _ 1) (by decide) rfl (fun ls hl => ?_)
                  refine lv_goto (tgt := 4) hx hb dX5_sumOf_153 (by decide) ?_
                  exact ih4 (sm + 1) (i + 1) (by omega) (by omega) ls (lv_sub hl [4, 5, 1, 0] rfl) hq
                · have c_23 : k = 7 := (nI_eq (a := k) (b := 7) (by omega) (by omega)).mp c_23
                  have hq := hq.trans (if_pos c_23)
                  refine lv_iload hx hb dX5_sumOf_133 (lv_at hl 1 rfl) ?_
                  refine lv_goto (tgt := 148) hx hb dX5_sumOf_135 (by decide) ?_
                  refine lv_iadd hx hb dX5_sumOf_148 ?_
                  refine lv_istore_n (lv' := [(2, .int (sm + ((v_X5_ones (M 0 (353 + i))) + (v_X5_ones (M 0 (503 + i)))))), (5, .int (bI true)), (4, .int ((v_X5_ones (M 0 (353 + i))) + (v_X5_ones (M 0 (503 + i))))), (0, .ref (u 0)), (1, .int (nI k)), (3, .int (nI i))]) hx hb dX5_sumOf_149 rfl hl (by decide) rfl (fun ls hl => ?_)
                  refine lv_iinc (v := (nI (i + 1))) (lv' := [(3, .int (nI (i + 1))), (2, .int (sm + ((v_X5_ones (M 0 (353 + i))) + (v_X5_ones (M 0 (503 + i)))))), (5, .int (bI true)), (4, .int ((v_X5_ones (M 0 (353 + i))) + (v_X5_ones (M 0 (503 + i))))), (0, .ref (u 0)), (1, .int (nI k))]) hx hb dX5_sumOf_150 hl (k := 5) rfl (nI_add _ 1) (by decide) rfl (fun ls hl => ?_)
                  refine lv_goto (tgt := 4) hx hb dX5_sumOf_153 (by decide) ?_
                  exact ih4 (sm + ((v_X5_ones (M 0 (353 + i))) + (v_X5_ones (M 0 (503 + i))))) (i + 1) (by omega) (by omega) ls (lv_sub hl [4, 5, 1, 0] rfl) hq
              · have c_22 : k = 3 := (nI_eq (a := k) (b := 3) (by omega) (by omega)).mp c_22
                have hq := hq.trans (if_pos c_22)
                refine lv_aload_n hx hb dX5_sumOf_114 rfl (lv_at hl 2 rfl) ?_
                refine va_get (D := D) (ci := 5) (v := .ref (u 1)) (C := RX5) (T := TX5) (N := 13) hx hb hts hinX5 hown hK.1 hP 0 rfl rfl 0 (by decide) (hts (.fieldLink RX5 7 "SaltSharesModel" "z" "[I") (List.mem_of_getElem? (i := 1) rfl)) (fun _ h9 => h9) rfl dX5_sumOf_115 ?_
                refine lv_sipush (v := 803) hx hb dX5_sumOf_118 (by decide) ?_
                refine lv_iload_n hx hb dX5_sumOf_121 rfl (lv_at hl 5 rfl) ?_
                refine lv_iadd hx hb dX5_sumOf_122 ?_
                refine lv_is (show (803 : Int32) + (nI i) = (nI (803 + i)) from nI_add 803 i) ?_
                refine z_iald (i := 803 + i) hx hb hK hP 1 0 rfl rfl (by omega) (by decide) dX5_sumOf_123 ?_
                refine lv_goto (tgt := 148) hx hb dX5_sumOf_124 (by decide) ?_
                refine lv_iadd hx hb dX5_sumOf_148 ?_
                refine lv_istore_n (lv' := [(2, .int (sm + (M 0 (803 + i)))), (5, .int (bI true)), (4, .int ((v_X5_ones (M 0 (353 + i))) + (v_X5_ones (M 0 (503 + i))))), (0, .ref (u 0)), (1, .int (nI k)), (3, .int (nI i))]) hx hb dX5_sumOf_149 rfl hl (by decide) rfl (fun ls hl => ?_)
                refine lv_iinc (v := (nI (i + 1))) (lv' := [(3, .int (nI (i + 1))), (2, .int (sm + (M 0 (803 + i)))), (5, .int (bI true)), (4, .int ((v_X5_ones (M 0 (353 + i))) + (v_X5_ones (M 0 (503 + i))))), (0, .ref (u 0)), (1, .int (nI k))]) hx hb dX5_sumOf_150 hl (k := 5) rfl (nI_add _ 1) (by decide) rfl (fun ls hl => ?_)
                refine lv_goto (tgt := 4) hx hb dX5_sumOf_153 (by decide) ?_
                exact ih4 (sm + (M 0 (803 + i))) (i + 1) (by omega) (by omega) ls (lv_sub hl [4, 5, 1, 0] rfl) hq
        · have c_4 : k = 4 := (nI_eq (a := k) (b := 4) (by omega) (by omega)).mp c_4
          have hq := hq.trans (if_pos c_4)
          refine lv_aload_n hx hb dX5_sumOf_45 rfl (lv_at hl 1 rfl) ?_
          refine lv_iload_n hx hb dX5_sumOf_46 rfl (lv_at hl 4 rfl) ?_
          refine zcV (ci := 5) (n := 1) (c_X5_breadsOf l D g u M w i (by omega) z0 z1) hx hb hml hown hts gX5_sumOf_X5_breadsOf rfl ⟨rfl, by decide, by decide, by decide⟩ ⟨Nat.le_of_ble_eq_true rfl, Nat.le_of_ble_eq_true rfl⟩ ⟨rfl, rfl⟩ hK hP rfl rfl rfl hl.1 rfl rfl (Nat.le_of_ble_eq_true rfl) ⟨Nat.zero_le _, Nat.zero_le _⟩ dX5_sumOf_47 ?_
          refine lv_if_le (tgt := 57) hx hb dX5_sumOf_50 (by decide) (fun c_26 => ?_) (fun c_26 => ?_)
          · have c_26 : (v_X5_breadsOf M i) ≤ 0 := c_26
            have hq := hq.trans (if_pos c_26)
            refine lv_iconst (v := 0) hx hb dX5_sumOf_57 (by decide) ?_
            refine lv_goto (tgt := 106) hx hb dX5_sumOf_58 (by decide) ?_
            refine lv_is (show (0 : Int32) = bI false from rfl) ?_
            refine lv_istore (lv' := [(5, .int (bI false)), (4, .int ((v_X5_ones (M 0 (353 + i))) + (v_X5_ones (M 0 (503 + i))))), (0, .ref (u 0)), (1, .int (nI k)), (2, .int sm), (3, .int (nI i))]) hx hb dX5_sumOf_106 hl (by decide) rfl (fun ls hl => ?_)
            refine lv_iload_n hx hb dX5_sumOf_108 rfl (lv_at hl 4 rfl) ?_
            refine lv_iload_n hx hb dX5_sumOf_109 rfl (lv_at hl 3 rfl) ?_
            refine lv_iconst (v := 3) hx hb dX5_sumOf_110 (by decide) ?_
            refine lv_icmp_ne (tgt := 127) hx hb dX5_sumOf_111 (by decide) (fun c_27 => ?_) (fun c_27 => ?_)
            · have c_27 : ¬ (k = 3) := fun h9 => c_27 ((nI_eq (a := k) (b := 3) (by omega) (by omega)).mpr h9)
              have hq := hq.trans (if_neg c_27)
              refine lv_iload_n hx hb dX5_sumOf_127 rfl (lv_at hl 3 rfl) ?_
              refine lv_bipush (v := 7) hx hb dX5_sumOf_128 (by decide) ?_
              refine lv_icmp_ne (tgt := 138) hx hb dX5_sumOf_130 (by decide) (fun c_28 => ?_) (fun c_28 => ?_)
              · have c_28 : ¬ (k = 7) := fun h9 => c_28 ((nI_eq (a := k) (b := 7) (by omega) (by omega)).mpr h9)
                have hq := hq.trans (if_neg c_28)
                refine lv_iload hx hb dX5_sumOf_138 (lv_at hl 0 rfl) ?_
                refine zif_eq (tgt := 147) hx hb dX5_sumOf_140 (by decide) (fun c_29 => ?_) (fun c_29 => ?_)
                rotate_left
                · cases c_29
                refine lv_iconst (v := 0) hx hb dX5_sumOf_147 (by decide) ?_
                refine lv_iadd hx hb dX5_sumOf_148 ?_
                refine lv_istore_n (lv' := [(2, .int (sm + 0)), (5, .int (bI false)), (4, .int ((v_X5_ones (M 0 (353 + i))) + (v_X5_ones (M 0 (503 + i))))), (0, .ref (u 0)), (1, .int (nI k)), (3, .int (nI i))]) hx hb dX5_sumOf_149 rfl hl (by decide) rfl (fun ls hl => ?_)
                refine lv_iinc (v := (nI (i + 1))) (lv' := [(3, .int (nI (i + 1))), (2, .int (sm + 0)), (5, .int (bI false)), (4, .int ((v_X5_ones (M 0 (353 + i))) + (v_X5_ones (M 0 (503 + i))))), (0, .ref (u 0)), (1, .int (nI k))]) hx hb dX5_sumOf_150 hl (k := 5) rfl (nI_add _ 1) (by decide) rfl (fun ls hl => ?_)
                refine lv_goto (tgt := 4) hx hb dX5_sumOf_153 (by decide) ?_
                exact ih4 (sm + 0) (i + 1) (by omega) (by omega) ls (lv_sub hl [4, 5, 1, 0] rfl) hq
              · have c_28 : k = 7 := (nI_eq (a := k) (b := 7) (by omega) (by omega)).mp c_28
                have hq := hq.trans (if_pos c_28)
                refine lv_iload hx hb dX5_sumOf_133 (lv_at hl 1 rfl) ?_
                refine lv_goto (tgt := 148) hx hb dX5_sumOf_135 (by decide) ?_
                refine lv_iadd hx hb dX5_sumOf_148 ?_
                refine lv_istore_n (lv' := [(2, .int (sm + ((v_X5_ones (M 0 (353 + i))) + (v_X5_ones (M 0 (503 + i)))))), (5, .int (bI false)), (4, .int ((v_X5_ones (M 0 (353 + i))) + (v_X5_ones (M 0 (503 + i))))), (0, .ref (u 0)), (1, .int (nI k)), (3, .int (nI i))]) hx hb dX5_sumOf_149 rfl hl (by decide) rfl (fun ls hl => ?_)
                refine lv_iinc (v := (nI (i + 1))) (lv' := [(3, .int (nI (i + 1))), (2, .int (sm + ((v_X5_ones (M 0 (353 + i))) + (v_X5_ones (M 0 (503 + i)))))), (5, .int (bI false)), (4, .int ((v_X5_ones (M 0 (353 + i))) + (v_X5_ones (M 0 (503 + i))))), (0, .ref (u 0)), (1, .int (nI k))]) hx hb dX5_sumOf_150 hl (k := 5) rfl (nI_add _ 1) (by decide) rfl (fun ls hl => ?_)
                refine lv_goto (tgt := 4) hx hb dX5_sumOf_153 (by decide) ?_
                exact ih4 (sm + ((v_X5_ones (M 0 (353 + i))) + (v_X5_ones (M 0 (503 + i))))) (i + 1) (by omega) (by omega) ls (lv_sub hl [4, 5, 1, 0] rfl) hq
            · have c_27 : k = 3 := (nI_eq (a := k) (b := 3) (by omega) (by omega)).mp c_27
              have hq := hq.trans (if_pos c_27)
              refine lv_aload_n hx hb dX5_sumOf_114 rfl (lv_at hl 2 rfl) ?_
              refine va_get (D := D) (ci := 5) (v := .ref (u 1)) (C := RX5) (T := TX5) (N := 13) hx hb hts hinX5 hown hK.1 hP 0 rfl rfl 0 (by decide) (hts (.fieldLink RX5 7 "SaltSharesModel" "z" "[I") (List.mem_of_getElem? (i := 1) rfl)) (fun _ h9 => h9) rfl dX5_sumOf_115 ?_
              refine lv_sipush (v := 803) hx hb dX5_sumOf_118 (by decide) ?_
              refine lv_iload_n hx hb dX5_sumOf_121 rfl (lv_at hl 5 rfl) ?_
              refine lv_iadd hx hb dX5_sumOf_122 ?_
              refine lv_is (show (803 : Int32) + (nI i) = (nI (803 + i)) from nI_add 803 i) ?_
              refine z_iald (i := 803 + i) hx hb hK hP 1 0 rfl rfl (by omega) (by decide) dX5_sumOf_123 ?_
              refine lv_goto (tgt := 148) hx hb dX5_sumOf_124 (by decide) ?_
              refine lv_iadd hx hb dX5_sumOf_148 ?_
              refine lv_istore_n (lv' := [(2, .int (sm + (M 0 (803 + i)))), (5, .int (bI false)), (4, .int ((v_X5_ones (M 0 (353 + i))) + (v_X5_ones (M 0 (503 + i))))), (0, .ref (u 0)), (1, .int (nI k)), (3, .int (nI i))]) hx hb dX5_sumOf_149 rfl hl (by decide) rfl (fun ls hl => ?_)
              refine lv_iinc (v := (nI (i + 1))) (lv' := [(3, .int (nI (i + 1))), (2, .int (sm + (M 0 (803 + i)))), (5, .int (bI false)), (4, .int ((v_X5_ones (M 0 (353 + i))) + (v_X5_ones (M 0 (503 + i))))), (0, .ref (u 0)), (1, .int (nI k))]) hx hb dX5_sumOf_150 hl (k := 5) rfl (nI_add _ 1) (by decide) rfl (fun ls hl => ?_)
              refine lv_goto (tgt := 4) hx hb dX5_sumOf_153 (by decide) ?_
              exact ih4 (sm + (M 0 (803 + i))) (i + 1) (by omega) (by omega) ls (lv_sub hl [4, 5, 1, 0] rfl) hq
          · have c_26 : ¬ ((v_X5_breadsOf M i) ≤ 0) := c_26
            have hq := hq.trans (if_neg c_26)
            refine lv_iconst (v := 1) hx hb dX5_sumOf_53 (by decide) ?_
            refine lv_goto (tgt := 106) hx hb dX5_sumOf_54 (by decide) ?_
            refine lv_is (show (1 : Int32) = bI true from rfl) ?_
            refine lv_istore (lv' := [(5, .int (bI true)), (4, .int ((v_X5_ones (M 0 (353 + i))) + (v_X5_ones (M 0 (503 + i))))), (0, .ref (u 0)), (1, .int (nI k)), (2, .int sm), (3, .int (nI i))]) hx hb dX5_sumOf_106 hl (by decide) rfl (fun ls hl => ?_)
            refine lv_iload_n hx hb dX5_sumOf_108 rfl (lv_at hl 4 rfl) ?_
            refine lv_iload_n hx hb dX5_sumOf_109 rfl (lv_at hl 3 rfl) ?_
            refine lv_iconst (v := 3) hx hb dX5_sumOf_110 (by decide) ?_
            refine lv_icmp_ne (tgt := 127) hx hb dX5_sumOf_111 (by decide) (fun c_30 => ?_) (fun c_30 => ?_)
            · have c_30 : ¬ (k = 3) := fun h9 => c_30 ((nI_eq (a := k) (b := 3) (by omega) (by omega)).mpr h9)
              have hq := hq.trans (if_neg c_30)
              refine lv_iload_n hx hb dX5_sumOf_127 rfl (lv_at hl 3 rfl) ?_
              refine lv_bipush (v := 7) hx hb dX5_sumOf_128 (by decide) ?_
              refine lv_icmp_ne (tgt := 138) hx hb dX5_sumOf_130 (by decide) (fun c_31 => ?_) (fun c_31 => ?_)
              · have c_31 : ¬ (k = 7) := fun h9 => c_31 ((nI_eq (a := k) (b := 7) (by omega) (by omega)).mpr h9)
                have hq := hq.trans (if_neg c_31)
                refine lv_iload hx hb dX5_sumOf_138 (lv_at hl 0 rfl) ?_
                refine zif_eq (tgt := 147) hx hb dX5_sumOf_140 (by decide) (fun c_32 => ?_) (fun c_32 => ?_)
                · cases c_32
                refine lv_iconst (v := 1) hx hb dX5_sumOf_143 (by decide) ?_
                refine lv_goto (tgt := 148) hx hb dX5_sumOf_144 (by decide) ?_
                refine lv_iadd hx hb dX5_sumOf_148 ?_
                refine lv_istore_n (lv' := [(2, .int (sm + 1)), (5, .int (bI true)), (4, .int ((v_X5_ones (M 0 (353 + i))) + (v_X5_ones (M 0 (503 + i))))), (0, .ref (u 0)), (1, .int (nI k)), (3, .int (nI i))]) hx hb dX5_sumOf_149 rfl hl (by decide) rfl (fun ls hl => ?_)
                refine lv_iinc (v := (nI (i + 1))) (lv' := [(3, .int (nI (i + 1))), (2, .int (sm + 1)), (5, .int (bI true)), (4, .int ((v_X5_ones (M 0 (353 + i))) + (v_X5_ones (M 0 (503 + i))))), (0, .ref (u 0)), (1, .int (nI k))]) hx hb dX5_sumOf_150 hl (k := 5) rfl (nI_add _ 1) (by decide) rfl (fun ls hl => ?_)
                refine lv_goto (tgt := 4) hx hb dX5_sumOf_153 (by decide) ?_
                exact ih4 (sm + 1) (i + 1) (by omega) (by omega) ls (lv_sub hl [4, 5, 1, 0] rfl) hq
              · have c_31 : k = 7 := (nI_eq (a := k) (b := 7) (by omega) (by omega)).mp c_31
                have hq := hq.trans (if_pos c_31)
                refine lv_iload hx hb dX5_sumOf_133 (lv_at hl 1 rfl) ?_
                refine lv_goto (tgt := 148) hx hb dX5_sumOf_135 (by decide) ?_
                refine lv_iadd hx hb dX5_sumOf_148 ?_
                refine lv_istore_n (lv' := [(2, .int (sm + ((v_X5_ones (M 0 (353 + i))) + (v_X5_ones (M 0 (503 + i)))))), (5, .int (bI true)), (4, .int ((v_X5_ones (M 0 (353 + i))) + (v_X5_ones (M 0 (503 + i))))), (0, .ref (u 0)), (1, .int (nI k)), (3, .int (nI i))]) hx hb dX5_sumOf_149 rfl hl (by decide) rfl (fun ls hl => ?_)
                refine lv_iinc (v := (nI (i + 1))) (lv' := [(3, .int (nI (i + 1))), (2, .int (sm + ((v_X5_ones (M 0 (353 + i))) + (v_X5_ones (M 0 (503 + i)))))), (5, .int (bI true)), (4, .int ((v_X5_ones (M 0 (353 + i))) + (v_X5_ones (M 0 (503 + i))))), (0, .ref (u 0)), (1, .int (nI k))]) hx hb dX5_sumOf_150 hl (k := 5) rfl (nI_add _ 1) (by decide) rfl (fun ls hl => ?_)
                refine lv_goto (tgt := 4) hx hb dX5_sumOf_153 (by decide) ?_
                exact ih4 (sm + ((v_X5_ones (M 0 (353 + i))) + (v_X5_ones (M 0 (503 + i))))) (i + 1) (by omega) (by omega) ls (lv_sub hl [4, 5, 1, 0] rfl) hq
            · have c_30 : k = 3 := (nI_eq (a := k) (b := 3) (by omega) (by omega)).mp c_30
              have hq := hq.trans (if_pos c_30)
              refine lv_aload_n hx hb dX5_sumOf_114 rfl (lv_at hl 2 rfl) ?_
              refine va_get (D := D) (ci := 5) (v := .ref (u 1)) (C := RX5) (T := TX5) (N := 13) hx hb hts hinX5 hown hK.1 hP 0 rfl rfl 0 (by decide) (hts (.fieldLink RX5 7 "SaltSharesModel" "z" "[I") (List.mem_of_getElem? (i := 1) rfl)) (fun _ h9 => h9) rfl dX5_sumOf_115 ?_
              refine lv_sipush (v := 803) hx hb dX5_sumOf_118 (by decide) ?_
              refine lv_iload_n hx hb dX5_sumOf_121 rfl (lv_at hl 5 rfl) ?_
              refine lv_iadd hx hb dX5_sumOf_122 ?_
              refine lv_is (show (803 : Int32) + (nI i) = (nI (803 + i)) from nI_add 803 i) ?_
              refine z_iald (i := 803 + i) hx hb hK hP 1 0 rfl rfl (by omega) (by decide) dX5_sumOf_123 ?_
              refine lv_goto (tgt := 148) hx hb dX5_sumOf_124 (by decide) ?_
              refine lv_iadd hx hb dX5_sumOf_148 ?_
              refine lv_istore_n (lv' := [(2, .int (sm + (M 0 (803 + i)))), (5, .int (bI true)), (4, .int ((v_X5_ones (M 0 (353 + i))) + (v_X5_ones (M 0 (503 + i))))), (0, .ref (u 0)), (1, .int (nI k)), (3, .int (nI i))]) hx hb dX5_sumOf_149 rfl hl (by decide) rfl (fun ls hl => ?_)
              refine lv_iinc (v := (nI (i + 1))) (lv' := [(3, .int (nI (i + 1))), (2, .int (sm + (M 0 (803 + i)))), (5, .int (bI true)), (4, .int ((v_X5_ones (M 0 (353 + i))) + (v_X5_ones (M 0 (503 + i))))), (0, .ref (u 0)), (1, .int (nI k))]) hx hb dX5_sumOf_150 hl (k := 5) rfl (nI_add _ 1) (by decide) rfl (fun ls hl => ?_)
              refine lv_goto (tgt := 4) hx hb dX5_sumOf_153 (by decide) ?_
              exact ih4 (sm + (M 0 (803 + i))) (i + 1) (by omega) (by omega) ls (lv_sub hl [4, 5, 1, 0] rfl) hq
  exact L4 151 0 0 (by omega) (by omega) ls (lv_sub hl [2, 3, 1, 0] rfl) hq
def v_X5_counted (M : Nat → Nat → Int32) (k : Nat) : Int32 := (if k ≤ 19 then (if k ≤ 9 then (if k = 0 then (M 0 1) else (if k = 1 then (v_X5_openBreads M) else (if k = 2 then (M 0 0) else (if k = 3 then (v_X5_sumOf M k) else (if k = 4 then (v_X5_sumOf M k) else (if k = 5 then (v_X5_sumOf M k) else (if k = 6 then (v_X5_sumOf M k) else (if k = 7 then (v_X5_sumOf M k) else (if k = 8 then (M 1 0) else (v_X5_sumOf M k)))))))))) else (M 0 ((2 + k) - 10))) else (v_X5_freeOf M (k - 20)))
set_option maxHeartbeats 400000 in
set_option maxRecDepth 100000 in
theorem c_X5_counted (l : Launch) (D : va_G) (g : Nat → ClassId) (u : Nat → Nat) (M : Nat → Nat → Int32) (w : Int64) (k : Nat) (z0 : zG M) (z1 : vp_in (M 0 1) 9) (z2 : k < 9 ∨ (10 ≤ k ∧ k ≤ 12) ∨ (20 ≤ k ∧ k ≤ 22)) : Rd l D (zT g) yX5_counted wsX5_counted (rmOf 7 162) [.ref (u 0), .int (nI k)] (zB_X5 (g 0) u M w) (.int (v_X5_counted M k)) := by
  refine Rd.of (cc := cX5_counted) (maxL := 2) (ret := (some .int)) (by decide) rfl (Nat.le_of_ble_eq_true rfl) ?_
  intro p e s m below meth c ls hx hb hr hml hown hts hlocks hP hK hl
  have hown : s.vm.findClass RX5 = some m.cls := hown
  have hinX5 : ∀ w ∈ u_ws RX5 TX5 13, w ∈ wsX5_counted := fun _ h9 => (List.mem_cons_of_mem _ (List.mem_append_right _ h9))
  obtain ⟨q, hq⟩ : ∃ q : Int32, q = v_X5_counted M k := ⟨_, rfl⟩
  rw [← hq]
  unfold v_X5_counted at hq
  have hl : lv_has ls 2 [(0, .ref (u 0)), (1, .int (nI k))] := hl
  refine lv_iload_n hx hb dX5_counted_0 rfl (lv_at hl 1 rfl) ?_
  refine lv_bipush (v := 19) hx hb dX5_counted_1 (by decide) ?_
  refine lv_icmp_le (tgt := 15) hx hb dX5_counted_3 (by decide) (fun c_1 => ?_) (fun c_1 => ?_)
  · have c_1 : k ≤ 19 := (nI_leI (a := k) (b := 19) (by omega) (by omega)).mp c_1
    have hq := hq.trans (if_pos c_1)
    refine lv_iload_n hx hb dX5_counted_15 rfl (lv_at hl 1 rfl) ?_
    refine lv_bipush (v := 9) hx hb dX5_counted_16 (by decide) ?_
    refine lv_icmp_le (tgt := 33) hx hb dX5_counted_18 (by decide) (fun c_2 => ?_) (fun c_2 => ?_)
    · have c_2 : k ≤ 9 := (nI_leI (a := k) (b := 9) (by omega) (by omega)).mp c_2
      have hq := hq.trans (if_pos c_2)
      refine lv_iload_n hx hb dX5_counted_33 rfl (lv_at hl 1 rfl) ?_
      by_cases c_3 : k = 0
      · have hq := hq.trans (if_pos c_3)
        have c_3I : Int32.toInt (nI k) = 0 := (congrArg Int32.toInt (congrArg nI c_3 : nI k = nI 0)).trans (by decide)
        refine lv_tableIn (off := 50) (tgt := 84) hx hb dX5_counted_34 (by rw [c_3I]; decide) (by rw [c_3I]; decide) (by rw [c_3I]; rfl) (by decide) ?_
        refine lv_aload_n hx hb dX5_counted_84 rfl (lv_at hl 0 rfl) ?_
        refine va_get (D := D) (ci := 5) (v := .ref (u 1)) (C := RX5) (T := TX5) (N := 13) hx hb hts hinX5 hown hK.1 hP 0 rfl rfl 0 (by decide) (hts (.fieldLink RX5 7 "SaltSharesModel" "z" "[I") (List.mem_of_getElem? (i := 1) rfl)) (fun _ h9 => h9) rfl dX5_counted_85 ?_
        refine lv_iconst (v := 1) hx hb dX5_counted_88 (by decide) ?_
        refine z_iald (i := 1) hx hb hK hP 1 0 rfl rfl (by omega) (by decide) dX5_counted_89 ?_
        exact zret_i hx hb hr hlocks dX5_counted_90 hq
      · have hq := hq.trans (if_neg c_3)
        by_cases c_4 : k = 1
        · have hq := hq.trans (if_pos c_4)
          have c_4I : Int32.toInt (nI k) = 1 := (congrArg Int32.toInt (congrArg nI c_4 : nI k = nI 1)).trans (by decide)
          refine lv_tableIn (off := 57) (tgt := 91) hx hb dX5_counted_34 (by rw [c_4I]; decide) (by rw [c_4I]; decide) (by rw [c_4I]; rfl) (by decide) ?_
          refine lv_aload_n hx hb dX5_counted_91 rfl (lv_at hl 0 rfl) ?_
          refine zcV (ci := 5) (n := 0) (c_X5_openBreads l D g u M w z1) hx hb hml hown hts gX5_counted_X5_openBreads rfl ⟨rfl, by decide, by decide, by decide⟩ ⟨Nat.le_of_ble_eq_true rfl, Nat.le_of_ble_eq_true rfl⟩ ⟨rfl, rfl⟩ hK hP rfl rfl rfl hl.1 rfl rfl (Nat.le_of_ble_eq_true rfl) ⟨Nat.zero_le _, Nat.zero_le _⟩ dX5_counted_92 ?_
          exact zret_i hx hb hr hlocks dX5_counted_95 hq
        · have hq := hq.trans (if_neg c_4)
          by_cases c_6 : k = 2
          · have hq := hq.trans (if_pos c_6)
            have c_6I : Int32.toInt (nI k) = 2 := (congrArg Int32.toInt (congrArg nI c_6 : nI k = nI 2)).trans (by decide)
            refine lv_tableIn (off := 62) (tgt := 96) hx hb dX5_counted_34 (by rw [c_6I]; decide) (by rw [c_6I]; decide) (by rw [c_6I]; rfl) (by decide) ?_
            refine lv_aload_n hx hb dX5_counted_96 rfl (lv_at hl 0 rfl) ?_
            refine va_get (D := D) (ci := 5) (v := .ref (u 1)) (C := RX5) (T := TX5) (N := 13) hx hb hts hinX5 hown hK.1 hP 0 rfl rfl 0 (by decide) (hts (.fieldLink RX5 7 "SaltSharesModel" "z" "[I") (List.mem_of_getElem? (i := 1) rfl)) (fun _ h9 => h9) rfl dX5_counted_97 ?_
            refine lv_iconst (v := 0) hx hb dX5_counted_100 (by decide) ?_
            refine z_iald (i := 0) hx hb hK hP 1 0 rfl rfl (by omega) (by decide) dX5_counted_101 ?_
            exact zret_i hx hb hr hlocks dX5_counted_102 hq
          · have hq := hq.trans (if_neg c_6)
            by_cases c_7 : k = 3
            · have hq := hq.trans (if_pos c_7)
              have c_7I : Int32.toInt (nI k) = 3 := (congrArg Int32.toInt (congrArg nI c_7 : nI k = nI 3)).trans (by decide)
              refine lv_tableIn (off := 74) (tgt := 108) hx hb dX5_counted_34 (by rw [c_7I]; decide) (by rw [c_7I]; decide) (by rw [c_7I]; rfl) (by decide) ?_
              refine lv_aload_n hx hb dX5_counted_108 rfl (lv_at hl 0 rfl) ?_
              refine lv_iload_n hx hb dX5_counted_109 rfl (lv_at hl 1 rfl) ?_
              refine zcV (ci := 5) (n := 1) (c_X5_sumOf l D g u M w k z0 z1 (by omega)) hx hb hml hown hts gX5_counted_X5_sumOf rfl ⟨rfl, by decide, by decide, by decide⟩ ⟨Nat.le_of_ble_eq_true rfl, Nat.le_of_ble_eq_true rfl⟩ ⟨rfl, rfl⟩ hK hP rfl rfl rfl hl.1 rfl rfl (Nat.le_of_ble_eq_true rfl) ⟨Nat.zero_le _, Nat.zero_le _⟩ dX5_counted_110 ?_
              exact zret_i hx hb hr hlocks dX5_counted_113 hq
            · have hq := hq.trans (if_neg c_7)
              by_cases c_9 : k = 4
              · have hq := hq.trans (if_pos c_9)
                have c_9I : Int32.toInt (nI k) = 4 := (congrArg Int32.toInt (congrArg nI c_9 : nI k = nI 4)).trans (by decide)
                refine lv_tableIn (off := 74) (tgt := 108) hx hb dX5_counted_34 (by rw [c_9I]; decide) (by rw [c_9I]; decide) (by rw [c_9I]; rfl) (by decide) ?_
                refine lv_aload_n hx hb dX5_counted_108 rfl (lv_at hl 0 rfl) ?_
                refine lv_iload_n hx hb dX5_counted_109 rfl (lv_at hl 1 rfl) ?_
                refine zcV (ci := 5) (n := 1) (c_X5_sumOf l D g u M w k z0 z1 (by omega)) hx hb hml hown hts gX5_counted_X5_sumOf rfl ⟨rfl, by decide, by decide, by decide⟩ ⟨Nat.le_of_ble_eq_true rfl, Nat.le_of_ble_eq_true rfl⟩ ⟨rfl, rfl⟩ hK hP rfl rfl rfl hl.1 rfl rfl (Nat.le_of_ble_eq_true rfl) ⟨Nat.zero_le _, Nat.zero_le _⟩ dX5_counted_110 ?_
                exact zret_i hx hb hr hlocks dX5_counted_113 hq
              · have hq := hq.trans (if_neg c_9)
                by_cases c_11 : k = 5
                · have hq := hq.trans (if_pos c_11)
                  have c_11I : Int32.toInt (nI k) = 5 := (congrArg Int32.toInt (congrArg nI c_11 : nI k = nI 5)).trans (by decide)
                  refine lv_tableIn (off := 74) (tgt := 108) hx hb dX5_counted_34 (by rw [c_11I]; decide) (by rw [c_11I]; decide) (by rw [c_11I]; rfl) (by decide) ?_
                  refine lv_aload_n hx hb dX5_counted_108 rfl (lv_at hl 0 rfl) ?_
                  refine lv_iload_n hx hb dX5_counted_109 rfl (lv_at hl 1 rfl) ?_
                  refine zcV (ci := 5) (n := 1) (c_X5_sumOf l D g u M w k z0 z1 (by omega)) hx hb hml hown hts gX5_counted_X5_sumOf rfl ⟨rfl, by decide, by decide, by decide⟩ ⟨Nat.le_of_ble_eq_true rfl, Nat.le_of_ble_eq_true rfl⟩ ⟨rfl, rfl⟩ hK hP rfl rfl rfl hl.1 rfl rfl (Nat.le_of_ble_eq_true rfl) ⟨Nat.zero_le _, Nat.zero_le _⟩ dX5_counted_110 ?_
                  exact zret_i hx hb hr hlocks dX5_counted_113 hq
                · have hq := hq.trans (if_neg c_11)
                  by_cases c_13 : k = 6
                  · have hq := hq.trans (if_pos c_13)
                    have c_13I : Int32.toInt (nI k) = 6 := (congrArg Int32.toInt (congrArg nI c_13 : nI k = nI 6)).trans (by decide)
                    refine lv_tableIn (off := 74) (tgt := 108) hx hb dX5_counted_34 (by rw [c_13I]; decide) (by rw [c_13I]; decide) (by rw [c_13I]; rfl) (by decide) ?_
                    refine lv_aload_n hx hb dX5_counted_108 rfl (lv_at hl 0 rfl) ?_
                    refine lv_iload_n hx hb dX5_counted_109 rfl (lv_at hl 1 rfl) ?_
                    refine zcV (ci := 5) (n := 1) (c_X5_sumOf l D g u M w k z0 z1 (by omega)) hx hb hml hown hts gX5_counted_X5_sumOf rfl ⟨rfl, by decide, by decide, by decide⟩ ⟨Nat.le_of_ble_eq_true rfl, Nat.le_of_ble_eq_true rfl⟩ ⟨rfl, rfl⟩ hK hP rfl rfl rfl hl.1 rfl rfl (Nat.le_of_ble_eq_true rfl) ⟨Nat.zero_le _, Nat.zero_le _⟩ dX5_counted_110 ?_
                    exact zret_i hx hb hr hlocks dX5_counted_113 hq
                  · have hq := hq.trans (if_neg c_13)
                    by_cases c_15 : k = 7
                    · have hq := hq.trans (if_pos c_15)
                      have c_15I : Int32.toInt (nI k) = 7 := (congrArg Int32.toInt (congrArg nI c_15 : nI k = nI 7)).trans (by decide)
                      refine lv_tableIn (off := 74) (tgt := 108) hx hb dX5_counted_34 (by rw [c_15I]; decide) (by rw [c_15I]; decide) (by rw [c_15I]; rfl) (by decide) ?_
                      refine lv_aload_n hx hb dX5_counted_108 rfl (lv_at hl 0 rfl) ?_
                      refine lv_iload_n hx hb dX5_counted_109 rfl (lv_at hl 1 rfl) ?_
                      refine zcV (ci := 5) (n := 1) (c_X5_sumOf l D g u M w k z0 z1 (by omega)) hx hb hml hown hts gX5_counted_X5_sumOf rfl ⟨rfl, by decide, by decide, by decide⟩ ⟨Nat.le_of_ble_eq_true rfl, Nat.le_of_ble_eq_true rfl⟩ ⟨rfl, rfl⟩ hK hP rfl rfl rfl hl.1 rfl rfl (Nat.le_of_ble_eq_true rfl) ⟨Nat.zero_le _, Nat.zero_le _⟩ dX5_counted_110 ?_
                      exact zret_i hx hb hr hlocks dX5_counted_113 hq
                    · have hq := hq.trans (if_neg c_15)
                      by_cases c_17 : k = 8
                      · have hq := hq.trans (if_pos c_17)
                        have c_17I : Int32.toInt (nI k) = 8 := (congrArg Int32.toInt (congrArg nI c_17 : nI k = nI 8)).trans (by decide)
                        refine lv_tableIn (off := 69) (tgt := 103) hx hb dX5_counted_34 (by rw [c_17I]; decide) (by rw [c_17I]; decide) (by rw [c_17I]; rfl) (by decide) ?_
                        refine lv_aload_n hx hb dX5_counted_103 rfl (lv_at hl 0 rfl) ?_
                        refine va_get (D := D) (ci := 5) (v := .int (M 1 0)) (C := RX5) (T := TX5) (N := 13) hx hb hts hinX5 hown hK.1 hP 0 rfl rfl 1 (by decide) (hts (.fieldLink RX5 32 "SaltSharesModel" "states" "I") (List.mem_of_getElem? (i := 2) rfl)) (fun _ h9 => h9) rfl dX5_counted_104 ?_
                        exact zret_i hx hb hr hlocks dX5_counted_107 hq
                      · have hq := hq.trans (if_neg c_17)
                        have c_3N : ¬ Int32.toInt (nI k) = 0 := fun h9 => c_3 (by have := nI_toInt (n := k) (by omega); omega)
                        have c_4N : ¬ Int32.toInt (nI k) = 1 := fun h9 => c_4 (by have := nI_toInt (n := k) (by omega); omega)
                        have c_6N : ¬ Int32.toInt (nI k) = 2 := fun h9 => c_6 (by have := nI_toInt (n := k) (by omega); omega)
                        have c_7N : ¬ Int32.toInt (nI k) = 3 := fun h9 => c_7 (by have := nI_toInt (n := k) (by omega); omega)
                        have c_9N : ¬ Int32.toInt (nI k) = 4 := fun h9 => c_9 (by have := nI_toInt (n := k) (by omega); omega)
                        have c_11N : ¬ Int32.toInt (nI k) = 5 := fun h9 => c_11 (by have := nI_toInt (n := k) (by omega); omega)
                        have c_13N : ¬ Int32.toInt (nI k) = 6 := fun h9 => c_13 (by have := nI_toInt (n := k) (by omega); omega)
                        have c_15N : ¬ Int32.toInt (nI k) = 7 := fun h9 => c_15 (by have := nI_toInt (n := k) (by omega); omega)
                        have c_17N : ¬ Int32.toInt (nI k) = 8 := fun h9 => c_17 (by have := nI_toInt (n := k) (by omega); omega)
                        refine lv_tableOut (tgt := 108) hx hb dX5_counted_34 (by omega) (by decide) ?_
                        refine lv_aload_n hx hb dX5_counted_108 rfl (lv_at hl 0 rfl) ?_
                        refine lv_iload_n hx hb dX5_counted_109 rfl (lv_at hl 1 rfl) ?_
                        refine zcV (ci := 5) (n := 1) (c_X5_sumOf l D g u M w k z0 z1 (by omega)) hx hb hml hown hts gX5_counted_X5_sumOf rfl ⟨rfl, by decide, by decide, by decide⟩ ⟨Nat.le_of_ble_eq_true rfl, Nat.le_of_ble_eq_true rfl⟩ ⟨rfl, rfl⟩ hK hP rfl rfl rfl hl.1 rfl rfl (Nat.le_of_ble_eq_true rfl) ⟨Nat.zero_le _, Nat.zero_le _⟩ dX5_counted_110 ?_
                        exact zret_i hx hb hr hlocks dX5_counted_113 hq
    · have c_2 : ¬ (k ≤ 9) := fun h9 => c_2 ((nI_leI (a := k) (b := 9) (by omega) (by omega)).mpr h9)
      have hq := hq.trans (if_neg c_2)
      refine lv_aload_n hx hb dX5_counted_21 rfl (lv_at hl 0 rfl) ?_
      refine va_get (D := D) (ci := 5) (v := .ref (u 1)) (C := RX5) (T := TX5) (N := 13) hx hb hts hinX5 hown hK.1 hP 0 rfl rfl 0 (by decide) (hts (.fieldLink RX5 7 "SaltSharesModel" "z" "[I") (List.mem_of_getElem? (i := 1) rfl)) (fun _ h9 => h9) rfl dX5_counted_22 ?_
      refine lv_iconst (v := 2) hx hb dX5_counted_25 (by decide) ?_
      refine lv_iload_n hx hb dX5_counted_26 rfl (lv_at hl 1 rfl) ?_
      refine lv_iadd hx hb dX5_counted_27 ?_
      refine lv_is (show (2 : Int32) + (nI k) = (nI (2 + k)) from nI_add 2 k) ?_
      refine lv_bipush (v := 10) hx hb dX5_counted_28 (by decide) ?_
      refine lv_isub hx hb dX5_counted_30 ?_
      refine lv_is (show (nI (2 + k)) - 10 = (nI ((2 + k) - 10)) from pk_sub (a := 2 + k) (b := 10) (by omega)) ?_
      refine z_iald (i := (2 + k) - 10) hx hb hK hP 1 0 rfl rfl (by omega) (by decide) dX5_counted_31 ?_
      exact zret_i hx hb hr hlocks dX5_counted_32 hq
  · have c_1 : ¬ (k ≤ 19) := fun h9 => c_1 ((nI_leI (a := k) (b := 19) (by omega) (by omega)).mpr h9)
    have hq := hq.trans (if_neg c_1)
    refine lv_aload_n hx hb dX5_counted_6 rfl (lv_at hl 0 rfl) ?_
    refine lv_iload_n hx hb dX5_counted_7 rfl (lv_at hl 1 rfl) ?_
    refine lv_bipush (v := 20) hx hb dX5_counted_8 (by decide) ?_
    refine lv_isub hx hb dX5_counted_10 ?_
    refine lv_is (show (nI k) - 20 = (nI (k - 20)) from pk_sub (a := k) (b := 20) (by omega)) ?_
    refine zcV (ci := 5) (n := 1) (c_X5_freeOf l D g u M w (k - 20) (by omega)) hx hb hml hown hts gX5_counted_X5_freeOf rfl ⟨rfl, by decide, by decide, by decide⟩ ⟨Nat.le_of_ble_eq_true rfl, Nat.le_of_ble_eq_true rfl⟩ ⟨rfl, rfl⟩ hK hP rfl rfl rfl hl.1 rfl rfl (Nat.le_of_ble_eq_true rfl) ⟨Nat.zero_le _, Nat.zero_le _⟩ dX5_counted_11 ?_
    exact zret_i hx hb hr hlocks dX5_counted_14 hq
