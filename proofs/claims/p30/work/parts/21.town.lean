def v_X3_freeBuckets_4 (T : Nat → Nat → Int32) (gr : Nat) : Nat → Nat → Nat → Nat
  | 0, _, _ => (0)
  | n + 1, many, i => (if 100 ≤ i then many else (if (T 10 (gr * 100 + i)) = (-1) then v_X3_freeBuckets_4 T gr n (many + 1) (i + 1) else v_X3_freeBuckets_4 T gr n many (i + 1)))
def v_X3_freeBuckets (T : Nat → Nat → Int32) (gr : Nat) : Nat := v_X3_freeBuckets_4 T gr 101 0 0
set_option maxHeartbeats 400000 in
set_option maxRecDepth 100000 in
theorem c_X3_freeBuckets (l : Launch) (D : va_G) (g : Nat → ClassId) (h : Nat → Nat) (T : Nat → Nat → Int32) (gr : Nat) (z0 : gr < 3) : Rd l D (zT g) yX3_freeBuckets wsX3_freeBuckets (rmOf 0 0) [.ref (h 0), .int (nI gr)] (zB_X3 (g 0) h T) (.int (nI (v_X3_freeBuckets T gr))) := by
  refine Rd.of (cc := cX3_freeBuckets) (maxL := 4) (ret := (some .int)) (by decide) rfl (Nat.le_of_ble_eq_true rfl) ?_
  intro p e s m below meth c ls hx hb hr hml hown hts hlocks hP hK hl
  have hown : s.vm.findClass RX3 = some m.cls := hown
  have hinX3 : ∀ w ∈ u_ws RX3 TX3 15, w ∈ wsX3_freeBuckets := fun _ h9 => (List.mem_cons_of_mem _ (List.mem_append_right _ h9))
  obtain ⟨q, hq⟩ : ∃ q : Nat, q = v_X3_freeBuckets T gr := ⟨_, rfl⟩
  rw [← hq]
  unfold v_X3_freeBuckets at hq
  have hl : lv_has ls 4 [(0, .ref (h 0)), (1, .int (nI gr))] := hl
  refine lv_iconst (v := 0) hx hb dX3_freeBuckets_0 (by decide) ?_
  refine lv_istore_n (lv' := [(2, .int 0), (0, .ref (h 0)), (1, .int (nI gr))]) hx hb dX3_freeBuckets_1 rfl hl (by decide) rfl (fun ls hl => ?_)
  refine lv_iconst (v := 0) hx hb dX3_freeBuckets_2 (by decide) ?_
  refine lv_istore_n (lv' := [(3, .int 0), (2, .int 0), (0, .ref (h 0)), (1, .int (nI gr))]) hx hb dX3_freeBuckets_3 rfl hl (by decide) rfl (fun ls hl => ?_)
  have L4 : ∀ (n : Nat) (many : Nat) (i : Nat), (i ≤ 100) → 100 - i < n → ∀ (ls : Array Slot), lv_has ls 4 [(0, .ref (h 0)), (1, .int (nI gr)), (2, .int (nI many)), (3, .int (nI i))] → q = v_X3_freeBuckets_4 T gr n many i → W p l e (rmOf 0 0) s m [.ref (h 0), .int (nI gr)].toArray below meth c s.heap [] 0 0 (MQ below (zQ (.int (nI q))) [.ref (h 0), .int (nI gr)].toArray s 0 0 (fun _ => False)) (F0 m 4 ls []) := by
    intro n
    induction n with
    | zero => intro many i v4_0 hn; exact absurd hn (Nat.not_lt_zero _)
    | succ n ih4 =>
      intro many i v4_0 hn4 ls hl hq
      rw [v_X3_freeBuckets_4] at hq
      refine lv_iload_n hx hb dX3_freeBuckets_4 rfl (lv_at hl 3 rfl) ?_
      refine lv_bipush (v := 100) hx hb dX3_freeBuckets_5 (by decide) ?_
      refine lv_icmp_ge (tgt := 34) hx hb dX3_freeBuckets_7 (by decide) (fun c_1 => ?_) (fun c_1 => ?_)
      · have c_1 : 100 ≤ i := (nI_leI (a := 100) (b := i) (by omega) (by omega)).mp c_1
        have hq := hq.trans (if_pos c_1)
        refine lv_iload_n hx hb dX3_freeBuckets_34 rfl (lv_at hl 2 rfl) ?_
        exact zret_i hx hb hr hlocks dX3_freeBuckets_35 (congrArg nI hq)
      · have c_1 : ¬ (100 ≤ i) := fun h9 => c_1 ((nI_leI (a := 100) (b := i) (by omega) (by omega)).mpr h9)
        have hq := hq.trans (if_neg c_1)
        refine lv_aload_n hx hb dX3_freeBuckets_10 rfl (lv_at hl 0 rfl) ?_
        refine va_get (D := D) (ci := 3) (v := .ref (h 11)) (C := RX3) (T := TX3) (N := 15) hx hb hts hinX3 hown hK.1 hP 0 rfl rfl 10 (by decide) (hts (.fieldLink RX3 27 "SaltShares$Town" "ownerOf" "[I") (List.mem_of_getElem? (i := 1) rfl)) (fun _ h9 => h9) rfl dX3_freeBuckets_11 ?_
        refine lv_iload_n hx hb dX3_freeBuckets_14 rfl (lv_at hl 1 rfl) ?_
        refine lv_bipush (v := 100) hx hb dX3_freeBuckets_15 (by decide) ?_
        refine lv_imul hx hb dX3_freeBuckets_17 ?_
        refine lv_is (show (nI gr) * 100 = (nI (gr * 100)) from pk_mul gr 100) ?_
        refine lv_iload_n hx hb dX3_freeBuckets_18 rfl (lv_at hl 3 rfl) ?_
        refine lv_iadd hx hb dX3_freeBuckets_19 ?_
        refine lv_is (show (nI (gr * 100)) + (nI i) = (nI (gr * 100 + i)) from nI_add (gr * 100) i) ?_
        refine z_iald (i := gr * 100 + i) hx hb hK hP 6 0 rfl rfl (by omega) (by decide) dX3_freeBuckets_20 ?_
        refine lv_iconst (v := (-1)) hx hb dX3_freeBuckets_21 (by decide) ?_
        refine lv_icmp_ne (tgt := 28) hx hb dX3_freeBuckets_22 (by decide) (fun c_2 => ?_) (fun c_2 => ?_)
        · have c_2 : ¬ ((T 10 (gr * 100 + i)) = (-1)) := c_2
          have hq := hq.trans (if_neg c_2)
          refine lv_iinc (v := (nI (i + 1))) (lv' := [(3, .int (nI (i + 1))), (0, .ref (h 0)), (1, .int (nI gr)), (2, .int (nI many))]) hx hb dX3_freeBuckets_28 hl (k := 3) rfl (nI_add _ 1) (by decide) rfl (fun ls hl => ?_)
          refine lv_goto (tgt := 4) hx hb dX3_freeBuckets_31 (by decide) ?_
          exact ih4 many (i + 1) (by omega) (by omega) ls (lv_sub hl [1, 2, 3, 0] rfl) hq
        · have c_2 : (T 10 (gr * 100 + i)) = (-1) := c_2
          have hq := hq.trans (if_pos c_2)
          refine lv_iinc (v := (nI (many + 1))) (lv' := [(2, .int (nI (many + 1))), (0, .ref (h 0)), (1, .int (nI gr)), (3, .int (nI i))]) hx hb dX3_freeBuckets_25 hl (k := 2) rfl (nI_add _ 1) (by decide) rfl (fun ls hl => ?_)
          refine lv_iinc (v := (nI (i + 1))) (lv' := [(3, .int (nI (i + 1))), (2, .int (nI (many + 1))), (0, .ref (h 0)), (1, .int (nI gr))]) hx hb dX3_freeBuckets_28 hl (k := 3) rfl (nI_add _ 1) (by decide) rfl (fun ls hl => ?_)
          refine lv_goto (tgt := 4) hx hb dX3_freeBuckets_31 (by decide) ?_
          exact ih4 (many + 1) (i + 1) (by omega) (by omega) ls (lv_sub hl [2, 3, 1, 0] rfl) hq
  exact L4 101 0 0 (by omega) (by omega) ls (lv_sub hl [2, 3, 1, 0] rfl) hq
def v_X3_canRaise (T : Nat → Nat → Int32) (x : Int32) (to : Int32) : Bool := (if (v_X3_isOpenBread T x) = true then (if (T 7 (Int32.toNatClampNeg x)) ≤ to then (if (v_X4_isGroup (T 5 (Int32.toNatClampNeg x))) = true then (if (nI (v_X3_freeBuckets T (Int32.toNatClampNeg (T 5 (Int32.toNatClampNeg x))))) < (to - (T 7 (Int32.toNatClampNeg x))) then false else true) else true) else false) else false)
set_option maxHeartbeats 400000 in
set_option maxRecDepth 100000 in
theorem c_X3_canRaise (l : Launch) (D : va_G) (g : Nat → ClassId) (h : Nat → Nat) (T : Nat → Nat → Int32) (x : Int32) (to : Int32) : Rd l D (zT g) yX3_canRaise wsX3_canRaise (rmOf 2 42) [.ref (h 0), .int x, .int to] (zB_X3 (g 0) h T) (.int (bI (v_X3_canRaise T x to))) := by
  refine Rd.of (cc := cX3_canRaise) (maxL := 4) (ret := (some .boolean)) (by decide) rfl (Nat.le_of_ble_eq_true rfl) ?_
  intro p e s m below meth c ls hx hb hr hml hown hts hlocks hP hK hl
  have hown : s.vm.findClass RX3 = some m.cls := hown
  have hinX3 : ∀ w ∈ u_ws RX3 TX3 15, w ∈ wsX3_canRaise := fun _ h9 => (List.mem_cons_of_mem _ (List.mem_append_right _ h9))
  obtain ⟨q, hq⟩ : ∃ q : Bool, q = v_X3_canRaise T x to := ⟨_, rfl⟩
  rw [← hq]
  unfold v_X3_canRaise at hq
  have hl : lv_has ls 4 [(0, .ref (h 0)), (1, .int x), (2, .int to)] := hl
  refine lv_aload_n hx hb dX3_canRaise_0 rfl (lv_at hl 0 rfl) ?_
  refine lv_iload_n hx hb dX3_canRaise_1 rfl (lv_at hl 1 rfl) ?_
  refine zcV (ci := 3) (n := 1) (c_X3_isOpenBread l D g h T x) hx hb hml hown hts gX3_canRaise_X3_isOpenBread rfl ⟨rfl, by decide, by decide, by decide⟩ ⟨Nat.le_of_ble_eq_true rfl, Nat.le_of_ble_eq_true rfl⟩ ⟨rfl, rfl⟩ hK hP rfl rfl rfl hl.1 rfl rfl (Nat.le_of_ble_eq_true rfl) ⟨Nat.zero_le _, Nat.zero_le _⟩ dX3_canRaise_2 ?_
  refine zif_eq (tgt := 18) hx hb dX3_canRaise_5 (by decide) (fun c_2 => ?_) (fun c_2 => ?_)
  · have hq := hq.trans (zif_f c_2)
    refine lv_iconst (v := 0) hx hb dX3_canRaise_18 (by decide) ?_
    exact zret_z (q' := false) hx hb hr hlocks dX3_canRaise_19 hq
  · have hq := hq.trans (zif_t c_2)
    refine lv_iload_n hx hb dX3_canRaise_8 rfl (lv_at hl 2 rfl) ?_
    refine lv_aload_n hx hb dX3_canRaise_9 rfl (lv_at hl 0 rfl) ?_
    refine va_get (D := D) (ci := 3) (v := .ref (h 8)) (C := RX3) (T := TX3) (N := 15) hx hb hts hinX3 hown hK.1 hP 0 rfl rfl 7 (by decide) (hts (.fieldLink RX3 18 "SaltShares$Town" "share" "[I") (List.mem_of_getElem? (i := 1) rfl)) (fun _ h9 => h9) rfl dX3_canRaise_10 ?_
    refine lv_iload_n hx hb dX3_canRaise_13 rfl (lv_at hl 1 rfl) ?_
    refine va_iald hx hb hK.1 hP 3 0 rfl rfl (zin_open (by assumption)) dX3_canRaise_14 ?_
    refine lv_icmp_ge (tgt := 20) hx hb dX3_canRaise_15 (by decide) (fun c_3 => ?_) (fun c_3 => ?_)
    · have c_3 : (T 7 (Int32.toNatClampNeg x)) ≤ to := c_3
      have hq := hq.trans (if_pos c_3)
      refine lv_aload_n hx hb dX3_canRaise_20 rfl (lv_at hl 0 rfl) ?_
      refine va_get (D := D) (ci := 3) (v := .ref (h 6)) (C := RX3) (T := TX3) (N := 15) hx hb hts hinX3 hown hK.1 hP 0 rfl rfl 5 (by decide) (hts (.fieldLink RX3 9 "SaltShares$Town" "groupOf" "[I") (List.mem_of_getElem? (i := 2) rfl)) (fun _ h9 => h9) rfl dX3_canRaise_21 ?_
      refine lv_iload_n hx hb dX3_canRaise_24 rfl (lv_at hl 1 rfl) ?_
      refine va_iald hx hb hK.1 hP 1 0 rfl rfl (zin_open (by assumption)) dX3_canRaise_25 ?_
      refine lv_istore_n (lv' := [(3, .int (T 5 (Int32.toNatClampNeg x))), (0, .ref (h 0)), (1, .int x), (2, .int to)]) hx hb dX3_canRaise_26 rfl hl (by decide) rfl (fun ls hl => ?_)
      refine lv_iload_n hx hb dX3_canRaise_27 rfl (lv_at hl 0 rfl) ?_
      refine zcSN (n := 1) (c_X4_isGroup l D g (T 5 (Int32.toNatClampNeg x))) hx hb hml hown hts gX3_canRaise_X4_isGroup_n68 rfl ⟨by decide, by decide, by decide⟩ ⟨Nat.le_of_ble_eq_true rfl, Nat.le_of_ble_eq_true rfl⟩ ⟨rfl, rfl⟩ (List.mem_of_getElem? (i := 0) rfl) (List.mem_of_getElem? (i := 15) rfl) (List.mem_of_getElem? (i := 14) rfl) hK (hP.sub [] rfl) hl.1 rfl rfl (Nat.le_of_ble_eq_true rfl) ⟨Nat.zero_le _, Nat.zero_le _⟩ dX3_canRaise_28 ?_
      refine zif_eq (tgt := 50) hx hb dX3_canRaise_31 (by decide) (fun c_5 => ?_) (fun c_5 => ?_)
      · have hq := hq.trans (zif_f c_5)
        refine lv_iconst (v := 1) hx hb dX3_canRaise_50 (by decide) ?_
        refine lv_goto (tgt := 55) hx hb dX3_canRaise_51 (by decide) ?_
        exact zret_z (q' := true) hx hb hr hlocks dX3_canRaise_55 hq
      · have hq := hq.trans (zif_t c_5)
        refine lv_iload_n hx hb dX3_canRaise_34 rfl (lv_at hl 3 rfl) ?_
        refine lv_aload_n hx hb dX3_canRaise_35 rfl (lv_at hl 1 rfl) ?_
        refine va_get (D := D) (ci := 3) (v := .ref (h 8)) (C := RX3) (T := TX3) (N := 15) hx hb hts hinX3 hown hK.1 hP 0 rfl rfl 7 (by decide) (hts (.fieldLink RX3 18 "SaltShares$Town" "share" "[I") (List.mem_of_getElem? (i := 1) rfl)) (fun _ h9 => h9) rfl dX3_canRaise_36 ?_
        refine lv_iload_n hx hb dX3_canRaise_39 rfl (lv_at hl 2 rfl) ?_
        refine va_iald hx hb hK.1 hP 3 0 rfl rfl (zin_open (by assumption)) dX3_canRaise_40 ?_
        refine lv_isub hx hb dX3_canRaise_41 ?_
        refine lv_aload_n hx hb dX3_canRaise_42 rfl (lv_at hl 1 rfl) ?_
        refine lv_iload_n hx hb dX3_canRaise_43 rfl (lv_at hl 0 rfl) ?_
        have w_6 := znat (zin_g (by assumption))
        have w_6b := w_6.2
        refine lv_is w_6.1 ?_
        refine zcV (ci := 3) (n := 1) (c_X3_freeBuckets l D g h T (Int32.toNatClampNeg (T 5 (Int32.toNatClampNeg x))) (by omega)) hx hb hml hown hts gX3_canRaise_X3_freeBuckets rfl ⟨rfl, by decide, by decide, by decide⟩ ⟨Nat.le_of_ble_eq_true rfl, Nat.le_of_ble_eq_true rfl⟩ ⟨rfl, rfl⟩ hK hP rfl rfl rfl hl.1 rfl rfl (Nat.le_of_ble_eq_true rfl) ⟨Nat.zero_le _, Nat.zero_le _⟩ dX3_canRaise_44 ?_
        refine lv_icmp_gt (tgt := 54) hx hb dX3_canRaise_47 (by decide) (fun c_8 => ?_) (fun c_8 => ?_)
        · have c_8 : (nI (v_X3_freeBuckets T (Int32.toNatClampNeg (T 5 (Int32.toNatClampNeg x))))) < (to - (T 7 (Int32.toNatClampNeg x))) := c_8
          have hq := hq.trans (if_pos c_8)
          refine lv_iconst (v := 0) hx hb dX3_canRaise_54 (by decide) ?_
          exact zret_z (q' := false) hx hb hr hlocks dX3_canRaise_55 hq
        · have c_8 : ¬ ((nI (v_X3_freeBuckets T (Int32.toNatClampNeg (T 5 (Int32.toNatClampNeg x))))) < (to - (T 7 (Int32.toNatClampNeg x)))) := c_8
          have hq := hq.trans (if_neg c_8)
          refine lv_iconst (v := 1) hx hb dX3_canRaise_50 (by decide) ?_
          refine lv_goto (tgt := 55) hx hb dX3_canRaise_51 (by decide) ?_
          exact zret_z (q' := true) hx hb hr hlocks dX3_canRaise_55 hq
    · have c_3 : ¬ ((T 7 (Int32.toNatClampNeg x)) ≤ to) := c_3
      have hq := hq.trans (if_neg c_3)
      refine lv_iconst (v := 0) hx hb dX3_canRaise_18 (by decide) ?_
      exact zret_z (q' := false) hx hb hr hlocks dX3_canRaise_19 hq
def v_X3_canLower (T : Nat → Nat → Int32) (x : Int32) (to : Int32) : Bool := (if (v_X3_isOpenBread T x) = true then (if (T 7 (Int32.toNatClampNeg x)) < to then false else true) else false)
set_option maxHeartbeats 400000 in
set_option maxRecDepth 100000 in
theorem c_X3_canLower (l : Launch) (D : va_G) (g : Nat → ClassId) (h : Nat → Nat) (T : Nat → Nat → Int32) (x : Int32) (to : Int32) : Rd l D (zT g) yX3_canLower wsX3_canLower (rmOf 2 42) [.ref (h 0), .int x, .int to] (zB_X3 (g 0) h T) (.int (bI (v_X3_canLower T x to))) := by
  refine Rd.of (cc := cX3_canLower) (maxL := 3) (ret := (some .boolean)) (by decide) rfl (Nat.le_of_ble_eq_true rfl) ?_
  intro p e s m below meth c ls hx hb hr hml hown hts hlocks hP hK hl
  have hown : s.vm.findClass RX3 = some m.cls := hown
  have hinX3 : ∀ w ∈ u_ws RX3 TX3 15, w ∈ wsX3_canLower := fun _ h9 => (List.mem_cons_of_mem _ (List.mem_append_right _ h9))
  obtain ⟨q, hq⟩ : ∃ q : Bool, q = v_X3_canLower T x to := ⟨_, rfl⟩
  rw [← hq]
  unfold v_X3_canLower at hq
  have hl : lv_has ls 3 [(0, .ref (h 0)), (1, .int x), (2, .int to)] := hl
  refine lv_aload_n hx hb dX3_canLower_0 rfl (lv_at hl 0 rfl) ?_
  refine lv_iload_n hx hb dX3_canLower_1 rfl (lv_at hl 1 rfl) ?_
  refine zcV (ci := 3) (n := 1) (c_X3_isOpenBread l D g h T x) hx hb hml hown hts gX3_canLower_X3_isOpenBread rfl ⟨rfl, by decide, by decide, by decide⟩ ⟨Nat.le_of_ble_eq_true rfl, Nat.le_of_ble_eq_true rfl⟩ ⟨rfl, rfl⟩ hK hP rfl rfl rfl hl.1 rfl rfl (Nat.le_of_ble_eq_true rfl) ⟨Nat.zero_le _, Nat.zero_le _⟩ dX3_canLower_2 ?_
  refine zif_eq (tgt := 22) hx hb dX3_canLower_5 (by decide) (fun c_2 => ?_) (fun c_2 => ?_)
  · have hq := hq.trans (zif_f c_2)
    refine lv_iconst (v := 0) hx hb dX3_canLower_22 (by decide) ?_
    exact zret_z (q' := false) hx hb hr hlocks dX3_canLower_23 hq
  · have hq := hq.trans (zif_t c_2)
    refine lv_iload_n hx hb dX3_canLower_8 rfl (lv_at hl 2 rfl) ?_
    refine lv_aload_n hx hb dX3_canLower_9 rfl (lv_at hl 0 rfl) ?_
    refine va_get (D := D) (ci := 3) (v := .ref (h 8)) (C := RX3) (T := TX3) (N := 15) hx hb hts hinX3 hown hK.1 hP 0 rfl rfl 7 (by decide) (hts (.fieldLink RX3 18 "SaltShares$Town" "share" "[I") (List.mem_of_getElem? (i := 1) rfl)) (fun _ h9 => h9) rfl dX3_canLower_10 ?_
    refine lv_iload_n hx hb dX3_canLower_13 rfl (lv_at hl 1 rfl) ?_
    refine va_iald hx hb hK.1 hP 3 0 rfl rfl (zin_open (by assumption)) dX3_canLower_14 ?_
    refine lv_icmp_gt (tgt := 22) hx hb dX3_canLower_15 (by decide) (fun c_3 => ?_) (fun c_3 => ?_)
    · have c_3 : (T 7 (Int32.toNatClampNeg x)) < to := c_3
      have hq := hq.trans (if_pos c_3)
      refine lv_iconst (v := 0) hx hb dX3_canLower_22 (by decide) ?_
      exact zret_z (q' := false) hx hb hr hlocks dX3_canLower_23 hq
    · have c_3 : ¬ ((T 7 (Int32.toNatClampNeg x)) < to) := c_3
      have hq := hq.trans (if_neg c_3)
      refine lv_iconst (v := 1) hx hb dX3_canLower_18 (by decide) ?_
      refine lv_goto (tgt := 23) hx hb dX3_canLower_19 (by decide) ?_
      exact zret_z (q' := true) hx hb hr hlocks dX3_canLower_23 hq
def v_X3_isHeld (T : Nat → Nat → Int32) (pe : Nat) (b : Nat) : Bool := (if ((((T 11 pe) ||| (T 12 pe)) >>> ((nI b) &&& 31)) &&& 1) = 0 then false else true)
set_option maxHeartbeats 400000 in
set_option maxRecDepth 100000 in
theorem c_X3_isHeld (l : Launch) (D : va_G) (g : Nat → ClassId) (h : Nat → Nat) (T : Nat → Nat → Int32) (pe : Nat) (b : Nat) (z0 : pe < 150) (z1 : b < 8) : Rd l D (zT g) yX3_isHeld wsX3_isHeld (rmOf 0 0) [.ref (h 0), .int (nI pe), .int (nI b)] (zB_X3 (g 0) h T) (.int (bI (v_X3_isHeld T pe b))) := by
  refine Rd.of (cc := cX3_isHeld) (maxL := 3) (ret := (some .boolean)) (by decide) rfl (Nat.le_of_ble_eq_true rfl) ?_
  intro p e s m below meth c ls hx hb hr hml hown hts hlocks hP hK hl
  have hown : s.vm.findClass RX3 = some m.cls := hown
  have hinX3 : ∀ w ∈ u_ws RX3 TX3 15, w ∈ wsX3_isHeld := fun _ h9 => (List.mem_cons_of_mem _ (List.mem_append_right _ h9))
  obtain ⟨q, hq⟩ : ∃ q : Bool, q = v_X3_isHeld T pe b := ⟨_, rfl⟩
  rw [← hq]
  unfold v_X3_isHeld at hq
  have hl : lv_has ls 3 [(0, .ref (h 0)), (1, .int (nI pe)), (2, .int (nI b))] := hl
  refine lv_aload_n hx hb dX3_isHeld_0 rfl (lv_at hl 0 rfl) ?_
  refine va_get (D := D) (ci := 3) (v := .ref (h 12)) (C := RX3) (T := TX3) (N := 15) hx hb hts hinX3 hown hK.1 hP 0 rfl rfl 11 (by decide) (hts (.fieldLink RX3 30 "SaltShares$Town" "heldIn" "[I") (List.mem_of_getElem? (i := 1) rfl)) (fun _ h9 => h9) rfl dX3_isHeld_1 ?_
  refine lv_iload_n hx hb dX3_isHeld_4 rfl (lv_at hl 1 rfl) ?_
  refine z_iald (i := pe) hx hb hK hP 7 0 rfl rfl (by omega) (by decide) dX3_isHeld_5 ?_
  refine lv_aload_n hx hb dX3_isHeld_6 rfl (lv_at hl 0 rfl) ?_
  refine va_get (D := D) (ci := 3) (v := .ref (h 13)) (C := RX3) (T := TX3) (N := 15) hx hb hts hinX3 hown hK.1 hP 0 rfl rfl 12 (by decide) (hts (.fieldLink RX3 33 "SaltShares$Town" "heldOut" "[I") (List.mem_of_getElem? (i := 2) rfl)) (fun _ h9 => h9) rfl dX3_isHeld_7 ?_
  refine lv_iload_n hx hb dX3_isHeld_10 rfl (lv_at hl 1 rfl) ?_
  refine z_iald (i := pe) hx hb hK hP 8 0 rfl rfl (by omega) (by decide) dX3_isHeld_11 ?_
  refine lv_ior hx hb dX3_isHeld_12 ?_
  refine lv_iload_n hx hb dX3_isHeld_13 rfl (lv_at hl 2 rfl) ?_
  refine lv_ishr hx hb dX3_isHeld_14 ?_
  refine lv_iconst (v := 1) hx hb dX3_isHeld_15 (by decide) ?_
  refine lv_iand hx hb dX3_isHeld_16 ?_
  refine lv_if_eq (tgt := 24) hx hb dX3_isHeld_17 (by decide) (fun c_1 => ?_) (fun c_1 => ?_)
  · have c_1 : ((((T 11 pe) ||| (T 12 pe)) >>> ((nI b) &&& 31)) &&& 1) = 0 := c_1
    have hq := hq.trans (if_pos c_1)
    refine lv_iconst (v := 0) hx hb dX3_isHeld_24 (by decide) ?_
    exact zret_z (q' := false) hx hb hr hlocks dX3_isHeld_25 hq
  · have c_1 : ¬ (((((T 11 pe) ||| (T 12 pe)) >>> ((nI b) &&& 31)) &&& 1) = 0) := c_1
    have hq := hq.trans (if_neg c_1)
    refine lv_iconst (v := 1) hx hb dX3_isHeld_20 (by decide) ?_
    refine lv_goto (tgt := 25) hx hb dX3_isHeld_21 (by decide) ?_
    exact zret_z (q' := true) hx hb hr hlocks dX3_isHeld_25 hq
def v_X3_isHeldOut (T : Nat → Nat → Int32) (pe : Nat) (b : Nat) : Bool := (if (((T 12 pe) >>> ((nI b) &&& 31)) &&& 1) = 0 then false else true)
set_option maxHeartbeats 400000 in
set_option maxRecDepth 100000 in
theorem c_X3_isHeldOut (l : Launch) (D : va_G) (g : Nat → ClassId) (h : Nat → Nat) (T : Nat → Nat → Int32) (pe : Nat) (b : Nat) (z0 : pe < 150) (z1 : b < 8) : Rd l D (zT g) yX3_isHeldOut wsX3_isHeldOut (rmOf 0 0) [.ref (h 0), .int (nI pe), .int (nI b)] (zB_X3 (g 0) h T) (.int (bI (v_X3_isHeldOut T pe b))) := by
  refine Rd.of (cc := cX3_isHeldOut) (maxL := 3) (ret := (some .boolean)) (by decide) rfl (Nat.le_of_ble_eq_true rfl) ?_
  intro p e s m below meth c ls hx hb hr hml hown hts hlocks hP hK hl
  have hown : s.vm.findClass RX3 = some m.cls := hown
  have hinX3 : ∀ w ∈ u_ws RX3 TX3 15, w ∈ wsX3_isHeldOut := fun _ h9 => (List.mem_cons_of_mem _ (List.mem_append_right _ h9))
  obtain ⟨q, hq⟩ : ∃ q : Bool, q = v_X3_isHeldOut T pe b := ⟨_, rfl⟩
  rw [← hq]
  unfold v_X3_isHeldOut at hq
  have hl : lv_has ls 3 [(0, .ref (h 0)), (1, .int (nI pe)), (2, .int (nI b))] := hl
  refine lv_aload_n hx hb dX3_isHeldOut_0 rfl (lv_at hl 0 rfl) ?_
  refine va_get (D := D) (ci := 3) (v := .ref (h 13)) (C := RX3) (T := TX3) (N := 15) hx hb hts hinX3 hown hK.1 hP 0 rfl rfl 12 (by decide) (hts (.fieldLink RX3 33 "SaltShares$Town" "heldOut" "[I") (List.mem_of_getElem? (i := 1) rfl)) (fun _ h9 => h9) rfl dX3_isHeldOut_1 ?_
  refine lv_iload_n hx hb dX3_isHeldOut_4 rfl (lv_at hl 1 rfl) ?_
  refine z_iald (i := pe) hx hb hK hP 8 0 rfl rfl (by omega) (by decide) dX3_isHeldOut_5 ?_
  refine lv_iload_n hx hb dX3_isHeldOut_6 rfl (lv_at hl 2 rfl) ?_
  refine lv_ishr hx hb dX3_isHeldOut_7 ?_
  refine lv_iconst (v := 1) hx hb dX3_isHeldOut_8 (by decide) ?_
  refine lv_iand hx hb dX3_isHeldOut_9 ?_
  refine lv_if_eq (tgt := 17) hx hb dX3_isHeldOut_10 (by decide) (fun c_1 => ?_) (fun c_1 => ?_)
  · have c_1 : (((T 12 pe) >>> ((nI b) &&& 31)) &&& 1) = 0 := c_1
    have hq := hq.trans (if_pos c_1)
    refine lv_iconst (v := 0) hx hb dX3_isHeldOut_17 (by decide) ?_
    exact zret_z (q' := false) hx hb hr hlocks dX3_isHeldOut_18 hq
  · have c_1 : ¬ ((((T 12 pe) >>> ((nI b) &&& 31)) &&& 1) = 0) := c_1
    have hq := hq.trans (if_neg c_1)
    refine lv_iconst (v := 1) hx hb dX3_isHeldOut_13 (by decide) ?_
    refine lv_goto (tgt := 18) hx hb dX3_isHeldOut_14 (by decide) ?_
    exact zret_z (q' := true) hx hb hr hlocks dX3_isHeldOut_18 hq
def v_X3_isSure (T : Nat → Nat → Int32) (pe : Nat) (b : Nat) : Bool := (if ((T 12 pe) &&& ((1 : Int32) <<< ((nI b) &&& 31))) = 0 then (if ((T 11 pe) &&& ((1 : Int32) <<< ((nI b) &&& 31))) = 0 then (if (((T 4 0) &&& (T 13 pe)) &&& ((1 : Int32) <<< ((nI b) &&& 31))) = 0 then false else true) else true) else false)
set_option maxHeartbeats 400000 in
set_option maxRecDepth 100000 in
theorem c_X3_isSure (l : Launch) (D : va_G) (g : Nat → ClassId) (h : Nat → Nat) (T : Nat → Nat → Int32) (pe : Nat) (b : Nat) (z0 : pe < 150) (z1 : b < 8) : Rd l D (zT g) yX3_isSure wsX3_isSure (rmOf 0 0) [.ref (h 0), .int (nI pe), .int (nI b)] (zB_X3 (g 0) h T) (.int (bI (v_X3_isSure T pe b))) := by
  refine Rd.of (cc := cX3_isSure) (maxL := 4) (ret := (some .boolean)) (by decide) rfl (Nat.le_of_ble_eq_true rfl) ?_
  intro p e s m below meth c ls hx hb hr hml hown hts hlocks hP hK hl
  have hown : s.vm.findClass RX3 = some m.cls := hown
  have hinX3 : ∀ w ∈ u_ws RX3 TX3 15, w ∈ wsX3_isSure := fun _ h9 => (List.mem_cons_of_mem _ (List.mem_append_right _ h9))
  obtain ⟨q, hq⟩ : ∃ q : Bool, q = v_X3_isSure T pe b := ⟨_, rfl⟩
  rw [← hq]
  unfold v_X3_isSure at hq
  have hl : lv_has ls 4 [(0, .ref (h 0)), (1, .int (nI pe)), (2, .int (nI b))] := hl
  refine lv_iconst (v := 1) hx hb dX3_isSure_0 (by decide) ?_
  refine lv_iload_n hx hb dX3_isSure_1 rfl (lv_at hl 2 rfl) ?_
  refine lv_ishl hx hb dX3_isSure_2 ?_
  refine lv_istore_n (lv' := [(3, .int ((1 : Int32) <<< ((nI b) &&& 31))), (0, .ref (h 0)), (1, .int (nI pe)), (2, .int (nI b))]) hx hb dX3_isSure_3 rfl hl (by decide) rfl (fun ls hl => ?_)
  refine lv_aload_n hx hb dX3_isSure_4 rfl (lv_at hl 1 rfl) ?_
  refine va_get (D := D) (ci := 3) (v := .ref (h 13)) (C := RX3) (T := TX3) (N := 15) hx hb hts hinX3 hown hK.1 hP 0 rfl rfl 12 (by decide) (hts (.fieldLink RX3 33 "SaltShares$Town" "heldOut" "[I") (List.mem_of_getElem? (i := 1) rfl)) (fun _ h9 => h9) rfl dX3_isSure_5 ?_
  refine lv_iload_n hx hb dX3_isSure_8 rfl (lv_at hl 2 rfl) ?_
  refine z_iald (i := pe) hx hb hK hP 8 0 rfl rfl (by omega) (by decide) dX3_isSure_9 ?_
  refine lv_iload_n hx hb dX3_isSure_10 rfl (lv_at hl 0 rfl) ?_
  refine lv_iand hx hb dX3_isSure_11 ?_
  refine lv_if_eq (tgt := 17) hx hb dX3_isSure_12 (by decide) (fun c_1 => ?_) (fun c_1 => ?_)
  · have c_1 : ((T 12 pe) &&& ((1 : Int32) <<< ((nI b) &&& 31))) = 0 := c_1
    have hq := hq.trans (if_pos c_1)
    refine lv_aload_n hx hb dX3_isSure_17 rfl (lv_at hl 1 rfl) ?_
    refine va_get (D := D) (ci := 3) (v := .ref (h 12)) (C := RX3) (T := TX3) (N := 15) hx hb hts hinX3 hown hK.1 hP 0 rfl rfl 11 (by decide) (hts (.fieldLink RX3 30 "SaltShares$Town" "heldIn" "[I") (List.mem_of_getElem? (i := 2) rfl)) (fun _ h9 => h9) rfl dX3_isSure_18 ?_
    refine lv_iload_n hx hb dX3_isSure_21 rfl (lv_at hl 2 rfl) ?_
    refine z_iald (i := pe) hx hb hK hP 7 0 rfl rfl (by omega) (by decide) dX3_isSure_22 ?_
    refine lv_iload_n hx hb dX3_isSure_23 rfl (lv_at hl 0 rfl) ?_
    refine lv_iand hx hb dX3_isSure_24 ?_
    refine lv_if_ne (tgt := 44) hx hb dX3_isSure_25 (by decide) (fun c_2 => ?_) (fun c_2 => ?_)
    · have c_2 : ¬ (((T 11 pe) &&& ((1 : Int32) <<< ((nI b) &&& 31))) = 0) := c_2
      have hq := hq.trans (if_neg c_2)
      refine lv_iconst (v := 1) hx hb dX3_isSure_44 (by decide) ?_
      refine lv_goto (tgt := 49) hx hb dX3_isSure_45 (by decide) ?_
      exact zret_z (q' := true) hx hb hr hlocks dX3_isSure_49 hq
    · have c_2 : ((T 11 pe) &&& ((1 : Int32) <<< ((nI b) &&& 31))) = 0 := c_2
      have hq := hq.trans (if_pos c_2)
      refine lv_aload_n hx hb dX3_isSure_28 rfl (lv_at hl 1 rfl) ?_
      refine va_get (D := D) (ci := 3) (v := .int (T 4 0)) (C := RX3) (T := TX3) (N := 15) hx hb hts hinX3 hown hK.1 hP 0 rfl rfl 4 (by decide) (hts (.fieldLink RX3 55 "SaltShares$Town" "stickyOnes" "I") (List.mem_of_getElem? (i := 3) rfl)) (fun _ h9 => h9) rfl dX3_isSure_29 ?_
      refine lv_aload_n hx hb dX3_isSure_32 rfl (lv_at hl 1 rfl) ?_
      refine va_get (D := D) (ci := 3) (v := .ref (h 14)) (C := RX3) (T := TX3) (N := 15) hx hb hts hinX3 hown hK.1 hP 0 rfl rfl 13 (by decide) (hts (.fieldLink RX3 36 "SaltShares$Town" "ate" "[I") (List.mem_of_getElem? (i := 4) rfl)) (fun _ h9 => h9) rfl dX3_isSure_33 ?_
      refine lv_iload_n hx hb dX3_isSure_36 rfl (lv_at hl 2 rfl) ?_
      refine z_iald (i := pe) hx hb hK hP 9 0 rfl rfl (by omega) (by decide) dX3_isSure_37 ?_
      refine lv_iand hx hb dX3_isSure_38 ?_
      refine lv_iload_n hx hb dX3_isSure_39 rfl (lv_at hl 0 rfl) ?_
      refine lv_iand hx hb dX3_isSure_40 ?_
      refine lv_if_eq (tgt := 48) hx hb dX3_isSure_41 (by decide) (fun c_3 => ?_) (fun c_3 => ?_)
      · have c_3 : (((T 4 0) &&& (T 13 pe)) &&& ((1 : Int32) <<< ((nI b) &&& 31))) = 0 := c_3
        have hq := hq.trans (if_pos c_3)
        refine lv_iconst (v := 0) hx hb dX3_isSure_48 (by decide) ?_
        exact zret_z (q' := false) hx hb hr hlocks dX3_isSure_49 hq
      · have c_3 : ¬ ((((T 4 0) &&& (T 13 pe)) &&& ((1 : Int32) <<< ((nI b) &&& 31))) = 0) := c_3
        have hq := hq.trans (if_neg c_3)
        refine lv_iconst (v := 1) hx hb dX3_isSure_44 (by decide) ?_
        refine lv_goto (tgt := 49) hx hb dX3_isSure_45 (by decide) ?_
        exact zret_z (q' := true) hx hb hr hlocks dX3_isSure_49 hq
  · have c_1 : ¬ (((T 12 pe) &&& ((1 : Int32) <<< ((nI b) &&& 31))) = 0) := c_1
    have hq := hq.trans (if_neg c_1)
    refine lv_iconst (v := 0) hx hb dX3_isSure_15 (by decide) ?_
    exact zret_z (q' := false) hx hb hr hlocks dX3_isSure_16 hq
def v_X3_reasonBy (T : Nat → Nat → Int32) (pe : Nat) (b : Nat) (sal : Int32) : Int32 := (if (((T 3 0) &&& ((T 12 pe) ^^^ (-1))) &&& ((1 : Int32) <<< ((nI b) &&& 31))) = 0 then 0 else (if ((T 11 pe) &&& ((1 : Int32) <<< ((nI b) &&& 31))) = 0 then (if (v_X3_owns T b (v_X4_bucketBy (nI pe) sal)) = true then 3 else (if (((T 4 0) &&& (T 13 pe)) &&& ((1 : Int32) <<< ((nI b) &&& 31))) = 0 then 0 else 2)) else 1))
set_option maxHeartbeats 400000 in
set_option maxRecDepth 100000 in
theorem c_X3_reasonBy (l : Launch) (D : va_G) (g : Nat → ClassId) (h : Nat → Nat) (T : Nat → Nat → Int32) (pe : Nat) (b : Nat) (sal : Int32) (z0 : pe < 150) (z1 : b < 8) : Rd l D (zT g) yX3_reasonBy wsX3_reasonBy (rmOf 1 23) [.ref (h 0), .int (nI pe), .int (nI b), .int sal] (zB_X3 (g 0) h T) (.int (v_X3_reasonBy T pe b sal)) := by
  refine Rd.of (cc := cX3_reasonBy) (maxL := 5) (ret := (some .int)) (by decide) rfl (Nat.le_of_ble_eq_true rfl) ?_
  intro p e s m below meth c ls hx hb hr hml hown hts hlocks hP hK hl
  have hown : s.vm.findClass RX3 = some m.cls := hown
  have hinX3 : ∀ w ∈ u_ws RX3 TX3 15, w ∈ wsX3_reasonBy := fun _ h9 => (List.mem_cons_of_mem _ (List.mem_append_right _ h9))
  obtain ⟨q, hq⟩ : ∃ q : Int32, q = v_X3_reasonBy T pe b sal := ⟨_, rfl⟩
  rw [← hq]
  unfold v_X3_reasonBy at hq
  have hl : lv_has ls 5 [(0, .ref (h 0)), (1, .int (nI pe)), (2, .int (nI b)), (3, .int sal)] := hl
  refine lv_iconst (v := 1) hx hb dX3_reasonBy_0 (by decide) ?_
  refine lv_iload_n hx hb dX3_reasonBy_1 rfl (lv_at hl 2 rfl) ?_
  refine lv_ishl hx hb dX3_reasonBy_2 ?_
  refine lv_istore (lv' := [(4, .int ((1 : Int32) <<< ((nI b) &&& 31))), (0, .ref (h 0)), (1, .int (nI pe)), (2, .int (nI b)), (3, .int sal)]) hx hb dX3_reasonBy_3 hl (by decide) rfl (fun ls hl => ?_)
  refine lv_aload_n hx hb dX3_reasonBy_5 rfl (lv_at hl 1 rfl) ?_
  refine va_get (D := D) (ci := 3) (v := .int (T 3 0)) (C := RX3) (T := TX3) (N := 15) hx hb hts hinX3 hown hK.1 hP 0 rfl rfl 3 (by decide) (hts (.fieldLink RX3 52 "SaltShares$Town" "openOnes" "I") (List.mem_of_getElem? (i := 1) rfl)) (fun _ h9 => h9) rfl dX3_reasonBy_6 ?_
  refine lv_aload_n hx hb dX3_reasonBy_9 rfl (lv_at hl 1 rfl) ?_
  refine va_get (D := D) (ci := 3) (v := .ref (h 13)) (C := RX3) (T := TX3) (N := 15) hx hb hts hinX3 hown hK.1 hP 0 rfl rfl 12 (by decide) (hts (.fieldLink RX3 33 "SaltShares$Town" "heldOut" "[I") (List.mem_of_getElem? (i := 2) rfl)) (fun _ h9 => h9) rfl dX3_reasonBy_10 ?_
  refine lv_iload_n hx hb dX3_reasonBy_13 rfl (lv_at hl 2 rfl) ?_
  refine z_iald (i := pe) hx hb hK hP 8 0 rfl rfl (by omega) (by decide) dX3_reasonBy_14 ?_
  refine lv_iconst (v := (-1)) hx hb dX3_reasonBy_15 (by decide) ?_
  refine lv_ixor hx hb dX3_reasonBy_16 ?_
  refine lv_iand hx hb dX3_reasonBy_17 ?_
  refine lv_iload hx hb dX3_reasonBy_18 (lv_at hl 0 rfl) ?_
  refine lv_iand hx hb dX3_reasonBy_20 ?_
  refine lv_if_ne (tgt := 26) hx hb dX3_reasonBy_21 (by decide) (fun c_1 => ?_) (fun c_1 => ?_)
  · have c_1 : ¬ ((((T 3 0) &&& ((T 12 pe) ^^^ (-1))) &&& ((1 : Int32) <<< ((nI b) &&& 31))) = 0) := c_1
    have hq := hq.trans (if_neg c_1)
    refine lv_aload_n hx hb dX3_reasonBy_26 rfl (lv_at hl 1 rfl) ?_
    refine va_get (D := D) (ci := 3) (v := .ref (h 12)) (C := RX3) (T := TX3) (N := 15) hx hb hts hinX3 hown hK.1 hP 0 rfl rfl 11 (by decide) (hts (.fieldLink RX3 30 "SaltShares$Town" "heldIn" "[I") (List.mem_of_getElem? (i := 3) rfl)) (fun _ h9 => h9) rfl dX3_reasonBy_27 ?_
    refine lv_iload_n hx hb dX3_reasonBy_30 rfl (lv_at hl 2 rfl) ?_
    refine z_iald (i := pe) hx hb hK hP 7 0 rfl rfl (by omega) (by decide) dX3_reasonBy_31 ?_
    refine lv_iload hx hb dX3_reasonBy_32 (lv_at hl 0 rfl) ?_
    refine lv_iand hx hb dX3_reasonBy_34 ?_
    refine lv_if_eq (tgt := 40) hx hb dX3_reasonBy_35 (by decide) (fun c_2 => ?_) (fun c_2 => ?_)
    · have c_2 : ((T 11 pe) &&& ((1 : Int32) <<< ((nI b) &&& 31))) = 0 := c_2
      have hq := hq.trans (if_pos c_2)
      refine lv_aload_n hx hb dX3_reasonBy_40 rfl (lv_at hl 1 rfl) ?_
      refine lv_iload_n hx hb dX3_reasonBy_41 rfl (lv_at hl 3 rfl) ?_
      refine lv_iload_n hx hb dX3_reasonBy_42 rfl (lv_at hl 2 rfl) ?_
      refine lv_iload_n hx hb dX3_reasonBy_43 rfl (lv_at hl 4 rfl) ?_
      refine zcSN (n := 2) (c_X4_bucketBy l D g (nI pe) sal) hx hb hml hown hts gX3_reasonBy_X4_bucketBy_n125 rfl ⟨by decide, by decide, by decide⟩ ⟨Nat.le_of_ble_eq_true rfl, Nat.le_of_ble_eq_true rfl⟩ ⟨rfl, rfl⟩ (List.mem_of_getElem? (i := 1) rfl) (List.mem_of_getElem? (i := 7) rfl) (List.mem_of_getElem? (i := 6) rfl) hK (hP.sub [] rfl) hl.1 rfl rfl (Nat.le_of_ble_eq_true rfl) ⟨Nat.zero_le _, Nat.zero_le _⟩ dX3_reasonBy_44 ?_
      have p_4 := v_X4_bucketBy_lt (nI pe) sal
      refine zcV (ci := 3) (n := 2) (c_X3_owns l D g h T b (v_X4_bucketBy (nI pe) sal) (by omega) (by omega)) hx hb hml hown hts gX3_reasonBy_X3_owns rfl ⟨rfl, by decide, by decide, by decide⟩ ⟨Nat.le_of_ble_eq_true rfl, Nat.le_of_ble_eq_true rfl⟩ ⟨rfl, rfl⟩ hK hP rfl rfl rfl hl.1 rfl rfl (Nat.le_of_ble_eq_true rfl) ⟨Nat.zero_le _, Nat.zero_le _⟩ dX3_reasonBy_47 ?_
      refine zif_eq (tgt := 55) hx hb dX3_reasonBy_50 (by decide) (fun c_6 => ?_) (fun c_6 => ?_)
      · have hq := hq.trans (zif_f c_6)
        refine lv_aload_n hx hb dX3_reasonBy_55 rfl (lv_at hl 1 rfl) ?_
        refine va_get (D := D) (ci := 3) (v := .int (T 4 0)) (C := RX3) (T := TX3) (N := 15) hx hb hts hinX3 hown hK.1 hP 0 rfl rfl 4 (by decide) (hts (.fieldLink RX3 55 "SaltShares$Town" "stickyOnes" "I") (List.mem_of_getElem? (i := 4) rfl)) (fun _ h9 => h9) rfl dX3_reasonBy_56 ?_
        refine lv_aload_n hx hb dX3_reasonBy_59 rfl (lv_at hl 1 rfl) ?_
        refine va_get (D := D) (ci := 3) (v := .ref (h 14)) (C := RX3) (T := TX3) (N := 15) hx hb hts hinX3 hown hK.1 hP 0 rfl rfl 13 (by decide) (hts (.fieldLink RX3 36 "SaltShares$Town" "ate" "[I") (List.mem_of_getElem? (i := 5) rfl)) (fun _ h9 => h9) rfl dX3_reasonBy_60 ?_
        refine lv_iload_n hx hb dX3_reasonBy_63 rfl (lv_at hl 2 rfl) ?_
        refine z_iald (i := pe) hx hb hK hP 9 0 rfl rfl (by omega) (by decide) dX3_reasonBy_64 ?_
        refine lv_iand hx hb dX3_reasonBy_65 ?_
        refine lv_iload hx hb dX3_reasonBy_66 (lv_at hl 0 rfl) ?_
        refine lv_iand hx hb dX3_reasonBy_68 ?_
        refine lv_if_eq (tgt := 76) hx hb dX3_reasonBy_69 (by decide) (fun c_7 => ?_) (fun c_7 => ?_)
        · have c_7 : (((T 4 0) &&& (T 13 pe)) &&& ((1 : Int32) <<< ((nI b) &&& 31))) = 0 := c_7
          have hq := hq.trans (if_pos c_7)
          refine lv_iconst (v := 0) hx hb dX3_reasonBy_76 (by decide) ?_
          exact zret_i hx hb hr hlocks dX3_reasonBy_77 hq
        · have c_7 : ¬ ((((T 4 0) &&& (T 13 pe)) &&& ((1 : Int32) <<< ((nI b) &&& 31))) = 0) := c_7
          have hq := hq.trans (if_neg c_7)
          refine lv_iconst (v := 2) hx hb dX3_reasonBy_72 (by decide) ?_
          refine lv_goto (tgt := 77) hx hb dX3_reasonBy_73 (by decide) ?_
          exact zret_i hx hb hr hlocks dX3_reasonBy_77 hq
      · have hq := hq.trans (zif_t c_6)
        refine lv_iconst (v := 3) hx hb dX3_reasonBy_53 (by decide) ?_
        exact zret_i hx hb hr hlocks dX3_reasonBy_54 hq
    · have c_2 : ¬ (((T 11 pe) &&& ((1 : Int32) <<< ((nI b) &&& 31))) = 0) := c_2
      have hq := hq.trans (if_neg c_2)
      refine lv_iconst (v := 1) hx hb dX3_reasonBy_38 (by decide) ?_
      exact zret_i hx hb hr hlocks dX3_reasonBy_39 hq
  · have c_1 : (((T 3 0) &&& ((T 12 pe) ^^^ (-1))) &&& ((1 : Int32) <<< ((nI b) &&& 31))) = 0 := c_1
    have hq := hq.trans (if_pos c_1)
    refine lv_iconst (v := 0) hx hb dX3_reasonBy_24 (by decide) ?_
    exact zret_i hx hb hr hlocks dX3_reasonBy_25 hq
def v_X3_isEating (T : Nat → Nat → Int32) (pe : Nat) (b : Nat) : Bool := (if (v_X3_reasonBy T pe b (v_X3_saltOf T b)) = 0 then false else true)
set_option maxHeartbeats 400000 in
set_option maxRecDepth 100000 in
theorem c_X3_isEating (l : Launch) (D : va_G) (g : Nat → ClassId) (h : Nat → Nat) (T : Nat → Nat → Int32) (pe : Nat) (b : Nat) (z0 : pe < 150) (z1 : b < 8) : Rd l D (zT g) yX3_isEating wsX3_isEating (rmOf 2 47) [.ref (h 0), .int (nI pe), .int (nI b)] (zB_X3 (g 0) h T) (.int (bI (v_X3_isEating T pe b))) := by
  refine Rd.of (cc := cX3_isEating) (maxL := 3) (ret := (some .boolean)) (by decide) rfl (Nat.le_of_ble_eq_true rfl) ?_
  intro p e s m below meth c ls hx hb hr hml hown hts hlocks hP hK hl
  have hown : s.vm.findClass RX3 = some m.cls := hown
  obtain ⟨q, hq⟩ : ∃ q : Bool, q = v_X3_isEating T pe b := ⟨_, rfl⟩
  rw [← hq]
  unfold v_X3_isEating at hq
  have hl : lv_has ls 3 [(0, .ref (h 0)), (1, .int (nI pe)), (2, .int (nI b))] := hl
  refine lv_aload_n hx hb dX3_isEating_0 rfl (lv_at hl 0 rfl) ?_
  refine lv_iload_n hx hb dX3_isEating_1 rfl (lv_at hl 1 rfl) ?_
  refine lv_iload_n hx hb dX3_isEating_2 rfl (lv_at hl 2 rfl) ?_
  refine lv_aload_n hx hb dX3_isEating_3 rfl (lv_at hl 0 rfl) ?_
  refine lv_iload_n hx hb dX3_isEating_4 rfl (lv_at hl 2 rfl) ?_
  refine zcV (ci := 3) (n := 1) (c_X3_saltOf l D g h T b (by omega)) hx hb hml hown hts gX3_isEating_X3_saltOf rfl ⟨rfl, by decide, by decide, by decide⟩ ⟨Nat.le_of_ble_eq_true rfl, Nat.le_of_ble_eq_true rfl⟩ ⟨rfl, rfl⟩ hK hP rfl rfl rfl hl.1 rfl rfl (Nat.le_of_ble_eq_true rfl) ⟨Nat.zero_le _, Nat.zero_le _⟩ dX3_isEating_5 ?_
  refine zcV (ci := 3) (n := 3) (c_X3_reasonBy l D g h T pe b (v_X3_saltOf T b) (by omega) (by omega)) hx hb hml hown hts gX3_isEating_X3_reasonBy rfl ⟨rfl, by decide, by decide, by decide⟩ ⟨Nat.le_of_ble_eq_true rfl, Nat.le_of_ble_eq_true rfl⟩ ⟨rfl, rfl⟩ hK hP rfl rfl rfl hl.1 rfl rfl (Nat.le_of_ble_eq_true rfl) ⟨Nat.zero_le _, Nat.zero_le _⟩ dX3_isEating_8 ?_
  refine lv_if_eq (tgt := 18) hx hb dX3_isEating_11 (by decide) (fun c_3 => ?_) (fun c_3 => ?_)
  · have c_3 : (v_X3_reasonBy T pe b (v_X3_saltOf T b)) = 0 := c_3
    have hq := hq.trans (if_pos c_3)
    refine lv_iconst (v := 0) hx hb dX3_isEating_18 (by decide) ?_
    exact zret_z (q' := false) hx hb hr hlocks dX3_isEating_19 hq
  · have c_3 : ¬ ((v_X3_reasonBy T pe b (v_X3_saltOf T b)) = 0) := c_3
    have hq := hq.trans (if_neg c_3)
    refine lv_iconst (v := 1) hx hb dX3_isEating_14 (by decide) ?_
    refine lv_goto (tgt := 19) hx hb dX3_isEating_15 (by decide) ?_
    exact zret_z (q' := true) hx hb hr hlocks dX3_isEating_19 hq
def v_X3_breadsEatenBy_4 (T : Nat → Nat → Int32) (pe : Nat) : Nat → Int32 → Nat → Int32
  | 0, _, _ => (0)
  | n + 1, eaten, i => (if 8 ≤ i then eaten else (if (v_X3_reasonBy T pe i (v_X3_saltOf T i)) = 0 then v_X3_breadsEatenBy_4 T pe n eaten (i + 1) else v_X3_breadsEatenBy_4 T pe n (eaten ||| ((1 : Int32) <<< ((nI i) &&& 31))) (i + 1)))
def v_X3_breadsEatenBy (T : Nat → Nat → Int32) (pe : Nat) : Int32 := v_X3_breadsEatenBy_4 T pe 9 0 0
set_option maxHeartbeats 400000 in
set_option maxRecDepth 100000 in
theorem c_X3_breadsEatenBy (l : Launch) (D : va_G) (g : Nat → ClassId) (h : Nat → Nat) (T : Nat → Nat → Int32) (pe : Nat) (z0 : pe < 150) : Rd l D (zT g) yX3_breadsEatenBy wsX3_breadsEatenBy (rmOf 2 47) [.ref (h 0), .int (nI pe)] (zB_X3 (g 0) h T) (.int (v_X3_breadsEatenBy T pe)) := by
  refine Rd.of (cc := cX3_breadsEatenBy) (maxL := 4) (ret := (some .int)) (by decide) rfl (Nat.le_of_ble_eq_true rfl) ?_
  intro p e s m below meth c ls hx hb hr hml hown hts hlocks hP hK hl
  have hown : s.vm.findClass RX3 = some m.cls := hown
  obtain ⟨q, hq⟩ : ∃ q : Int32, q = v_X3_breadsEatenBy T pe := ⟨_, rfl⟩
  rw [← hq]
  unfold v_X3_breadsEatenBy at hq
  have hl : lv_has ls 4 [(0, .ref (h 0)), (1, .int (nI pe))] := hl
  refine lv_iconst (v := 0) hx hb dX3_breadsEatenBy_0 (by decide) ?_
  refine lv_istore_n (lv' := [(2, .int 0), (0, .ref (h 0)), (1, .int (nI pe))]) hx hb dX3_breadsEatenBy_1 rfl hl (by decide) rfl (fun ls hl => ?_)
  refine lv_iconst (v := 0) hx hb dX3_breadsEatenBy_2 (by decide) ?_
  refine lv_istore_n (lv' := [(3, .int 0), (2, .int 0), (0, .ref (h 0)), (1, .int (nI pe))]) hx hb dX3_breadsEatenBy_3 rfl hl (by decide) rfl (fun ls hl => ?_)
  have L4 : ∀ (n : Nat) (eaten : Int32) (i : Nat), (i ≤ 8) → 8 - i < n → ∀ (ls : Array Slot), lv_has ls 4 [(0, .ref (h 0)), (1, .int (nI pe)), (2, .int eaten), (3, .int (nI i))] → q = v_X3_breadsEatenBy_4 T pe n eaten i → W p l e (rmOf 2 47) s m [.ref (h 0), .int (nI pe)].toArray below meth c s.heap [] 0 0 (MQ below (zQ (.int q)) [.ref (h 0), .int (nI pe)].toArray s 0 0 (fun _ => False)) (F0 m 4 ls []) := by
    intro n
    induction n with
    | zero => intro eaten i v4_0 hn; exact absurd hn (Nat.not_lt_zero _)
    | succ n ih4 =>
      intro eaten i v4_0 hn4 ls hl hq
      rw [v_X3_breadsEatenBy_4] at hq
      refine lv_iload_n hx hb dX3_breadsEatenBy_4 rfl (lv_at hl 3 rfl) ?_
      refine lv_bipush (v := 8) hx hb dX3_breadsEatenBy_5 (by decide) ?_
      refine lv_icmp_ge (tgt := 36) hx hb dX3_breadsEatenBy_7 (by decide) (fun c_1 => ?_) (fun c_1 => ?_)
      · have c_1 : 8 ≤ i := (nI_leI (a := 8) (b := i) (by omega) (by omega)).mp c_1
        have hq := hq.trans (if_pos c_1)
        refine lv_iload_n hx hb dX3_breadsEatenBy_36 rfl (lv_at hl 2 rfl) ?_
        exact zret_i hx hb hr hlocks dX3_breadsEatenBy_37 hq
      · have c_1 : ¬ (8 ≤ i) := fun h9 => c_1 ((nI_leI (a := 8) (b := i) (by omega) (by omega)).mpr h9)
        have hq := hq.trans (if_neg c_1)
        refine lv_aload_n hx hb dX3_breadsEatenBy_10 rfl (lv_at hl 0 rfl) ?_
        refine lv_iload_n hx hb dX3_breadsEatenBy_11 rfl (lv_at hl 1 rfl) ?_
        refine lv_iload_n hx hb dX3_breadsEatenBy_12 rfl (lv_at hl 3 rfl) ?_
        refine lv_aload_n hx hb dX3_breadsEatenBy_13 rfl (lv_at hl 0 rfl) ?_
        refine lv_iload_n hx hb dX3_breadsEatenBy_14 rfl (lv_at hl 3 rfl) ?_
        refine zcV (ci := 3) (n := 1) (c_X3_saltOf l D g h T i (by omega)) hx hb hml hown hts gX3_breadsEatenBy_X3_saltOf rfl ⟨rfl, by decide, by decide, by decide⟩ ⟨Nat.le_of_ble_eq_true rfl, Nat.le_of_ble_eq_true rfl⟩ ⟨rfl, rfl⟩ hK hP rfl rfl rfl hl.1 rfl rfl (Nat.le_of_ble_eq_true rfl) ⟨Nat.zero_le _, Nat.zero_le _⟩ dX3_breadsEatenBy_15 ?_
        refine zcV (ci := 3) (n := 3) (c_X3_reasonBy l D g h T pe i (v_X3_saltOf T i) (by omega) (by omega)) hx hb hml hown hts gX3_breadsEatenBy_X3_reasonBy rfl ⟨rfl, by decide, by decide, by decide⟩ ⟨Nat.le_of_ble_eq_true rfl, Nat.le_of_ble_eq_true rfl⟩ ⟨rfl, rfl⟩ hK hP rfl rfl rfl hl.1 rfl rfl (Nat.le_of_ble_eq_true rfl) ⟨Nat.zero_le _, Nat.zero_le _⟩ dX3_breadsEatenBy_18 ?_
        refine lv_if_eq (tgt := 30) hx hb dX3_breadsEatenBy_21 (by decide) (fun c_4 => ?_) (fun c_4 => ?_)
        · have c_4 : (v_X3_reasonBy T pe i (v_X3_saltOf T i)) = 0 := c_4
          have hq := hq.trans (if_pos c_4)
          refine lv_iinc (v := (nI (i + 1))) (lv' := [(3, .int (nI (i + 1))), (0, .ref (h 0)), (1, .int (nI pe)), (2, .int eaten)]) hx hb dX3_breadsEatenBy_30 hl (k := 3) rfl (nI_add _ 1) (by decide) rfl (fun ls hl => ?_)
          refine lv_goto (tgt := 4) hx hb dX3_breadsEatenBy_33 (by decide) ?_
          exact ih4 eaten (i + 1) (by omega) (by omega) ls (lv_sub hl [1, 2, 3, 0] rfl) hq
        · have c_4 : ¬ ((v_X3_reasonBy T pe i (v_X3_saltOf T i)) = 0) := c_4
          have hq := hq.trans (if_neg c_4)
          refine lv_iload_n hx hb dX3_breadsEatenBy_24 rfl (lv_at hl 2 rfl) ?_
          refine lv_iconst (v := 1) hx hb dX3_breadsEatenBy_25 (by decide) ?_
          refine lv_iload_n hx hb dX3_breadsEatenBy_26 rfl (lv_at hl 3 rfl) ?_
          refine lv_ishl hx hb dX3_breadsEatenBy_27 ?_
          refine lv_ior hx hb dX3_breadsEatenBy_28 ?_
          refine lv_istore_n (lv' := [(2, .int (eaten ||| ((1 : Int32) <<< ((nI i) &&& 31)))), (0, .ref (h 0)), (1, .int (nI pe)), (3, .int (nI i))]) hx hb dX3_breadsEatenBy_29 rfl hl (by decide) rfl (fun ls hl => ?_)
          refine lv_iinc (v := (nI (i + 1))) (lv' := [(3, .int (nI (i + 1))), (2, .int (eaten ||| ((1 : Int32) <<< ((nI i) &&& 31)))), (0, .ref (h 0)), (1, .int (nI pe))]) hx hb dX3_breadsEatenBy_30 hl (k := 3) rfl (nI_add _ 1) (by decide) rfl (fun ls hl => ?_)
          refine lv_goto (tgt := 4) hx hb dX3_breadsEatenBy_33 (by decide) ?_
          exact ih4 (eaten ||| ((1 : Int32) <<< ((nI i) &&& 31))) (i + 1) (by omega) (by omega) ls (lv_sub hl [2, 3, 1, 0] rfl) hq
  exact L4 9 0 0 (by omega) (by omega) ls (lv_sub hl [2, 3, 1, 0] rfl) hq
def v_X3_eatersBy_5 (T : Nat → Nat → Int32) (b : Nat) (sal : Int32) : Nat → Nat → Nat → Nat
  | 0, _, _ => (0)
  | n + 1, many, i => (if 150 ≤ i then many else (if (v_X3_reasonBy T i b sal) = 0 then v_X3_eatersBy_5 T b sal n many (i + 1) else v_X3_eatersBy_5 T b sal n (many + 1) (i + 1)))
def v_X3_eatersBy (T : Nat → Nat → Int32) (b : Nat) (sal : Int32) : Nat := v_X3_eatersBy_5 T b sal 151 0 0
set_option maxHeartbeats 400000 in
set_option maxRecDepth 100000 in
theorem c_X3_eatersBy (l : Launch) (D : va_G) (g : Nat → ClassId) (h : Nat → Nat) (T : Nat → Nat → Int32) (b : Nat) (sal : Int32) (z0 : b < 8) : Rd l D (zT g) yX3_eatersBy wsX3_eatersBy (rmOf 2 47) [.ref (h 0), .int (nI b), .int sal] (zB_X3 (g 0) h T) (.int (nI (v_X3_eatersBy T b sal))) := by
  refine Rd.of (cc := cX3_eatersBy) (maxL := 5) (ret := (some .int)) (by decide) rfl (Nat.le_of_ble_eq_true rfl) ?_
  intro p e s m below meth c ls hx hb hr hml hown hts hlocks hP hK hl
  have hown : s.vm.findClass RX3 = some m.cls := hown
  obtain ⟨q, hq⟩ : ∃ q : Nat, q = v_X3_eatersBy T b sal := ⟨_, rfl⟩
  rw [← hq]
  unfold v_X3_eatersBy at hq
  have hl : lv_has ls 5 [(0, .ref (h 0)), (1, .int (nI b)), (2, .int sal)] := hl
  refine lv_iconst (v := 0) hx hb dX3_eatersBy_0 (by decide) ?_
  refine lv_istore_n (lv' := [(3, .int 0), (0, .ref (h 0)), (1, .int (nI b)), (2, .int sal)]) hx hb dX3_eatersBy_1 rfl hl (by decide) rfl (fun ls hl => ?_)
  refine lv_iconst (v := 0) hx hb dX3_eatersBy_2 (by decide) ?_
  refine lv_istore (lv' := [(4, .int 0), (3, .int 0), (0, .ref (h 0)), (1, .int (nI b)), (2, .int sal)]) hx hb dX3_eatersBy_3 hl (by decide) rfl (fun ls hl => ?_)
  have L5 : ∀ (n : Nat) (many : Nat) (i : Nat), (i ≤ 150) → 150 - i < n → ∀ (ls : Array Slot), lv_has ls 5 [(0, .ref (h 0)), (1, .int (nI b)), (2, .int sal), (3, .int (nI many)), (4, .int (nI i))] → q = v_X3_eatersBy_5 T b sal n many i → W p l e (rmOf 2 47) s m [.ref (h 0), .int (nI b), .int sal].toArray below meth c s.heap [] 0 0 (MQ below (zQ (.int (nI q))) [.ref (h 0), .int (nI b), .int sal].toArray s 0 0 (fun _ => False)) (F0 m 5 ls []) := by
    intro n
    induction n with
    | zero => intro many i v5_0 hn; exact absurd hn (Nat.not_lt_zero _)
    | succ n ih5 =>
      intro many i v5_0 hn5 ls hl hq
      rw [v_X3_eatersBy_5] at hq
      refine lv_iload hx hb dX3_eatersBy_5 (lv_at hl 4 rfl) ?_
      refine lv_sipush (v := 150) hx hb dX3_eatersBy_7 (by decide) ?_
      refine lv_icmp_ge (tgt := 33) hx hb dX3_eatersBy_10 (by decide) (fun c_1 => ?_) (fun c_1 => ?_)
      · have c_1 : 150 ≤ i := (nI_leI (a := 150) (b := i) (by omega) (by omega)).mp c_1
        have hq := hq.trans (if_pos c_1)
        refine lv_iload_n hx hb dX3_eatersBy_33 rfl (lv_at hl 3 rfl) ?_
        exact zret_i hx hb hr hlocks dX3_eatersBy_34 (congrArg nI hq)
      · have c_1 : ¬ (150 ≤ i) := fun h9 => c_1 ((nI_leI (a := 150) (b := i) (by omega) (by omega)).mpr h9)
        have hq := hq.trans (if_neg c_1)
        refine lv_aload_n hx hb dX3_eatersBy_13 rfl (lv_at hl 0 rfl) ?_
        refine lv_iload hx hb dX3_eatersBy_14 (lv_at hl 4 rfl) ?_
        refine lv_iload_n hx hb dX3_eatersBy_16 rfl (lv_at hl 1 rfl) ?_
        refine lv_iload_n hx hb dX3_eatersBy_17 rfl (lv_at hl 2 rfl) ?_
        refine zcV (ci := 3) (n := 3) (c_X3_reasonBy l D g h T i b sal (by omega) (by omega)) hx hb hml hown hts gX3_eatersBy_X3_reasonBy rfl ⟨rfl, by decide, by decide, by decide⟩ ⟨Nat.le_of_ble_eq_true rfl, Nat.le_of_ble_eq_true rfl⟩ ⟨rfl, rfl⟩ hK hP rfl rfl rfl hl.1 rfl rfl (Nat.le_of_ble_eq_true rfl) ⟨Nat.zero_le _, Nat.zero_le _⟩ dX3_eatersBy_18 ?_
        refine lv_if_eq (tgt := 27) hx hb dX3_eatersBy_21 (by decide) (fun c_3 => ?_) (fun c_3 => ?_)
        · have c_3 : (v_X3_reasonBy T i b sal) = 0 := c_3
          have hq := hq.trans (if_pos c_3)
          refine lv_iinc (v := (nI (i + 1))) (lv' := [(4, .int (nI (i + 1))), (0, .ref (h 0)), (1, .int (nI b)), (2, .int sal), (3, .int (nI many))]) hx hb dX3_eatersBy_27 hl (k := 4) rfl (nI_add _ 1) (by decide) rfl (fun ls hl => ?_)
          refine lv_goto (tgt := 5) hx hb dX3_eatersBy_30 (by decide) ?_
          exact ih5 many (i + 1) (by omega) (by omega) ls (lv_sub hl [1, 2, 3, 4, 0] rfl) hq
        · have c_3 : ¬ ((v_X3_reasonBy T i b sal) = 0) := c_3
          have hq := hq.trans (if_neg c_3)
          refine lv_iinc (v := (nI (many + 1))) (lv' := [(3, .int (nI (many + 1))), (0, .ref (h 0)), (1, .int (nI b)), (2, .int sal), (4, .int (nI i))]) hx hb dX3_eatersBy_24 hl (k := 3) rfl (nI_add _ 1) (by decide) rfl (fun ls hl => ?_)
          refine lv_iinc (v := (nI (i + 1))) (lv' := [(4, .int (nI (i + 1))), (3, .int (nI (many + 1))), (0, .ref (h 0)), (1, .int (nI b)), (2, .int sal)]) hx hb dX3_eatersBy_27 hl (k := 4) rfl (nI_add _ 1) (by decide) rfl (fun ls hl => ?_)
          refine lv_goto (tgt := 5) hx hb dX3_eatersBy_30 (by decide) ?_
          exact ih5 (many + 1) (i + 1) (by omega) (by omega) ls (lv_sub hl [2, 3, 4, 1, 0] rfl) hq
  exact L5 151 0 0 (by omega) (by omega) ls (lv_sub hl [2, 3, 4, 1, 0] rfl) hq
def v_X3_eaters (T : Nat → Nat → Int32) (b : Nat) : Nat := v_X3_eatersBy T b (v_X3_saltOf T b)
set_option maxHeartbeats 400000 in
set_option maxRecDepth 100000 in
theorem c_X3_eaters (l : Launch) (D : va_G) (g : Nat → ClassId) (h : Nat → Nat) (T : Nat → Nat → Int32) (b : Nat) (z0 : b < 8) : Rd l D (zT g) yX3_eaters wsX3_eaters (rmOf 3 71) [.ref (h 0), .int (nI b)] (zB_X3 (g 0) h T) (.int (nI (v_X3_eaters T b))) := by
  refine Rd.of (cc := cX3_eaters) (maxL := 2) (ret := (some .int)) (by decide) rfl (Nat.le_of_ble_eq_true rfl) ?_
  intro p e s m below meth c ls hx hb hr hml hown hts hlocks hP hK hl
  have hown : s.vm.findClass RX3 = some m.cls := hown
  obtain ⟨q, hq⟩ : ∃ q : Nat, q = v_X3_eaters T b := ⟨_, rfl⟩
  rw [← hq]
  unfold v_X3_eaters at hq
  have hl : lv_has ls 2 [(0, .ref (h 0)), (1, .int (nI b))] := hl
  refine lv_aload_n hx hb dX3_eaters_0 rfl (lv_at hl 0 rfl) ?_
  refine lv_iload_n hx hb dX3_eaters_1 rfl (lv_at hl 1 rfl) ?_
  refine lv_aload_n hx hb dX3_eaters_2 rfl (lv_at hl 0 rfl) ?_
  refine lv_iload_n hx hb dX3_eaters_3 rfl (lv_at hl 1 rfl) ?_
  refine zcV (ci := 3) (n := 1) (c_X3_saltOf l D g h T b (by omega)) hx hb hml hown hts gX3_eaters_X3_saltOf rfl ⟨rfl, by decide, by decide, by decide⟩ ⟨Nat.le_of_ble_eq_true rfl, Nat.le_of_ble_eq_true rfl⟩ ⟨rfl, rfl⟩ hK hP rfl rfl rfl hl.1 rfl rfl (Nat.le_of_ble_eq_true rfl) ⟨Nat.zero_le _, Nat.zero_le _⟩ dX3_eaters_4 ?_
  refine zcV (ci := 3) (n := 2) (c_X3_eatersBy l D g h T b (v_X3_saltOf T b) (by omega)) hx hb hml hown hts gX3_eaters_X3_eatersBy rfl ⟨rfl, by decide, by decide, by decide⟩ ⟨Nat.le_of_ble_eq_true rfl, Nat.le_of_ble_eq_true rfl⟩ ⟨rfl, rfl⟩ hK hP rfl rfl rfl hl.1 rfl rfl (Nat.le_of_ble_eq_true rfl) ⟨Nat.zero_le _, Nat.zero_le _⟩ dX3_eaters_7 ?_
  exact zret_i hx hb hr hlocks dX3_eaters_10 (congrArg nI hq)
def v_X3_eatersOfBoth_5 (T : Nat → Nat → Int32) (b : Nat) (b2 : Nat) : Nat → Nat → Nat → Nat
  | 0, _, _ => (0)
  | n + 1, many, i => (if 150 ≤ i then many else (if (v_X3_isEating T i b) = true then (if (v_X3_isEating T i b2) = true then v_X3_eatersOfBoth_5 T b b2 n (many + 1) (i + 1) else v_X3_eatersOfBoth_5 T b b2 n many (i + 1)) else v_X3_eatersOfBoth_5 T b b2 n many (i + 1)))
def v_X3_eatersOfBoth (T : Nat → Nat → Int32) (b : Nat) (b2 : Nat) : Nat := v_X3_eatersOfBoth_5 T b b2 151 0 0
def v_X3_changedBySalt_5 (T : Nat → Nat → Int32) (b : Nat) (sal : Int32) : Nat → Nat → Nat → Nat
  | 0, _, _ => (0)
  | n + 1, many, i => (if 150 ≤ i then many else (if (v_X3_reasonBy T i b sal) = 0 then (if (bI (v_X3_isEating T i b)) = 0 then v_X3_changedBySalt_5 T b sal n many (i + 1) else v_X3_changedBySalt_5 T b sal n (many + 1) (i + 1)) else (if (bI (v_X3_isEating T i b)) = 1 then v_X3_changedBySalt_5 T b sal n many (i + 1) else v_X3_changedBySalt_5 T b sal n (many + 1) (i + 1))))
def v_X3_changedBySalt (T : Nat → Nat → Int32) (b : Nat) (sal : Int32) : Nat := v_X3_changedBySalt_5 T b sal 151 0 0
set_option maxHeartbeats 400000 in
set_option maxRecDepth 100000 in
theorem c_X3_changedBySalt (l : Launch) (D : va_G) (g : Nat → ClassId) (h : Nat → Nat) (T : Nat → Nat → Int32) (b : Nat) (sal : Int32) (z0 : b < 8) : Rd l D (zT g) yX3_changedBySalt wsX3_changedBySalt (rmOf 3 69) [.ref (h 0), .int (nI b), .int sal] (zB_X3 (g 0) h T) (.int (nI (v_X3_changedBySalt T b sal))) := by
  refine Rd.of (cc := cX3_changedBySalt) (maxL := 6) (ret := (some .int)) (by decide) rfl (Nat.le_of_ble_eq_true rfl) ?_
  intro p e s m below meth c ls hx hb hr hml hown hts hlocks hP hK hl
  have hown : s.vm.findClass RX3 = some m.cls := hown
  obtain ⟨q, hq⟩ : ∃ q : Nat, q = v_X3_changedBySalt T b sal := ⟨_, rfl⟩
  rw [← hq]
  unfold v_X3_changedBySalt at hq
  have hl : lv_has ls 6 [(0, .ref (h 0)), (1, .int (nI b)), (2, .int sal)] := hl
  refine lv_iconst (v := 0) hx hb dX3_changedBySalt_0 (by decide) ?_
  refine lv_istore_n (lv' := [(3, .int 0), (0, .ref (h 0)), (1, .int (nI b)), (2, .int sal)]) hx hb dX3_changedBySalt_1 rfl hl (by decide) rfl (fun ls hl => ?_)
  refine lv_iconst (v := 0) hx hb dX3_changedBySalt_2 (by decide) ?_
  refine lv_istore (lv' := [(4, .int 0), (3, .int 0), (0, .ref (h 0)), (1, .int (nI b)), (2, .int sal)]) hx hb dX3_changedBySalt_3 hl (by decide) rfl (fun ls hl => ?_)
  have L5 : ∀ (n : Nat) (many : Nat) (i : Nat), (i ≤ 150) → 150 - i < n → ∀ (ls : Array Slot), lv_has ls 6 [(0, .ref (h 0)), (1, .int (nI b)), (2, .int sal), (3, .int (nI many)), (4, .int (nI i))] → q = v_X3_changedBySalt_5 T b sal n many i → W p l e (rmOf 3 69) s m [.ref (h 0), .int (nI b), .int sal].toArray below meth c s.heap [] 0 0 (MQ below (zQ (.int (nI q))) [.ref (h 0), .int (nI b), .int sal].toArray s 0 0 (fun _ => False)) (F0 m 5 ls []) := by
    intro n
    induction n with
    | zero => intro many i v5_0 hn; exact absurd hn (Nat.not_lt_zero _)
    | succ n ih5 =>
      intro many i v5_0 hn5 ls hl hq
      rw [v_X3_changedBySalt_5] at hq
      refine lv_iload hx hb dX3_changedBySalt_5 (lv_at hl 4 rfl) ?_
      refine lv_sipush (v := 150) hx hb dX3_changedBySalt_7 (by decide) ?_
      refine lv_icmp_ge (tgt := 52) hx hb dX3_changedBySalt_10 (by decide) (fun c_1 => ?_) (fun c_1 => ?_)
      · have c_1 : 150 ≤ i := (nI_leI (a := 150) (b := i) (by omega) (by omega)).mp c_1
        have hq := hq.trans (if_pos c_1)
        refine lv_iload_n hx hb dX3_changedBySalt_52 rfl (lv_at hl 3 rfl) ?_
        exact zret_i hx hb hr hlocks dX3_changedBySalt_53 (congrArg nI hq)
      · have c_1 : ¬ (150 ≤ i) := fun h9 => c_1 ((nI_leI (a := 150) (b := i) (by omega) (by omega)).mpr h9)
        have hq := hq.trans (if_neg c_1)
        refine lv_aload_n hx hb dX3_changedBySalt_13 rfl (lv_at hl 0 rfl) ?_
        refine lv_iload hx hb dX3_changedBySalt_14 (lv_at hl 4 rfl) ?_
        refine lv_iload_n hx hb dX3_changedBySalt_16 rfl (lv_at hl 1 rfl) ?_
        refine lv_iload_n hx hb dX3_changedBySalt_17 rfl (lv_at hl 2 rfl) ?_
        refine zcV (ci := 3) (n := 3) (c_X3_reasonBy l D g h T i b sal (by omega) (by omega)) hx hb hml hown hts gX3_changedBySalt_X3_reasonBy rfl ⟨rfl, by decide, by decide, by decide⟩ ⟨Nat.le_of_ble_eq_true rfl, Nat.le_of_ble_eq_true rfl⟩ ⟨rfl, rfl⟩ hK hP rfl rfl rfl hl.1 rfl rfl (Nat.le_of_ble_eq_true rfl) ⟨Nat.zero_le _, Nat.zero_le _⟩ dX3_changedBySalt_18 ?_
        refine lv_if_eq (tgt := 28) hx hb dX3_changedBySalt_21 (by decide) (fun c_3 => ?_) (fun c_3 => ?_)
        · have c_3 : (v_X3_reasonBy T i b sal) = 0 := c_3
          have hq := hq.trans (if_pos c_3)
          refine lv_iconst (v := 0) hx hb dX3_changedBySalt_28 (by decide) ?_
          refine lv_istore (lv' := [(5, .int 0), (0, .ref (h 0)), (1, .int (nI b)), (2, .int sal), (3, .int (nI many)), (4, .int (nI i))]) hx hb dX3_changedBySalt_29 hl (by decide) rfl (fun ls hl => ?_)
          refine lv_aload_n hx hb dX3_changedBySalt_31 rfl (lv_at hl 1 rfl) ?_
          refine lv_iload hx hb dX3_changedBySalt_32 (lv_at hl 5 rfl) ?_
          refine lv_iload_n hx hb dX3_changedBySalt_34 rfl (lv_at hl 2 rfl) ?_
          refine zcV (ci := 3) (n := 2) (c_X3_isEating l D g h T i b (by omega) (by omega)) hx hb hml hown hts gX3_changedBySalt_X3_isEating rfl ⟨rfl, by decide, by decide, by decide⟩ ⟨Nat.le_of_ble_eq_true rfl, Nat.le_of_ble_eq_true rfl⟩ ⟨rfl, rfl⟩ hK hP rfl rfl rfl hl.1 rfl rfl (Nat.le_of_ble_eq_true rfl) ⟨Nat.zero_le _, Nat.zero_le _⟩ dX3_changedBySalt_35 ?_
          refine lv_iload hx hb dX3_changedBySalt_38 (lv_at hl 0 rfl) ?_
          refine lv_icmp_eq (tgt := 46) hx hb dX3_changedBySalt_40 (by decide) (fun c_5 => ?_) (fun c_5 => ?_)
          · have c_5 : (bI (v_X3_isEating T i b)) = 0 := c_5
            have hq := hq.trans (if_pos c_5)
            refine lv_iinc (v := (nI (i + 1))) (lv' := [(4, .int (nI (i + 1))), (5, .int 0), (0, .ref (h 0)), (1, .int (nI b)), (2, .int sal), (3, .int (nI many))]) hx hb dX3_changedBySalt_46 hl (k := 5) rfl (nI_add _ 1) (by decide) rfl (fun ls hl => ?_)
            refine lv_goto (tgt := 5) hx hb dX3_changedBySalt_49 (by decide) ?_
            exact ih5 many (i + 1) (by omega) (by omega) ls (lv_sub hl [2, 3, 4, 5, 0] rfl) hq
          · have c_5 : ¬ ((bI (v_X3_isEating T i b)) = 0) := c_5
            have hq := hq.trans (if_neg c_5)
            refine lv_iinc (v := (nI (many + 1))) (lv' := [(3, .int (nI (many + 1))), (5, .int 0), (0, .ref (h 0)), (1, .int (nI b)), (2, .int sal), (4, .int (nI i))]) hx hb dX3_changedBySalt_43 hl (k := 4) rfl (nI_add _ 1) (by decide) rfl (fun ls hl => ?_)
            refine lv_iinc (v := (nI (i + 1))) (lv' := [(4, .int (nI (i + 1))), (3, .int (nI (many + 1))), (5, .int 0), (0, .ref (h 0)), (1, .int (nI b)), (2, .int sal)]) hx hb dX3_changedBySalt_46 hl (k := 5) rfl (nI_add _ 1) (by decide) rfl (fun ls hl => ?_)
            refine lv_goto (tgt := 5) hx hb dX3_changedBySalt_49 (by decide) ?_
            exact ih5 (many + 1) (i + 1) (by omega) (by omega) ls (lv_sub hl [3, 4, 5, 1, 0] rfl) hq
        · have c_3 : ¬ ((v_X3_reasonBy T i b sal) = 0) := c_3
          have hq := hq.trans (if_neg c_3)
          refine lv_iconst (v := 1) hx hb dX3_changedBySalt_24 (by decide) ?_
          refine lv_goto (tgt := 29) hx hb dX3_changedBySalt_25 (by decide) ?_
          refine lv_istore (lv' := [(5, .int 1), (0, .ref (h 0)), (1, .int (nI b)), (2, .int sal), (3, .int (nI many)), (4, .int (nI i))]) hx hb dX3_changedBySalt_29 hl (by decide) rfl (fun ls hl => ?_)
          refine lv_aload_n hx hb dX3_changedBySalt_31 rfl (lv_at hl 1 rfl) ?_
          refine lv_iload hx hb dX3_changedBySalt_32 (lv_at hl 5 rfl) ?_
          refine lv_iload_n hx hb dX3_changedBySalt_34 rfl (lv_at hl 2 rfl) ?_
          refine zcV (ci := 3) (n := 2) (c_X3_isEating l D g h T i b (by omega) (by omega)) hx hb hml hown hts gX3_changedBySalt_X3_isEating rfl ⟨rfl, by decide, by decide, by decide⟩ ⟨Nat.le_of_ble_eq_true rfl, Nat.le_of_ble_eq_true rfl⟩ ⟨rfl, rfl⟩ hK hP rfl rfl rfl hl.1 rfl rfl (Nat.le_of_ble_eq_true rfl) ⟨Nat.zero_le _, Nat.zero_le _⟩ dX3_changedBySalt_35 ?_
          refine lv_iload hx hb dX3_changedBySalt_38 (lv_at hl 0 rfl) ?_
          refine lv_icmp_eq (tgt := 46) hx hb dX3_changedBySalt_40 (by decide) (fun c_7 => ?_) (fun c_7 => ?_)
          · have c_7 : (bI (v_X3_isEating T i b)) = 1 := c_7
            have hq := hq.trans (if_pos c_7)
            refine lv_iinc (v := (nI (i + 1))) (lv' := [(4, .int (nI (i + 1))), (5, .int 1), (0, .ref (h 0)), (1, .int (nI b)), (2, .int sal), (3, .int (nI many))]) hx hb dX3_changedBySalt_46 hl (k := 5) rfl (nI_add _ 1) (by decide) rfl (fun ls hl => ?_)
            refine lv_goto (tgt := 5) hx hb dX3_changedBySalt_49 (by decide) ?_
            exact ih5 many (i + 1) (by omega) (by omega) ls (lv_sub hl [2, 3, 4, 5, 0] rfl) hq
          · have c_7 : ¬ ((bI (v_X3_isEating T i b)) = 1) := c_7
            have hq := hq.trans (if_neg c_7)
            refine lv_iinc (v := (nI (many + 1))) (lv' := [(3, .int (nI (many + 1))), (5, .int 1), (0, .ref (h 0)), (1, .int (nI b)), (2, .int sal), (4, .int (nI i))]) hx hb dX3_changedBySalt_43 hl (k := 4) rfl (nI_add _ 1) (by decide) rfl (fun ls hl => ?_)
            refine lv_iinc (v := (nI (i + 1))) (lv' := [(4, .int (nI (i + 1))), (3, .int (nI (many + 1))), (5, .int 1), (0, .ref (h 0)), (1, .int (nI b)), (2, .int sal)]) hx hb dX3_changedBySalt_46 hl (k := 5) rfl (nI_add _ 1) (by decide) rfl (fun ls hl => ?_)
            refine lv_goto (tgt := 5) hx hb dX3_changedBySalt_49 (by decide) ?_
            exact ih5 (many + 1) (i + 1) (by omega) (by omega) ls (lv_sub hl [3, 4, 5, 1, 0] rfl) hq
  exact L5 151 0 0 (by omega) (by omega) ls (lv_sub hl [2, 3, 4, 1, 0] rfl) hq
def v_X3_personsWith_11_5 (T : Nat → Nat → Int32) (b : Nat) : Nat → Int32 → Nat → Int32
  | 0, _, _ => (0)
  | n + 1, many, i => (if 150 ≤ i then many else v_X3_personsWith_11_5 T b n (many + (((T 11 i) >>> ((nI b) &&& 31)) &&& 1)) (i + 1))
def v_X3_personsWith_11 (T : Nat → Nat → Int32) (b : Nat) : Int32 := v_X3_personsWith_11_5 T b 151 0 0
set_option maxHeartbeats 400000 in
set_option maxRecDepth 100000 in
theorem c_X3_personsWith_11 (l : Launch) (D : va_G) (g : Nat → ClassId) (h : Nat → Nat) (T : Nat → Nat → Int32) (b : Nat) (z0 : b < 8) : Rd l D (zT g) yX3_personsWith wsX3_personsWith (rmOf 0 0) [.ref (h 0), .ref (h 12), .int (nI b)] (zB_X3 (g 0) h T) (.int (v_X3_personsWith_11 T b)) := by
  refine Rd.of (cc := cX3_personsWith) (maxL := 5) (ret := (some .int)) (by decide) rfl (Nat.le_of_ble_eq_true rfl) ?_
  intro p e s m below meth c ls hx hb hr hml hown hts hlocks hP hK hl
  have hown : s.vm.findClass RX3 = some m.cls := hown
  obtain ⟨q, hq⟩ : ∃ q : Int32, q = v_X3_personsWith_11 T b := ⟨_, rfl⟩
  rw [← hq]
  unfold v_X3_personsWith_11 at hq
  have hl : lv_has ls 5 [(0, .ref (h 0)), (1, .ref (h 12)), (2, .int (nI b))] := hl
  refine lv_iconst (v := 0) hx hb dX3_personsWith_0 (by decide) ?_
  refine lv_istore_n (lv' := [(3, .int 0), (0, .ref (h 0)), (1, .ref (h 12)), (2, .int (nI b))]) hx hb dX3_personsWith_1 rfl hl (by decide) rfl (fun ls hl => ?_)
  refine lv_iconst (v := 0) hx hb dX3_personsWith_2 (by decide) ?_
  refine lv_istore (lv' := [(4, .int 0), (3, .int 0), (0, .ref (h 0)), (1, .ref (h 12)), (2, .int (nI b))]) hx hb dX3_personsWith_3 hl (by decide) rfl (fun ls hl => ?_)
  have L5 : ∀ (n : Nat) (many : Int32) (i : Nat), (i ≤ 150) → 150 - i < n → ∀ (ls : Array Slot), lv_has ls 5 [(0, .ref (h 0)), (1, .ref (h 12)), (2, .int (nI b)), (3, .int many), (4, .int (nI i))] → q = v_X3_personsWith_11_5 T b n many i → W p l e (rmOf 0 0) s m [.ref (h 0), .ref (h 12), .int (nI b)].toArray below meth c s.heap [] 0 0 (MQ below (zQ (.int q)) [.ref (h 0), .ref (h 12), .int (nI b)].toArray s 0 0 (fun _ => False)) (F0 m 5 ls []) := by
    intro n
    induction n with
    | zero => intro many i v5_0 hn; exact absurd hn (Nat.not_lt_zero _)
    | succ n ih5 =>
      intro many i v5_0 hn5 ls hl hq
      rw [v_X3_personsWith_11_5] at hq
      refine lv_iload hx hb dX3_personsWith_5 (lv_at hl 4 rfl) ?_
      refine lv_aload_n hx hb dX3_personsWith_7 rfl (lv_at hl 1 rfl) ?_
      refine va_alen (v := 150) (ty := .int) hx hb hK.1 hP 7 0 rfl rfl rfl dX3_personsWith_8 ?_
      refine lv_icmp_ge (tgt := 29) hx hb dX3_personsWith_9 (by decide) (fun c_1 => ?_) (fun c_1 => ?_)
      · have c_1 : 150 ≤ i := (nI_leI (a := 150) (b := i) (by omega) (by omega)).mp c_1
        have hq := hq.trans (if_pos c_1)
        refine lv_iload_n hx hb dX3_personsWith_29 rfl (lv_at hl 3 rfl) ?_
        exact zret_i hx hb hr hlocks dX3_personsWith_30 hq
      · have c_1 : ¬ (150 ≤ i) := fun h9 => c_1 ((nI_leI (a := 150) (b := i) (by omega) (by omega)).mpr h9)
        have hq := hq.trans (if_neg c_1)
        refine lv_iload_n hx hb dX3_personsWith_12 rfl (lv_at hl 3 rfl) ?_
        refine lv_aload_n hx hb dX3_personsWith_13 rfl (lv_at hl 1 rfl) ?_
        refine lv_iload hx hb dX3_personsWith_14 (lv_at hl 4 rfl) ?_
        refine z_iald (i := i) hx hb hK hP 7 0 rfl rfl (by omega) (by decide) dX3_personsWith_16 ?_
        refine lv_iload_n hx hb dX3_personsWith_17 rfl (lv_at hl 2 rfl) ?_
        refine lv_ishr hx hb dX3_personsWith_18 ?_
        refine lv_iconst (v := 1) hx hb dX3_personsWith_19 (by decide) ?_
        refine lv_iand hx hb dX3_personsWith_20 ?_
        refine lv_iadd hx hb dX3_personsWith_21 ?_
        refine lv_istore_n (lv' := [(3, .int (many + (((T 11 i) >>> ((nI b) &&& 31)) &&& 1))), (0, .ref (h 0)), (1, .ref (h 12)), (2, .int (nI b)), (4, .int (nI i))]) hx hb dX3_personsWith_22 rfl hl (by decide) rfl (fun ls hl => ?_)
        refine lv_iinc (v := (nI (i + 1))) (lv' := [(4, .int (nI (i + 1))), (3, .int (many + (((T 11 i) >>> ((nI b) &&& 31)) &&& 1))), (0, .ref (h 0)), (1, .ref (h 12)), (2, .int (nI b))]) hx hb dX3_personsWith_23 hl (k := 4) rfl (nI_add _ 1) (by decide) rfl (fun ls hl => ?_)
        refine lv_goto (tgt := 5) hx hb dX3_personsWith_26 (by decide) ?_
        exact ih5 (many + (((T 11 i) >>> ((nI b) &&& 31)) &&& 1)) (i + 1) (by omega) (by omega) ls (lv_sub hl [2, 3, 4, 1, 0] rfl) hq
  exact L5 151 0 0 (by omega) (by omega) ls (lv_sub hl [2, 3, 4, 1, 0] rfl) hq
def v_X3_personsWith_12_5 (T : Nat → Nat → Int32) (b : Nat) : Nat → Int32 → Nat → Int32
  | 0, _, _ => (0)
  | n + 1, many, i => (if 150 ≤ i then many else v_X3_personsWith_12_5 T b n (many + (((T 12 i) >>> ((nI b) &&& 31)) &&& 1)) (i + 1))
def v_X3_personsWith_12 (T : Nat → Nat → Int32) (b : Nat) : Int32 := v_X3_personsWith_12_5 T b 151 0 0
set_option maxHeartbeats 400000 in
set_option maxRecDepth 100000 in
theorem c_X3_personsWith_12 (l : Launch) (D : va_G) (g : Nat → ClassId) (h : Nat → Nat) (T : Nat → Nat → Int32) (b : Nat) (z0 : b < 8) : Rd l D (zT g) yX3_personsWith wsX3_personsWith (rmOf 0 0) [.ref (h 0), .ref (h 13), .int (nI b)] (zB_X3 (g 0) h T) (.int (v_X3_personsWith_12 T b)) := by
  refine Rd.of (cc := cX3_personsWith) (maxL := 5) (ret := (some .int)) (by decide) rfl (Nat.le_of_ble_eq_true rfl) ?_
  intro p e s m below meth c ls hx hb hr hml hown hts hlocks hP hK hl
  have hown : s.vm.findClass RX3 = some m.cls := hown
  obtain ⟨q, hq⟩ : ∃ q : Int32, q = v_X3_personsWith_12 T b := ⟨_, rfl⟩
  rw [← hq]
  unfold v_X3_personsWith_12 at hq
  have hl : lv_has ls 5 [(0, .ref (h 0)), (1, .ref (h 13)), (2, .int (nI b))] := hl
  refine lv_iconst (v := 0) hx hb dX3_personsWith_0 (by decide) ?_
  refine lv_istore_n (lv' := [(3, .int 0), (0, .ref (h 0)), (1, .ref (h 13)), (2, .int (nI b))]) hx hb dX3_personsWith_1 rfl hl (by decide) rfl (fun ls hl => ?_)
  refine lv_iconst (v := 0) hx hb dX3_personsWith_2 (by decide) ?_
  refine lv_istore (lv' := [(4, .int 0), (3, .int 0), (0, .ref (h 0)), (1, .ref (h 13)), (2, .int (nI b))]) hx hb dX3_personsWith_3 hl (by decide) rfl (fun ls hl => ?_)
  have L5 : ∀ (n : Nat) (many : Int32) (i : Nat), (i ≤ 150) → 150 - i < n → ∀ (ls : Array Slot), lv_has ls 5 [(0, .ref (h 0)), (1, .ref (h 13)), (2, .int (nI b)), (3, .int many), (4, .int (nI i))] → q = v_X3_personsWith_12_5 T b n many i → W p l e (rmOf 0 0) s m [.ref (h 0), .ref (h 13), .int (nI b)].toArray below meth c s.heap [] 0 0 (MQ below (zQ (.int q)) [.ref (h 0), .ref (h 13), .int (nI b)].toArray s 0 0 (fun _ => False)) (F0 m 5 ls []) := by
    intro n
    induction n with
    | zero => intro many i v5_0 hn; exact absurd hn (Nat.not_lt_zero _)
    | succ n ih5 =>
      intro many i v5_0 hn5 ls hl hq
      rw [v_X3_personsWith_12_5] at hq
      refine lv_iload hx hb dX3_personsWith_5 (lv_at hl 4 rfl) ?_
      refine lv_aload_n hx hb dX3_personsWith_7 rfl (lv_at hl 1 rfl) ?_
      refine va_alen (v := 150) (ty := .int) hx hb hK.1 hP 8 0 rfl rfl rfl dX3_personsWith_8 ?_
      refine lv_icmp_ge (tgt := 29) hx hb dX3_personsWith_9 (by decide) (fun c_1 => ?_) (fun c_1 => ?_)
      · have c_1 : 150 ≤ i := (nI_leI (a := 150) (b := i) (by omega) (by omega)).mp c_1
        have hq := hq.trans (if_pos c_1)
        refine lv_iload_n hx hb dX3_personsWith_29 rfl (lv_at hl 3 rfl) ?_
        exact zret_i hx hb hr hlocks dX3_personsWith_30 hq
      · have c_1 : ¬ (150 ≤ i) := fun h9 => c_1 ((nI_leI (a := 150) (b := i) (by omega) (by omega)).mpr h9)
        have hq := hq.trans (if_neg c_1)
        refine lv_iload_n hx hb dX3_personsWith_12 rfl (lv_at hl 3 rfl) ?_
        refine lv_aload_n hx hb dX3_personsWith_13 rfl (lv_at hl 1 rfl) ?_
        refine lv_iload hx hb dX3_personsWith_14 (lv_at hl 4 rfl) ?_
        refine z_iald (i := i) hx hb hK hP 8 0 rfl rfl (by omega) (by decide) dX3_personsWith_16 ?_
        refine lv_iload_n hx hb dX3_personsWith_17 rfl (lv_at hl 2 rfl) ?_
        refine lv_ishr hx hb dX3_personsWith_18 ?_
        refine lv_iconst (v := 1) hx hb dX3_personsWith_19 (by decide) ?_
        refine lv_iand hx hb dX3_personsWith_20 ?_
        refine lv_iadd hx hb dX3_personsWith_21 ?_
        refine lv_istore_n (lv' := [(3, .int (many + (((T 12 i) >>> ((nI b) &&& 31)) &&& 1))), (0, .ref (h 0)), (1, .ref (h 13)), (2, .int (nI b)), (4, .int (nI i))]) hx hb dX3_personsWith_22 rfl hl (by decide) rfl (fun ls hl => ?_)
        refine lv_iinc (v := (nI (i + 1))) (lv' := [(4, .int (nI (i + 1))), (3, .int (many + (((T 12 i) >>> ((nI b) &&& 31)) &&& 1))), (0, .ref (h 0)), (1, .ref (h 13)), (2, .int (nI b))]) hx hb dX3_personsWith_23 hl (k := 4) rfl (nI_add _ 1) (by decide) rfl (fun ls hl => ?_)
        refine lv_goto (tgt := 5) hx hb dX3_personsWith_26 (by decide) ?_
        exact ih5 (many + (((T 12 i) >>> ((nI b) &&& 31)) &&& 1)) (i + 1) (by omega) (by omega) ls (lv_sub hl [2, 3, 4, 1, 0] rfl) hq
  exact L5 151 0 0 (by omega) (by omega) ls (lv_sub hl [2, 3, 4, 1, 0] rfl) hq
def v_X3_personsWith_13_5 (T : Nat → Nat → Int32) (b : Nat) : Nat → Int32 → Nat → Int32
  | 0, _, _ => (0)
  | n + 1, many, i => (if 150 ≤ i then many else v_X3_personsWith_13_5 T b n (many + (((T 13 i) >>> ((nI b) &&& 31)) &&& 1)) (i + 1))
def v_X3_personsWith_13 (T : Nat → Nat → Int32) (b : Nat) : Int32 := v_X3_personsWith_13_5 T b 151 0 0
set_option maxHeartbeats 400000 in
set_option maxRecDepth 100000 in
theorem c_X3_personsWith_13 (l : Launch) (D : va_G) (g : Nat → ClassId) (h : Nat → Nat) (T : Nat → Nat → Int32) (b : Nat) (z0 : b < 8) : Rd l D (zT g) yX3_personsWith wsX3_personsWith (rmOf 0 0) [.ref (h 0), .ref (h 14), .int (nI b)] (zB_X3 (g 0) h T) (.int (v_X3_personsWith_13 T b)) := by
  refine Rd.of (cc := cX3_personsWith) (maxL := 5) (ret := (some .int)) (by decide) rfl (Nat.le_of_ble_eq_true rfl) ?_
  intro p e s m below meth c ls hx hb hr hml hown hts hlocks hP hK hl
  have hown : s.vm.findClass RX3 = some m.cls := hown
  obtain ⟨q, hq⟩ : ∃ q : Int32, q = v_X3_personsWith_13 T b := ⟨_, rfl⟩
  rw [← hq]
  unfold v_X3_personsWith_13 at hq
  have hl : lv_has ls 5 [(0, .ref (h 0)), (1, .ref (h 14)), (2, .int (nI b))] := hl
  refine lv_iconst (v := 0) hx hb dX3_personsWith_0 (by decide) ?_
  refine lv_istore_n (lv' := [(3, .int 0), (0, .ref (h 0)), (1, .ref (h 14)), (2, .int (nI b))]) hx hb dX3_personsWith_1 rfl hl (by decide) rfl (fun ls hl => ?_)
  refine lv_iconst (v := 0) hx hb dX3_personsWith_2 (by decide) ?_
  refine lv_istore (lv' := [(4, .int 0), (3, .int 0), (0, .ref (h 0)), (1, .ref (h 14)), (2, .int (nI b))]) hx hb dX3_personsWith_3 hl (by decide) rfl (fun ls hl => ?_)
  have L5 : ∀ (n : Nat) (many : Int32) (i : Nat), (i ≤ 150) → 150 - i < n → ∀ (ls : Array Slot), lv_has ls 5 [(0, .ref (h 0)), (1, .ref (h 14)), (2, .int (nI b)), (3, .int many), (4, .int (nI i))] → q = v_X3_personsWith_13_5 T b n many i → W p l e (rmOf 0 0) s m [.ref (h 0), .ref (h 14), .int (nI b)].toArray below meth c s.heap [] 0 0 (MQ below (zQ (.int q)) [.ref (h 0), .ref (h 14), .int (nI b)].toArray s 0 0 (fun _ => False)) (F0 m 5 ls []) := by
    intro n
    induction n with
    | zero => intro many i v5_0 hn; exact absurd hn (Nat.not_lt_zero _)
    | succ n ih5 =>
      intro many i v5_0 hn5 ls hl hq
      rw [v_X3_personsWith_13_5] at hq
      refine lv_iload hx hb dX3_personsWith_5 (lv_at hl 4 rfl) ?_
      refine lv_aload_n hx hb dX3_personsWith_7 rfl (lv_at hl 1 rfl) ?_
      refine va_alen (v := 150) (ty := .int) hx hb hK.1 hP 9 0 rfl rfl rfl dX3_personsWith_8 ?_
      refine lv_icmp_ge (tgt := 29) hx hb dX3_personsWith_9 (by decide) (fun c_1 => ?_) (fun c_1 => ?_)
      · have c_1 : 150 ≤ i := (nI_leI (a := 150) (b := i) (by omega) (by omega)).mp c_1
        have hq := hq.trans (if_pos c_1)
        refine lv_iload_n hx hb dX3_personsWith_29 rfl (lv_at hl 3 rfl) ?_
        exact zret_i hx hb hr hlocks dX3_personsWith_30 hq
      · have c_1 : ¬ (150 ≤ i) := fun h9 => c_1 ((nI_leI (a := 150) (b := i) (by omega) (by omega)).mpr h9)
        have hq := hq.trans (if_neg c_1)
        refine lv_iload_n hx hb dX3_personsWith_12 rfl (lv_at hl 3 rfl) ?_
        refine lv_aload_n hx hb dX3_personsWith_13 rfl (lv_at hl 1 rfl) ?_
        refine lv_iload hx hb dX3_personsWith_14 (lv_at hl 4 rfl) ?_
        refine z_iald (i := i) hx hb hK hP 9 0 rfl rfl (by omega) (by decide) dX3_personsWith_16 ?_
        refine lv_iload_n hx hb dX3_personsWith_17 rfl (lv_at hl 2 rfl) ?_
        refine lv_ishr hx hb dX3_personsWith_18 ?_
        refine lv_iconst (v := 1) hx hb dX3_personsWith_19 (by decide) ?_
        refine lv_iand hx hb dX3_personsWith_20 ?_
        refine lv_iadd hx hb dX3_personsWith_21 ?_
        refine lv_istore_n (lv' := [(3, .int (many + (((T 13 i) >>> ((nI b) &&& 31)) &&& 1))), (0, .ref (h 0)), (1, .ref (h 14)), (2, .int (nI b)), (4, .int (nI i))]) hx hb dX3_personsWith_22 rfl hl (by decide) rfl (fun ls hl => ?_)
        refine lv_iinc (v := (nI (i + 1))) (lv' := [(4, .int (nI (i + 1))), (3, .int (many + (((T 13 i) >>> ((nI b) &&& 31)) &&& 1))), (0, .ref (h 0)), (1, .ref (h 14)), (2, .int (nI b))]) hx hb dX3_personsWith_23 hl (k := 4) rfl (nI_add _ 1) (by decide) rfl (fun ls hl => ?_)
        refine lv_goto (tgt := 5) hx hb dX3_personsWith_26 (by decide) ?_
        exact ih5 (many + (((T 13 i) >>> ((nI b) &&& 31)) &&& 1)) (i + 1) (by omega) (by omega) ls (lv_sub hl [2, 3, 4, 1, 0] rfl) hq
  exact L5 151 0 0 (by omega) (by omega) ls (lv_sub hl [2, 3, 4, 1, 0] rfl) hq
def v_X3_lowestBucket_2 (T : Nat → Nat → Int32) (b : Nat) : Nat → Nat → Int32
  | 0, _ => (0)
  | n + 1, i => (if 100 ≤ i then (-1) else (if (v_X3_owns T b i) = true then (nI i) else v_X3_lowestBucket_2 T b n (i + 1)))
def v_X3_lowestBucket (T : Nat → Nat → Int32) (b : Nat) : Int32 := v_X3_lowestBucket_2 T b 101 0
set_option maxHeartbeats 400000 in
set_option maxRecDepth 100000 in
theorem c_X3_lowestBucket (l : Launch) (D : va_G) (g : Nat → ClassId) (h : Nat → Nat) (T : Nat → Nat → Int32) (b : Nat) (z0 : b < 8) : Rd l D (zT g) yX3_lowestBucket wsX3_lowestBucket (rmOf 1 23) [.ref (h 0), .int (nI b)] (zB_X3 (g 0) h T) (.int (v_X3_lowestBucket T b)) := by
  refine Rd.of (cc := cX3_lowestBucket) (maxL := 3) (ret := (some .int)) (by decide) rfl (Nat.le_of_ble_eq_true rfl) ?_
  intro p e s m below meth c ls hx hb hr hml hown hts hlocks hP hK hl
  have hown : s.vm.findClass RX3 = some m.cls := hown
  obtain ⟨q, hq⟩ : ∃ q : Int32, q = v_X3_lowestBucket T b := ⟨_, rfl⟩
  rw [← hq]
  unfold v_X3_lowestBucket at hq
  have hl : lv_has ls 3 [(0, .ref (h 0)), (1, .int (nI b))] := hl
  refine lv_iconst (v := 0) hx hb dX3_lowestBucket_0 (by decide) ?_
  refine lv_istore_n (lv' := [(2, .int 0), (0, .ref (h 0)), (1, .int (nI b))]) hx hb dX3_lowestBucket_1 rfl hl (by decide) rfl (fun ls hl => ?_)
  have L2 : ∀ (n : Nat) (i : Nat), (i ≤ 100) → 100 - i < n → ∀ (ls : Array Slot), lv_has ls 3 [(0, .ref (h 0)), (1, .int (nI b)), (2, .int (nI i))] → q = v_X3_lowestBucket_2 T b n i → W p l e (rmOf 1 23) s m [.ref (h 0), .int (nI b)].toArray below meth c s.heap [] 0 0 (MQ below (zQ (.int q)) [.ref (h 0), .int (nI b)].toArray s 0 0 (fun _ => False)) (F0 m 2 ls []) := by
    intro n
    induction n with
    | zero => intro i v2_0 hn; exact absurd hn (Nat.not_lt_zero _)
    | succ n ih2 =>
      intro i v2_0 hn2 ls hl hq
      rw [v_X3_lowestBucket_2] at hq
      refine lv_iload_n hx hb dX3_lowestBucket_2 rfl (lv_at hl 2 rfl) ?_
      refine lv_bipush (v := 100) hx hb dX3_lowestBucket_3 (by decide) ?_
      refine lv_icmp_ge (tgt := 25) hx hb dX3_lowestBucket_5 (by decide) (fun c_1 => ?_) (fun c_1 => ?_)
      · have c_1 : 100 ≤ i := (nI_leI (a := 100) (b := i) (by omega) (by omega)).mp c_1
        have hq := hq.trans (if_pos c_1)
        refine lv_iconst (v := (-1)) hx hb dX3_lowestBucket_25 (by decide) ?_
        exact zret_i hx hb hr hlocks dX3_lowestBucket_26 hq
      · have c_1 : ¬ (100 ≤ i) := fun h9 => c_1 ((nI_leI (a := 100) (b := i) (by omega) (by omega)).mpr h9)
        have hq := hq.trans (if_neg c_1)
        refine lv_aload_n hx hb dX3_lowestBucket_8 rfl (lv_at hl 0 rfl) ?_
        refine lv_iload_n hx hb dX3_lowestBucket_9 rfl (lv_at hl 1 rfl) ?_
        refine lv_iload_n hx hb dX3_lowestBucket_10 rfl (lv_at hl 2 rfl) ?_
        refine zcV (ci := 3) (n := 2) (c_X3_owns l D g h T b i (by omega) (by omega)) hx hb hml hown hts gX3_lowestBucket_X3_owns rfl ⟨rfl, by decide, by decide, by decide⟩ ⟨Nat.le_of_ble_eq_true rfl, Nat.le_of_ble_eq_true rfl⟩ ⟨rfl, rfl⟩ hK hP rfl rfl rfl hl.1 rfl rfl (Nat.le_of_ble_eq_true rfl) ⟨Nat.zero_le _, Nat.zero_le _⟩ dX3_lowestBucket_11 ?_
        refine zif_eq (tgt := 19) hx hb dX3_lowestBucket_14 (by decide) (fun c_3 => ?_) (fun c_3 => ?_)
        · have hq := hq.trans (zif_f c_3)
          refine lv_iinc (v := (nI (i + 1))) (lv' := [(2, .int (nI (i + 1))), (0, .ref (h 0)), (1, .int (nI b))]) hx hb dX3_lowestBucket_19 hl (k := 2) rfl (nI_add _ 1) (by decide) rfl (fun ls hl => ?_)
          refine lv_goto (tgt := 2) hx hb dX3_lowestBucket_22 (by decide) ?_
          exact ih2 (i + 1) (by omega) (by omega) ls (lv_sub hl [1, 2, 0] rfl) hq
        · have hq := hq.trans (zif_t c_3)
          refine lv_iload_n hx hb dX3_lowestBucket_17 rfl (lv_at hl 2 rfl) ?_
          exact zret_i hx hb hr hlocks dX3_lowestBucket_18 hq
  exact L2 101 0 (by omega) (by omega) ls (lv_sub hl [1, 2, 0] rfl) hq
def v_X3_highestBucket_3 (T : Nat → Nat → Int32) (b : Nat) : Nat → Int32 → Int32
  | 0, _ => (0)
  | n + 1, i => (if i < 0 then (-1) else (if (v_X3_owns T b (Int32.toNatClampNeg i)) = true then i else v_X3_highestBucket_3 T b n (i + (-1))))
def v_X3_highestBucket (T : Nat → Nat → Int32) (b : Nat) : Int32 := v_X3_highestBucket_3 T b 101 99
set_option maxHeartbeats 400000 in
set_option maxRecDepth 100000 in
theorem c_X3_highestBucket (l : Launch) (D : va_G) (g : Nat → ClassId) (h : Nat → Nat) (T : Nat → Nat → Int32) (b : Nat) (z0 : b < 8) : Rd l D (zT g) yX3_highestBucket wsX3_highestBucket (rmOf 1 23) [.ref (h 0), .int (nI b)] (zB_X3 (g 0) h T) (.int (v_X3_highestBucket T b)) := by
  refine Rd.of (cc := cX3_highestBucket) (maxL := 3) (ret := (some .int)) (by decide) rfl (Nat.le_of_ble_eq_true rfl) ?_
  intro p e s m below meth c ls hx hb hr hml hown hts hlocks hP hK hl
  have hown : s.vm.findClass RX3 = some m.cls := hown
  obtain ⟨q, hq⟩ : ∃ q : Int32, q = v_X3_highestBucket T b := ⟨_, rfl⟩
  rw [← hq]
  unfold v_X3_highestBucket at hq
  have hl : lv_has ls 3 [(0, .ref (h 0)), (1, .int (nI b))] := hl
  refine lv_bipush (v := 99) hx hb dX3_highestBucket_0 (by decide) ?_
  refine lv_istore_n (lv' := [(2, .int 99), (0, .ref (h 0)), (1, .int (nI b))]) hx hb dX3_highestBucket_2 rfl hl (by decide) rfl (fun ls hl => ?_)
  have L3 : ∀ (n : Nat) (i : Int32), (-1 ≤ i.toInt) → (i.toInt < 100) → (i.toInt + 1).toNat < n → ∀ (ls : Array Slot), lv_has ls 3 [(0, .ref (h 0)), (1, .int (nI b)), (2, .int i)] → q = v_X3_highestBucket_3 T b n i → W p l e (rmOf 1 23) s m [.ref (h 0), .int (nI b)].toArray below meth c s.heap [] 0 0 (MQ below (zQ (.int q)) [.ref (h 0), .int (nI b)].toArray s 0 0 (fun _ => False)) (F0 m 3 ls []) := by
    intro n
    induction n with
    | zero => intro i v3_0 v3_1 hn; exact absurd hn (Nat.not_lt_zero _)
    | succ n ih3 =>
      intro i v3_0 v3_1 hn3 ls hl hq
      rw [v_X3_highestBucket_3] at hq
      refine lv_iload_n hx hb dX3_highestBucket_3 rfl (lv_at hl 2 rfl) ?_
      refine lv_if_lt (tgt := 24) hx hb dX3_highestBucket_4 (by decide) (fun c_1 => ?_) (fun c_1 => ?_)
      · have c_1 : i < 0 := c_1
        have hq := hq.trans (if_pos c_1)
        refine lv_iconst (v := (-1)) hx hb dX3_highestBucket_24 (by decide) ?_
        exact zret_i hx hb hr hlocks dX3_highestBucket_25 hq
      · have c_1 : ¬ (i < 0) := c_1
        have hq := hq.trans (if_neg c_1)
        refine lv_aload_n hx hb dX3_highestBucket_7 rfl (lv_at hl 0 rfl) ?_
        refine lv_iload_n hx hb dX3_highestBucket_8 rfl (lv_at hl 1 rfl) ?_
        refine lv_iload_n hx hb dX3_highestBucket_9 rfl (lv_at hl 2 rfl) ?_
        have w_2 := znat (zin_dn (by assumption) v3_1)
        have w_2b := w_2.2
        refine lv_is w_2.1 ?_
        refine zcV (ci := 3) (n := 2) (c_X3_owns l D g h T b (Int32.toNatClampNeg i) (by omega) (by omega)) hx hb hml hown hts gX3_highestBucket_X3_owns rfl ⟨rfl, by decide, by decide, by decide⟩ ⟨Nat.le_of_ble_eq_true rfl, Nat.le_of_ble_eq_true rfl⟩ ⟨rfl, rfl⟩ hK hP rfl rfl rfl hl.1 rfl rfl (Nat.le_of_ble_eq_true rfl) ⟨Nat.zero_le _, Nat.zero_le _⟩ dX3_highestBucket_10 ?_
        refine zif_eq (tgt := 18) hx hb dX3_highestBucket_13 (by decide) (fun c_4 => ?_) (fun c_4 => ?_)
        · have hq := hq.trans (zif_f c_4)
          refine lv_iinc (v := (i + (-1))) (lv' := [(2, .int (i + (-1))), (0, .ref (h 0)), (1, .int (nI b))]) hx hb dX3_highestBucket_18 hl (k := 2) rfl rfl (by decide) rfl (fun ls hl => ?_)
          refine lv_goto (tgt := 3) hx hb dX3_highestBucket_21 (by decide) ?_
          exact ih3 (i + (-1)) (by have e9 := zdec (x := i) (by assumption); omega) (by have e9 := zdec (x := i) (by assumption); omega) (by have e9 := zdec (x := i) (by assumption); omega) ls (lv_sub hl [1, 2, 0] rfl) hq
        · have hq := hq.trans (zif_t c_4)
          refine lv_iload_n hx hb dX3_highestBucket_16 rfl (lv_at hl 2 rfl) ?_
          exact zret_i hx hb hr hlocks dX3_highestBucket_17 hq
  exact L3 101 99 (by decide) (by decide) (by decide) ls (lv_sub hl [1, 2, 0] rfl) hq
def v_X3_breadProperty (T : Nat → Nat → Int32) (b : Nat) (w : Int32) : Int32 := (if w = 0 then (((T 3 0) >>> ((nI b) &&& 31)) &&& 1) else (if w = 1 then (T 5 b) else (if w = 2 then (v_X3_saltOf T b) else (if w = 3 then (T 7 b) else (if w = 4 then (((T 4 0) >>> ((nI b) &&& 31)) &&& 1) else (if w = 5 then (nI (v_X3_eaters T b)) else (if w = 6 then (v_X3_personsWith_13 T b) else (if w = 7 then (T 8 b) else (if w = 8 then (v_X3_personsWith_11 T b) else (if w = 9 then (v_X3_personsWith_12 T b) else (if w = 10 then (v_X3_lowestBucket T b) else (v_X3_highestBucket T b))))))))))))
set_option maxHeartbeats 400000 in
set_option maxRecDepth 100000 in
theorem c_X3_breadProperty (l : Launch) (D : va_G) (g : Nat → ClassId) (h : Nat → Nat) (T : Nat → Nat → Int32) (b : Nat) (w : Int32) (z0 : b < 8) : Rd l D (zT g) yX3_breadProperty wsX3_breadProperty (rmOf 4 92) [.ref (h 0), .int (nI b), .int w] (zB_X3 (g 0) h T) (.int (v_X3_breadProperty T b w)) := by
  refine Rd.of (cc := cX3_breadProperty) (maxL := 3) (ret := (some .int)) (by decide) rfl (Nat.le_of_ble_eq_true rfl) ?_
  intro p e s m below meth c ls hx hb hr hml hown hts hlocks hP hK hl
  have hown : s.vm.findClass RX3 = some m.cls := hown
  have hinX3 : ∀ w ∈ u_ws RX3 TX3 15, w ∈ wsX3_breadProperty := fun _ h9 => (List.mem_cons_of_mem _ (List.mem_append_right _ h9))
  obtain ⟨q, hq⟩ : ∃ q : Int32, q = v_X3_breadProperty T b w := ⟨_, rfl⟩
  rw [← hq]
  unfold v_X3_breadProperty at hq
  have hl : lv_has ls 3 [(0, .ref (h 0)), (1, .int (nI b)), (2, .int w)] := hl
  refine lv_iload_n hx hb dX3_breadProperty_0 rfl (lv_at hl 2 rfl) ?_
  by_cases c_1 : w = 0
  · have hq := hq.trans (if_pos c_1)
    have c_1I : Int32.toInt w = 0 := (congrArg Int32.toInt c_1).trans (by decide)
    refine lv_tableIn (off := 59) (tgt := 60) hx hb dX3_breadProperty_1 (by rw [c_1I]; decide) (by rw [c_1I]; decide) (by rw [c_1I]; rfl) (by decide) ?_
    refine lv_aload_n hx hb dX3_breadProperty_60 rfl (lv_at hl 0 rfl) ?_
    refine va_get (D := D) (ci := 3) (v := .int (T 3 0)) (C := RX3) (T := TX3) (N := 15) hx hb hts hinX3 hown hK.1 hP 0 rfl rfl 3 (by decide) (hts (.fieldLink RX3 52 "SaltShares$Town" "openOnes" "I") (List.mem_of_getElem? (i := 1) rfl)) (fun _ h9 => h9) rfl dX3_breadProperty_61 ?_
    refine lv_iload_n hx hb dX3_breadProperty_64 rfl (lv_at hl 1 rfl) ?_
    refine lv_ishr hx hb dX3_breadProperty_65 ?_
    refine lv_iconst (v := 1) hx hb dX3_breadProperty_66 (by decide) ?_
    refine lv_iand hx hb dX3_breadProperty_67 ?_
    exact zret_i hx hb hr hlocks dX3_breadProperty_68 hq
  · have hq := hq.trans (if_neg c_1)
    by_cases c_2 : w = 1
    · have hq := hq.trans (if_pos c_2)
      have c_2I : Int32.toInt w = 1 := (congrArg Int32.toInt c_2).trans (by decide)
      refine lv_tableIn (off := 68) (tgt := 69) hx hb dX3_breadProperty_1 (by rw [c_2I]; decide) (by rw [c_2I]; decide) (by rw [c_2I]; rfl) (by decide) ?_
      refine lv_aload_n hx hb dX3_breadProperty_69 rfl (lv_at hl 0 rfl) ?_
      refine va_get (D := D) (ci := 3) (v := .ref (h 6)) (C := RX3) (T := TX3) (N := 15) hx hb hts hinX3 hown hK.1 hP 0 rfl rfl 5 (by decide) (hts (.fieldLink RX3 9 "SaltShares$Town" "groupOf" "[I") (List.mem_of_getElem? (i := 2) rfl)) (fun _ h9 => h9) rfl dX3_breadProperty_70 ?_
      refine lv_iload_n hx hb dX3_breadProperty_73 rfl (lv_at hl 1 rfl) ?_
      refine z_iald (i := b) hx hb hK hP 1 0 rfl rfl (by omega) (by decide) dX3_breadProperty_74 ?_
      exact zret_i hx hb hr hlocks dX3_breadProperty_75 hq
    · have hq := hq.trans (if_neg c_2)
      by_cases c_3 : w = 2
      · have hq := hq.trans (if_pos c_3)
        have c_3I : Int32.toInt w = 2 := (congrArg Int32.toInt c_3).trans (by decide)
        refine lv_tableIn (off := 75) (tgt := 76) hx hb dX3_breadProperty_1 (by rw [c_3I]; decide) (by rw [c_3I]; decide) (by rw [c_3I]; rfl) (by decide) ?_
        refine lv_aload_n hx hb dX3_breadProperty_76 rfl (lv_at hl 0 rfl) ?_
        refine lv_iload_n hx hb dX3_breadProperty_77 rfl (lv_at hl 1 rfl) ?_
        refine zcV (ci := 3) (n := 1) (c_X3_saltOf l D g h T b (by omega)) hx hb hml hown hts gX3_breadProperty_X3_saltOf rfl ⟨rfl, by decide, by decide, by decide⟩ ⟨Nat.le_of_ble_eq_true rfl, Nat.le_of_ble_eq_true rfl⟩ ⟨rfl, rfl⟩ hK hP rfl rfl rfl hl.1 rfl rfl (Nat.le_of_ble_eq_true rfl) ⟨Nat.zero_le _, Nat.zero_le _⟩ dX3_breadProperty_78 ?_
        exact zret_i hx hb hr hlocks dX3_breadProperty_81 hq
      · have hq := hq.trans (if_neg c_3)
        by_cases c_5 : w = 3
        · have hq := hq.trans (if_pos c_5)
          have c_5I : Int32.toInt w = 3 := (congrArg Int32.toInt c_5).trans (by decide)
          refine lv_tableIn (off := 81) (tgt := 82) hx hb dX3_breadProperty_1 (by rw [c_5I]; decide) (by rw [c_5I]; decide) (by rw [c_5I]; rfl) (by decide) ?_
          refine lv_aload_n hx hb dX3_breadProperty_82 rfl (lv_at hl 0 rfl) ?_
          refine va_get (D := D) (ci := 3) (v := .ref (h 8)) (C := RX3) (T := TX3) (N := 15) hx hb hts hinX3 hown hK.1 hP 0 rfl rfl 7 (by decide) (hts (.fieldLink RX3 18 "SaltShares$Town" "share" "[I") (List.mem_of_getElem? (i := 3) rfl)) (fun _ h9 => h9) rfl dX3_breadProperty_83 ?_
          refine lv_iload_n hx hb dX3_breadProperty_86 rfl (lv_at hl 1 rfl) ?_
          refine z_iald (i := b) hx hb hK hP 3 0 rfl rfl (by omega) (by decide) dX3_breadProperty_87 ?_
          exact zret_i hx hb hr hlocks dX3_breadProperty_88 hq
        · have hq := hq.trans (if_neg c_5)
          by_cases c_6 : w = 4
          · have hq := hq.trans (if_pos c_6)
            have c_6I : Int32.toInt w = 4 := (congrArg Int32.toInt c_6).trans (by decide)
            refine lv_tableIn (off := 88) (tgt := 89) hx hb dX3_breadProperty_1 (by rw [c_6I]; decide) (by rw [c_6I]; decide) (by rw [c_6I]; rfl) (by decide) ?_
            refine lv_aload_n hx hb dX3_breadProperty_89 rfl (lv_at hl 0 rfl) ?_
            refine va_get (D := D) (ci := 3) (v := .int (T 4 0)) (C := RX3) (T := TX3) (N := 15) hx hb hts hinX3 hown hK.1 hP 0 rfl rfl 4 (by decide) (hts (.fieldLink RX3 55 "SaltShares$Town" "stickyOnes" "I") (List.mem_of_getElem? (i := 4) rfl)) (fun _ h9 => h9) rfl dX3_breadProperty_90 ?_
            refine lv_iload_n hx hb dX3_breadProperty_93 rfl (lv_at hl 1 rfl) ?_
            refine lv_ishr hx hb dX3_breadProperty_94 ?_
            refine lv_iconst (v := 1) hx hb dX3_breadProperty_95 (by decide) ?_
            refine lv_iand hx hb dX3_breadProperty_96 ?_
            exact zret_i hx hb hr hlocks dX3_breadProperty_97 hq
          · have hq := hq.trans (if_neg c_6)
            by_cases c_7 : w = 5
            · have hq := hq.trans (if_pos c_7)
              have c_7I : Int32.toInt w = 5 := (congrArg Int32.toInt c_7).trans (by decide)
              refine lv_tableIn (off := 97) (tgt := 98) hx hb dX3_breadProperty_1 (by rw [c_7I]; decide) (by rw [c_7I]; decide) (by rw [c_7I]; rfl) (by decide) ?_
              refine lv_aload_n hx hb dX3_breadProperty_98 rfl (lv_at hl 0 rfl) ?_
              refine lv_iload_n hx hb dX3_breadProperty_99 rfl (lv_at hl 1 rfl) ?_
              refine zcV (ci := 3) (n := 1) (c_X3_eaters l D g h T b (by omega)) hx hb hml hown hts gX3_breadProperty_X3_eaters rfl ⟨rfl, by decide, by decide, by decide⟩ ⟨Nat.le_of_ble_eq_true rfl, Nat.le_of_ble_eq_true rfl⟩ ⟨rfl, rfl⟩ hK hP rfl rfl rfl hl.1 rfl rfl (Nat.le_of_ble_eq_true rfl) ⟨Nat.zero_le _, Nat.zero_le _⟩ dX3_breadProperty_100 ?_
              exact zret_i hx hb hr hlocks dX3_breadProperty_103 hq
            · have hq := hq.trans (if_neg c_7)
              by_cases c_9 : w = 6
              · have hq := hq.trans (if_pos c_9)
                have c_9I : Int32.toInt w = 6 := (congrArg Int32.toInt c_9).trans (by decide)
                refine lv_tableIn (off := 103) (tgt := 104) hx hb dX3_breadProperty_1 (by rw [c_9I]; decide) (by rw [c_9I]; decide) (by rw [c_9I]; rfl) (by decide) ?_
                refine lv_aload_n hx hb dX3_breadProperty_104 rfl (lv_at hl 0 rfl) ?_
                refine lv_aload_n hx hb dX3_breadProperty_105 rfl (lv_at hl 0 rfl) ?_
                refine va_get (D := D) (ci := 3) (v := .ref (h 14)) (C := RX3) (T := TX3) (N := 15) hx hb hts hinX3 hown hK.1 hP 0 rfl rfl 13 (by decide) (hts (.fieldLink RX3 36 "SaltShares$Town" "ate" "[I") (List.mem_of_getElem? (i := 5) rfl)) (fun _ h9 => h9) rfl dX3_breadProperty_106 ?_
                refine lv_iload_n hx hb dX3_breadProperty_109 rfl (lv_at hl 1 rfl) ?_
                refine zcV (ci := 3) (n := 2) (c_X3_personsWith_13 l D g h T b (by omega)) hx hb hml hown hts gX3_breadProperty_X3_personsWith rfl ⟨rfl, by decide, by decide, by decide⟩ ⟨Nat.le_of_ble_eq_true rfl, Nat.le_of_ble_eq_true rfl⟩ ⟨rfl, rfl⟩ hK hP rfl rfl rfl hl.1 rfl rfl (Nat.le_of_ble_eq_true rfl) ⟨Nat.zero_le _, Nat.zero_le _⟩ dX3_breadProperty_110 ?_
                exact zret_i hx hb hr hlocks dX3_breadProperty_113 hq
              · have hq := hq.trans (if_neg c_9)
                by_cases c_11 : w = 7
                · have hq := hq.trans (if_pos c_11)
                  have c_11I : Int32.toInt w = 7 := (congrArg Int32.toInt c_11).trans (by decide)
                  refine lv_tableIn (off := 113) (tgt := 114) hx hb dX3_breadProperty_1 (by rw [c_11I]; decide) (by rw [c_11I]; decide) (by rw [c_11I]; rfl) (by decide) ?_
                  refine lv_aload_n hx hb dX3_breadProperty_114 rfl (lv_at hl 0 rfl) ?_
                  refine va_get (D := D) (ci := 3) (v := .ref (h 9)) (C := RX3) (T := TX3) (N := 15) hx hb hts hinX3 hown hK.1 hP 0 rfl rfl 8 (by decide) (hts (.fieldLink RX3 21 "SaltShares$Town" "servingsOf" "[I") (List.mem_of_getElem? (i := 6) rfl)) (fun _ h9 => h9) rfl dX3_breadProperty_115 ?_
                  refine lv_iload_n hx hb dX3_breadProperty_118 rfl (lv_at hl 1 rfl) ?_
                  refine z_iald (i := b) hx hb hK hP 4 0 rfl rfl (by omega) (by decide) dX3_breadProperty_119 ?_
                  exact zret_i hx hb hr hlocks dX3_breadProperty_120 hq
                · have hq := hq.trans (if_neg c_11)
                  by_cases c_12 : w = 8
                  · have hq := hq.trans (if_pos c_12)
                    have c_12I : Int32.toInt w = 8 := (congrArg Int32.toInt c_12).trans (by decide)
                    refine lv_tableIn (off := 120) (tgt := 121) hx hb dX3_breadProperty_1 (by rw [c_12I]; decide) (by rw [c_12I]; decide) (by rw [c_12I]; rfl) (by decide) ?_
                    refine lv_aload_n hx hb dX3_breadProperty_121 rfl (lv_at hl 0 rfl) ?_
                    refine lv_aload_n hx hb dX3_breadProperty_122 rfl (lv_at hl 0 rfl) ?_
                    refine va_get (D := D) (ci := 3) (v := .ref (h 12)) (C := RX3) (T := TX3) (N := 15) hx hb hts hinX3 hown hK.1 hP 0 rfl rfl 11 (by decide) (hts (.fieldLink RX3 30 "SaltShares$Town" "heldIn" "[I") (List.mem_of_getElem? (i := 7) rfl)) (fun _ h9 => h9) rfl dX3_breadProperty_123 ?_
                    refine lv_iload_n hx hb dX3_breadProperty_126 rfl (lv_at hl 1 rfl) ?_
                    refine zcV (ci := 3) (n := 2) (c_X3_personsWith_11 l D g h T b (by omega)) hx hb hml hown hts gX3_breadProperty_X3_personsWith rfl ⟨rfl, by decide, by decide, by decide⟩ ⟨Nat.le_of_ble_eq_true rfl, Nat.le_of_ble_eq_true rfl⟩ ⟨rfl, rfl⟩ hK hP rfl rfl rfl hl.1 rfl rfl (Nat.le_of_ble_eq_true rfl) ⟨Nat.zero_le _, Nat.zero_le _⟩ dX3_breadProperty_127 ?_
                    exact zret_i hx hb hr hlocks dX3_breadProperty_130 hq
                  · have hq := hq.trans (if_neg c_12)
                    by_cases c_14 : w = 9
                    · have hq := hq.trans (if_pos c_14)
                      have c_14I : Int32.toInt w = 9 := (congrArg Int32.toInt c_14).trans (by decide)
                      refine lv_tableIn (off := 130) (tgt := 131) hx hb dX3_breadProperty_1 (by rw [c_14I]; decide) (by rw [c_14I]; decide) (by rw [c_14I]; rfl) (by decide) ?_
                      refine lv_aload_n hx hb dX3_breadProperty_131 rfl (lv_at hl 0 rfl) ?_
                      refine lv_aload_n hx hb dX3_breadProperty_132 rfl (lv_at hl 0 rfl) ?_
                      refine va_get (D := D) (ci := 3) (v := .ref (h 13)) (C := RX3) (T := TX3) (N := 15) hx hb hts hinX3 hown hK.1 hP 0 rfl rfl 12 (by decide) (hts (.fieldLink RX3 33 "SaltShares$Town" "heldOut" "[I") (List.mem_of_getElem? (i := 8) rfl)) (fun _ h9 => h9) rfl dX3_breadProperty_133 ?_
                      refine lv_iload_n hx hb dX3_breadProperty_136 rfl (lv_at hl 1 rfl) ?_
                      refine zcV (ci := 3) (n := 2) (c_X3_personsWith_12 l D g h T b (by omega)) hx hb hml hown hts gX3_breadProperty_X3_personsWith rfl ⟨rfl, by decide, by decide, by decide⟩ ⟨Nat.le_of_ble_eq_true rfl, Nat.le_of_ble_eq_true rfl⟩ ⟨rfl, rfl⟩ hK hP rfl rfl rfl hl.1 rfl rfl (Nat.le_of_ble_eq_true rfl) ⟨Nat.zero_le _, Nat.zero_le _⟩ dX3_breadProperty_137 ?_
                      exact zret_i hx hb hr hlocks dX3_breadProperty_140 hq
                    · have hq := hq.trans (if_neg c_14)
                      by_cases c_16 : w = 10
                      · have hq := hq.trans (if_pos c_16)
                        have c_16I : Int32.toInt w = 10 := (congrArg Int32.toInt c_16).trans (by decide)
                        refine lv_tableIn (off := 140) (tgt := 141) hx hb dX3_breadProperty_1 (by rw [c_16I]; decide) (by rw [c_16I]; decide) (by rw [c_16I]; rfl) (by decide) ?_
                        refine lv_aload_n hx hb dX3_breadProperty_141 rfl (lv_at hl 0 rfl) ?_
                        refine lv_iload_n hx hb dX3_breadProperty_142 rfl (lv_at hl 1 rfl) ?_
                        refine zcV (ci := 3) (n := 1) (c_X3_lowestBucket l D g h T b (by omega)) hx hb hml hown hts gX3_breadProperty_X3_lowestBucket rfl ⟨rfl, by decide, by decide, by decide⟩ ⟨Nat.le_of_ble_eq_true rfl, Nat.le_of_ble_eq_true rfl⟩ ⟨rfl, rfl⟩ hK hP rfl rfl rfl hl.1 rfl rfl (Nat.le_of_ble_eq_true rfl) ⟨Nat.zero_le _, Nat.zero_le _⟩ dX3_breadProperty_143 ?_
                        exact zret_i hx hb hr hlocks dX3_breadProperty_146 hq
                      · have hq := hq.trans (if_neg c_16)
                        have c_1N : ¬ Int32.toInt w = 0 := lv_neT c_1 (by decide)
                        have c_2N : ¬ Int32.toInt w = 1 := lv_neT c_2 (by decide)
                        have c_3N : ¬ Int32.toInt w = 2 := lv_neT c_3 (by decide)
                        have c_5N : ¬ Int32.toInt w = 3 := lv_neT c_5 (by decide)
                        have c_6N : ¬ Int32.toInt w = 4 := lv_neT c_6 (by decide)
                        have c_7N : ¬ Int32.toInt w = 5 := lv_neT c_7 (by decide)
                        have c_9N : ¬ Int32.toInt w = 6 := lv_neT c_9 (by decide)
                        have c_11N : ¬ Int32.toInt w = 7 := lv_neT c_11 (by decide)
                        have c_12N : ¬ Int32.toInt w = 8 := lv_neT c_12 (by decide)
                        have c_14N : ¬ Int32.toInt w = 9 := lv_neT c_14 (by decide)
                        have c_16N : ¬ Int32.toInt w = 10 := lv_neT c_16 (by decide)
                        refine lv_tableOut (tgt := 147) hx hb dX3_breadProperty_1 (by omega) (by decide) ?_
                        refine lv_aload_n hx hb dX3_breadProperty_147 rfl (lv_at hl 0 rfl) ?_
                        refine lv_iload_n hx hb dX3_breadProperty_148 rfl (lv_at hl 1 rfl) ?_
                        refine zcV (ci := 3) (n := 1) (c_X3_highestBucket l D g h T b (by omega)) hx hb hml hown hts gX3_breadProperty_X3_highestBucket rfl ⟨rfl, by decide, by decide, by decide⟩ ⟨Nat.le_of_ble_eq_true rfl, Nat.le_of_ble_eq_true rfl⟩ ⟨rfl, rfl⟩ hK hP rfl rfl rfl hl.1 rfl rfl (Nat.le_of_ble_eq_true rfl) ⟨Nat.zero_le _, Nat.zero_le _⟩ dX3_breadProperty_149 ?_
                        exact zret_i hx hb hr hlocks dX3_breadProperty_152 hq
def v_X3_personsWhoEat_4 (T : Nat → Nat → Int32) : Nat → Nat → Nat → Nat
  | 0, _, _ => (0)
  | n + 1, many, i => (if 150 ≤ i then many else (if (v_X3_breadsEatenBy T i) = 0 then v_X3_personsWhoEat_4 T n many (i + 1) else v_X3_personsWhoEat_4 T n (many + 1) (i + 1)))
def v_X3_personsWhoEat (T : Nat → Nat → Int32) : Nat := v_X3_personsWhoEat_4 T 151 0 0
set_option maxHeartbeats 400000 in
set_option maxRecDepth 100000 in
theorem c_X3_personsWhoEat (l : Launch) (D : va_G) (g : Nat → ClassId) (h : Nat → Nat) (T : Nat → Nat → Int32) : Rd l D (zT g) yX3_personsWhoEat wsX3_personsWhoEat (rmOf 3 70) [.ref (h 0)] (zB_X3 (g 0) h T) (.int (nI (v_X3_personsWhoEat T))) := by
  refine Rd.of (cc := cX3_personsWhoEat) (maxL := 3) (ret := (some .int)) (by decide) rfl (Nat.le_of_ble_eq_true rfl) ?_
  intro p e s m below meth c ls hx hb hr hml hown hts hlocks hP hK hl
  have hown : s.vm.findClass RX3 = some m.cls := hown
  obtain ⟨q, hq⟩ : ∃ q : Nat, q = v_X3_personsWhoEat T := ⟨_, rfl⟩
  rw [← hq]
  unfold v_X3_personsWhoEat at hq
  have hl : lv_has ls 3 [(0, .ref (h 0))] := hl
  refine lv_iconst (v := 0) hx hb dX3_personsWhoEat_0 (by decide) ?_
  refine lv_istore_n (lv' := [(1, .int 0), (0, .ref (h 0))]) hx hb dX3_personsWhoEat_1 rfl hl (by decide) rfl (fun ls hl => ?_)
  refine lv_iconst (v := 0) hx hb dX3_personsWhoEat_2 (by decide) ?_
  refine lv_istore_n (lv' := [(2, .int 0), (1, .int 0), (0, .ref (h 0))]) hx hb dX3_personsWhoEat_3 rfl hl (by decide) rfl (fun ls hl => ?_)
  have L4 : ∀ (n : Nat) (many : Nat) (i : Nat), (i ≤ 150) → 150 - i < n → ∀ (ls : Array Slot), lv_has ls 3 [(0, .ref (h 0)), (1, .int (nI many)), (2, .int (nI i))] → q = v_X3_personsWhoEat_4 T n many i → W p l e (rmOf 3 70) s m [.ref (h 0)].toArray below meth c s.heap [] 0 0 (MQ below (zQ (.int (nI q))) [.ref (h 0)].toArray s 0 0 (fun _ => False)) (F0 m 4 ls []) := by
    intro n
    induction n with
    | zero => intro many i v4_0 hn; exact absurd hn (Nat.not_lt_zero _)
    | succ n ih4 =>
      intro many i v4_0 hn4 ls hl hq
      rw [v_X3_personsWhoEat_4] at hq
      refine lv_iload_n hx hb dX3_personsWhoEat_4 rfl (lv_at hl 2 rfl) ?_
      refine lv_sipush (v := 150) hx hb dX3_personsWhoEat_5 (by decide) ?_
      refine lv_icmp_ge (tgt := 28) hx hb dX3_personsWhoEat_8 (by decide) (fun c_1 => ?_) (fun c_1 => ?_)
      · have c_1 : 150 ≤ i := (nI_leI (a := 150) (b := i) (by omega) (by omega)).mp c_1
        have hq := hq.trans (if_pos c_1)
        refine lv_iload_n hx hb dX3_personsWhoEat_28 rfl (lv_at hl 1 rfl) ?_
        exact zret_i hx hb hr hlocks dX3_personsWhoEat_29 (congrArg nI hq)
      · have c_1 : ¬ (150 ≤ i) := fun h9 => c_1 ((nI_leI (a := 150) (b := i) (by omega) (by omega)).mpr h9)
        have hq := hq.trans (if_neg c_1)
        refine lv_aload_n hx hb dX3_personsWhoEat_11 rfl (lv_at hl 0 rfl) ?_
        refine lv_iload_n hx hb dX3_personsWhoEat_12 rfl (lv_at hl 2 rfl) ?_
        refine zcV (ci := 3) (n := 1) (c_X3_breadsEatenBy l D g h T i (by omega)) hx hb hml hown hts gX3_personsWhoEat_X3_breadsEatenBy rfl ⟨rfl, by decide, by decide, by decide⟩ ⟨Nat.le_of_ble_eq_true rfl, Nat.le_of_ble_eq_true rfl⟩ ⟨rfl, rfl⟩ hK hP rfl rfl rfl hl.1 rfl rfl (Nat.le_of_ble_eq_true rfl) ⟨Nat.zero_le _, Nat.zero_le _⟩ dX3_personsWhoEat_13 ?_
        refine lv_if_eq (tgt := 22) hx hb dX3_personsWhoEat_16 (by decide) (fun c_3 => ?_) (fun c_3 => ?_)
        · have c_3 : (v_X3_breadsEatenBy T i) = 0 := c_3
          have hq := hq.trans (if_pos c_3)
          refine lv_iinc (v := (nI (i + 1))) (lv' := [(2, .int (nI (i + 1))), (0, .ref (h 0)), (1, .int (nI many))]) hx hb dX3_personsWhoEat_22 hl (k := 2) rfl (nI_add _ 1) (by decide) rfl (fun ls hl => ?_)
          refine lv_goto (tgt := 4) hx hb dX3_personsWhoEat_25 (by decide) ?_
          exact ih4 many (i + 1) (by omega) (by omega) ls (lv_sub hl [1, 2, 0] rfl) hq
        · have c_3 : ¬ ((v_X3_breadsEatenBy T i) = 0) := c_3
          have hq := hq.trans (if_neg c_3)
          refine lv_iinc (v := (nI (many + 1))) (lv' := [(1, .int (nI (many + 1))), (0, .ref (h 0)), (2, .int (nI i))]) hx hb dX3_personsWhoEat_19 hl (k := 1) rfl (nI_add _ 1) (by decide) rfl (fun ls hl => ?_)
          refine lv_iinc (v := (nI (i + 1))) (lv' := [(2, .int (nI (i + 1))), (1, .int (nI (many + 1))), (0, .ref (h 0))]) hx hb dX3_personsWhoEat_22 hl (k := 2) rfl (nI_add _ 1) (by decide) rfl (fun ls hl => ?_)
          refine lv_goto (tgt := 4) hx hb dX3_personsWhoEat_25 (by decide) ?_
          exact ih4 (many + 1) (i + 1) (by omega) (by omega) ls (lv_sub hl [2, 1, 0] rfl) hq
  exact L4 151 0 0 (by omega) (by omega) ls (lv_sub hl [2, 1, 0] rfl) hq
def v_X3_personsWhoAte_4 (T : Nat → Nat → Int32) : Nat → Nat → Nat → Nat
  | 0, _, _ => (0)
  | n + 1, many, i => (if 150 ≤ i then many else (if (T 13 i) = 0 then v_X3_personsWhoAte_4 T n many (i + 1) else v_X3_personsWhoAte_4 T n (many + 1) (i + 1)))
def v_X3_personsWhoAte (T : Nat → Nat → Int32) : Nat := v_X3_personsWhoAte_4 T 151 0 0
set_option maxHeartbeats 400000 in
set_option maxRecDepth 100000 in
theorem c_X3_personsWhoAte (l : Launch) (D : va_G) (g : Nat → ClassId) (h : Nat → Nat) (T : Nat → Nat → Int32) : Rd l D (zT g) yX3_personsWhoAte wsX3_personsWhoAte (rmOf 0 0) [.ref (h 0)] (zB_X3 (g 0) h T) (.int (nI (v_X3_personsWhoAte T))) := by
  refine Rd.of (cc := cX3_personsWhoAte) (maxL := 3) (ret := (some .int)) (by decide) rfl (Nat.le_of_ble_eq_true rfl) ?_
  intro p e s m below meth c ls hx hb hr hml hown hts hlocks hP hK hl
  have hown : s.vm.findClass RX3 = some m.cls := hown
  have hinX3 : ∀ w ∈ u_ws RX3 TX3 15, w ∈ wsX3_personsWhoAte := fun _ h9 => (List.mem_cons_of_mem _ (List.mem_append_right _ h9))
  obtain ⟨q, hq⟩ : ∃ q : Nat, q = v_X3_personsWhoAte T := ⟨_, rfl⟩
  rw [← hq]
  unfold v_X3_personsWhoAte at hq
  have hl : lv_has ls 3 [(0, .ref (h 0))] := hl
  refine lv_iconst (v := 0) hx hb dX3_personsWhoAte_0 (by decide) ?_
  refine lv_istore_n (lv' := [(1, .int 0), (0, .ref (h 0))]) hx hb dX3_personsWhoAte_1 rfl hl (by decide) rfl (fun ls hl => ?_)
  refine lv_iconst (v := 0) hx hb dX3_personsWhoAte_2 (by decide) ?_
  refine lv_istore_n (lv' := [(2, .int 0), (1, .int 0), (0, .ref (h 0))]) hx hb dX3_personsWhoAte_3 rfl hl (by decide) rfl (fun ls hl => ?_)
  have L4 : ∀ (n : Nat) (many : Nat) (i : Nat), (i ≤ 150) → 150 - i < n → ∀ (ls : Array Slot), lv_has ls 3 [(0, .ref (h 0)), (1, .int (nI many)), (2, .int (nI i))] → q = v_X3_personsWhoAte_4 T n many i → W p l e (rmOf 0 0) s m [.ref (h 0)].toArray below meth c s.heap [] 0 0 (MQ below (zQ (.int (nI q))) [.ref (h 0)].toArray s 0 0 (fun _ => False)) (F0 m 4 ls []) := by
    intro n
    induction n with
    | zero => intro many i v4_0 hn; exact absurd hn (Nat.not_lt_zero _)
    | succ n ih4 =>
      intro many i v4_0 hn4 ls hl hq
      rw [v_X3_personsWhoAte_4] at hq
      refine lv_iload_n hx hb dX3_personsWhoAte_4 rfl (lv_at hl 2 rfl) ?_
      refine lv_sipush (v := 150) hx hb dX3_personsWhoAte_5 (by decide) ?_
      refine lv_icmp_ge (tgt := 29) hx hb dX3_personsWhoAte_8 (by decide) (fun c_1 => ?_) (fun c_1 => ?_)
      · have c_1 : 150 ≤ i := (nI_leI (a := 150) (b := i) (by omega) (by omega)).mp c_1
        have hq := hq.trans (if_pos c_1)
        refine lv_iload_n hx hb dX3_personsWhoAte_29 rfl (lv_at hl 1 rfl) ?_
        exact zret_i hx hb hr hlocks dX3_personsWhoAte_30 (congrArg nI hq)
      · have c_1 : ¬ (150 ≤ i) := fun h9 => c_1 ((nI_leI (a := 150) (b := i) (by omega) (by omega)).mpr h9)
        have hq := hq.trans (if_neg c_1)
        refine lv_aload_n hx hb dX3_personsWhoAte_11 rfl (lv_at hl 0 rfl) ?_
        refine va_get (D := D) (ci := 3) (v := .ref (h 14)) (C := RX3) (T := TX3) (N := 15) hx hb hts hinX3 hown hK.1 hP 0 rfl rfl 13 (by decide) (hts (.fieldLink RX3 36 "SaltShares$Town" "ate" "[I") (List.mem_of_getElem? (i := 1) rfl)) (fun _ h9 => h9) rfl dX3_personsWhoAte_12 ?_
        refine lv_iload_n hx hb dX3_personsWhoAte_15 rfl (lv_at hl 2 rfl) ?_
        refine z_iald (i := i) hx hb hK hP 9 0 rfl rfl (by omega) (by decide) dX3_personsWhoAte_16 ?_
        refine lv_if_eq (tgt := 23) hx hb dX3_personsWhoAte_17 (by decide) (fun c_2 => ?_) (fun c_2 => ?_)
        · have c_2 : (T 13 i) = 0 := c_2
          have hq := hq.trans (if_pos c_2)
          refine lv_iinc (v := (nI (i + 1))) (lv' := [(2, .int (nI (i + 1))), (0, .ref (h 0)), (1, .int (nI many))]) hx hb dX3_personsWhoAte_23 hl (k := 2) rfl (nI_add _ 1) (by decide) rfl (fun ls hl => ?_)
          refine lv_goto (tgt := 4) hx hb dX3_personsWhoAte_26 (by decide) ?_
          exact ih4 many (i + 1) (by omega) (by omega) ls (lv_sub hl [1, 2, 0] rfl) hq
        · have c_2 : ¬ ((T 13 i) = 0) := c_2
          have hq := hq.trans (if_neg c_2)
          refine lv_iinc (v := (nI (many + 1))) (lv' := [(1, .int (nI (many + 1))), (0, .ref (h 0)), (2, .int (nI i))]) hx hb dX3_personsWhoAte_20 hl (k := 1) rfl (nI_add _ 1) (by decide) rfl (fun ls hl => ?_)
          refine lv_iinc (v := (nI (i + 1))) (lv' := [(2, .int (nI (i + 1))), (1, .int (nI (many + 1))), (0, .ref (h 0))]) hx hb dX3_personsWhoAte_23 hl (k := 2) rfl (nI_add _ 1) (by decide) rfl (fun ls hl => ?_)
          refine lv_goto (tgt := 4) hx hb dX3_personsWhoAte_26 (by decide) ?_
          exact ih4 (many + 1) (i + 1) (by omega) (by omega) ls (lv_sub hl [2, 1, 0] rfl) hq
  exact L4 151 0 0 (by omega) (by omega) ls (lv_sub hl [2, 1, 0] rfl) hq
def v_X3_breadsOfGroup_4 (T : Nat → Nat → Int32) (gr : Nat) : Nat → Int32 → Nat → Int32
  | 0, _, _ => (0)
  | n + 1, mask, i => (if 8 ≤ i then mask else (if (T 5 i) = (nI gr) then v_X3_breadsOfGroup_4 T gr n (mask ||| ((1 : Int32) <<< ((nI i) &&& 31))) (i + 1) else v_X3_breadsOfGroup_4 T gr n mask (i + 1)))
def v_X3_breadsOfGroup (T : Nat → Nat → Int32) (gr : Nat) : Int32 := v_X3_breadsOfGroup_4 T gr 9 0 0
set_option maxHeartbeats 400000 in
set_option maxRecDepth 100000 in
theorem c_X3_breadsOfGroup (l : Launch) (D : va_G) (g : Nat → ClassId) (h : Nat → Nat) (T : Nat → Nat → Int32) (gr : Nat) (z0 : gr < 3) : Rd l D (zT g) yX3_breadsOfGroup wsX3_breadsOfGroup (rmOf 0 0) [.ref (h 0), .int (nI gr)] (zB_X3 (g 0) h T) (.int (v_X3_breadsOfGroup T gr)) := by
  refine Rd.of (cc := cX3_breadsOfGroup) (maxL := 4) (ret := (some .int)) (by decide) rfl (Nat.le_of_ble_eq_true rfl) ?_
  intro p e s m below meth c ls hx hb hr hml hown hts hlocks hP hK hl
  have hown : s.vm.findClass RX3 = some m.cls := hown
  have hinX3 : ∀ w ∈ u_ws RX3 TX3 15, w ∈ wsX3_breadsOfGroup := fun _ h9 => (List.mem_cons_of_mem _ (List.mem_append_right _ h9))
  obtain ⟨q, hq⟩ : ∃ q : Int32, q = v_X3_breadsOfGroup T gr := ⟨_, rfl⟩
  rw [← hq]
  unfold v_X3_breadsOfGroup at hq
  have hl : lv_has ls 4 [(0, .ref (h 0)), (1, .int (nI gr))] := hl
  refine lv_iconst (v := 0) hx hb dX3_breadsOfGroup_0 (by decide) ?_
  refine lv_istore_n (lv' := [(2, .int 0), (0, .ref (h 0)), (1, .int (nI gr))]) hx hb dX3_breadsOfGroup_1 rfl hl (by decide) rfl (fun ls hl => ?_)
  refine lv_iconst (v := 0) hx hb dX3_breadsOfGroup_2 (by decide) ?_
  refine lv_istore_n (lv' := [(3, .int 0), (2, .int 0), (0, .ref (h 0)), (1, .int (nI gr))]) hx hb dX3_breadsOfGroup_3 rfl hl (by decide) rfl (fun ls hl => ?_)
  have L4 : ∀ (n : Nat) (mask : Int32) (i : Nat), (i ≤ 8) → 8 - i < n → ∀ (ls : Array Slot), lv_has ls 4 [(0, .ref (h 0)), (1, .int (nI gr)), (2, .int mask), (3, .int (nI i))] → q = v_X3_breadsOfGroup_4 T gr n mask i → W p l e (rmOf 0 0) s m [.ref (h 0), .int (nI gr)].toArray below meth c s.heap [] 0 0 (MQ below (zQ (.int q)) [.ref (h 0), .int (nI gr)].toArray s 0 0 (fun _ => False)) (F0 m 4 ls []) := by
    intro n
    induction n with
    | zero => intro mask i v4_0 hn; exact absurd hn (Nat.not_lt_zero _)
    | succ n ih4 =>
      intro mask i v4_0 hn4 ls hl hq
      rw [v_X3_breadsOfGroup_4] at hq
      refine lv_iload_n hx hb dX3_breadsOfGroup_4 rfl (lv_at hl 3 rfl) ?_
      refine lv_bipush (v := 8) hx hb dX3_breadsOfGroup_5 (by decide) ?_
      refine lv_icmp_ge (tgt := 32) hx hb dX3_breadsOfGroup_7 (by decide) (fun c_1 => ?_) (fun c_1 => ?_)
      · have c_1 : 8 ≤ i := (nI_leI (a := 8) (b := i) (by omega) (by omega)).mp c_1
        have hq := hq.trans (if_pos c_1)
        refine lv_iload_n hx hb dX3_breadsOfGroup_32 rfl (lv_at hl 2 rfl) ?_
        exact zret_i hx hb hr hlocks dX3_breadsOfGroup_33 hq
      · have c_1 : ¬ (8 ≤ i) := fun h9 => c_1 ((nI_leI (a := 8) (b := i) (by omega) (by omega)).mpr h9)
        have hq := hq.trans (if_neg c_1)
        refine lv_aload_n hx hb dX3_breadsOfGroup_10 rfl (lv_at hl 0 rfl) ?_
        refine va_get (D := D) (ci := 3) (v := .ref (h 6)) (C := RX3) (T := TX3) (N := 15) hx hb hts hinX3 hown hK.1 hP 0 rfl rfl 5 (by decide) (hts (.fieldLink RX3 9 "SaltShares$Town" "groupOf" "[I") (List.mem_of_getElem? (i := 1) rfl)) (fun _ h9 => h9) rfl dX3_breadsOfGroup_11 ?_
        refine lv_iload_n hx hb dX3_breadsOfGroup_14 rfl (lv_at hl 3 rfl) ?_
        refine z_iald (i := i) hx hb hK hP 1 0 rfl rfl (by omega) (by decide) dX3_breadsOfGroup_15 ?_
        refine lv_iload_n hx hb dX3_breadsOfGroup_16 rfl (lv_at hl 1 rfl) ?_
        refine lv_icmp_ne (tgt := 26) hx hb dX3_breadsOfGroup_17 (by decide) (fun c_2 => ?_) (fun c_2 => ?_)
        · have c_2 : ¬ ((T 5 i) = (nI gr)) := c_2
          have hq := hq.trans (if_neg c_2)
          refine lv_iinc (v := (nI (i + 1))) (lv' := [(3, .int (nI (i + 1))), (0, .ref (h 0)), (1, .int (nI gr)), (2, .int mask)]) hx hb dX3_breadsOfGroup_26 hl (k := 3) rfl (nI_add _ 1) (by decide) rfl (fun ls hl => ?_)
          refine lv_goto (tgt := 4) hx hb dX3_breadsOfGroup_29 (by decide) ?_
          exact ih4 mask (i + 1) (by omega) (by omega) ls (lv_sub hl [1, 2, 3, 0] rfl) hq
        · have c_2 : (T 5 i) = (nI gr) := c_2
          have hq := hq.trans (if_pos c_2)
          refine lv_iload_n hx hb dX3_breadsOfGroup_20 rfl (lv_at hl 2 rfl) ?_
          refine lv_iconst (v := 1) hx hb dX3_breadsOfGroup_21 (by decide) ?_
          refine lv_iload_n hx hb dX3_breadsOfGroup_22 rfl (lv_at hl 3 rfl) ?_
          refine lv_ishl hx hb dX3_breadsOfGroup_23 ?_
          refine lv_ior hx hb dX3_breadsOfGroup_24 ?_
          refine lv_istore_n (lv' := [(2, .int (mask ||| ((1 : Int32) <<< ((nI i) &&& 31)))), (0, .ref (h 0)), (1, .int (nI gr)), (3, .int (nI i))]) hx hb dX3_breadsOfGroup_25 rfl hl (by decide) rfl (fun ls hl => ?_)
          refine lv_iinc (v := (nI (i + 1))) (lv' := [(3, .int (nI (i + 1))), (2, .int (mask ||| ((1 : Int32) <<< ((nI i) &&& 31)))), (0, .ref (h 0)), (1, .int (nI gr))]) hx hb dX3_breadsOfGroup_26 hl (k := 3) rfl (nI_add _ 1) (by decide) rfl (fun ls hl => ?_)
          refine lv_goto (tgt := 4) hx hb dX3_breadsOfGroup_29 (by decide) ?_
          exact ih4 (mask ||| ((1 : Int32) <<< ((nI i) &&& 31))) (i + 1) (by omega) (by omega) ls (lv_sub hl [2, 3, 1, 0] rfl) hq
  exact L4 9 0 0 (by omega) (by omega) ls (lv_sub hl [2, 3, 1, 0] rfl) hq
def v_X3_hasTwoOfAGroup_2 (T : Nat → Nat → Int32) (e1 : Int32) : Nat → Nat → Bool
  | 0, _ => (false)
  | n + 1, i => (if 3 ≤ i then false else (if (v_J6_bitCount_0f7a4 (e1 &&& (v_X3_breadsOfGroup T i))) < 2 then v_X3_hasTwoOfAGroup_2 T e1 n (i + 1) else true))
def v_X3_hasTwoOfAGroup (T : Nat → Nat → Int32) (e1 : Int32) : Bool := v_X3_hasTwoOfAGroup_2 T e1 4 0
set_option maxHeartbeats 400000 in
set_option maxRecDepth 100000 in
theorem c_X3_hasTwoOfAGroup (l : Launch) (D : va_G) (g : Nat → ClassId) (h : Nat → Nat) (T : Nat → Nat → Int32) (e1 : Int32) : Rd l D (zT g) yX3_hasTwoOfAGroup wsX3_hasTwoOfAGroup (rmOf 1 23) [.ref (h 0), .int e1] (zB_X3 (g 0) h T) (.int (bI (v_X3_hasTwoOfAGroup T e1))) := by
  refine Rd.of (cc := cX3_hasTwoOfAGroup) (maxL := 3) (ret := (some .boolean)) (by decide) rfl (Nat.le_of_ble_eq_true rfl) ?_
  intro p e s m below meth c ls hx hb hr hml hown hts hlocks hP hK hl
  have hown : s.vm.findClass RX3 = some m.cls := hown
  obtain ⟨q, hq⟩ : ∃ q : Bool, q = v_X3_hasTwoOfAGroup T e1 := ⟨_, rfl⟩
  rw [← hq]
  unfold v_X3_hasTwoOfAGroup at hq
  have hl : lv_has ls 3 [(0, .ref (h 0)), (1, .int e1)] := hl
  refine lv_iconst (v := 0) hx hb dX3_hasTwoOfAGroup_0 (by decide) ?_
  refine lv_istore_n (lv' := [(2, .int 0), (0, .ref (h 0)), (1, .int e1)]) hx hb dX3_hasTwoOfAGroup_1 rfl hl (by decide) rfl (fun ls hl => ?_)
  have L2 : ∀ (n : Nat) (i : Nat), (i ≤ 3) → 3 - i < n → ∀ (ls : Array Slot), lv_has ls 3 [(0, .ref (h 0)), (1, .int e1), (2, .int (nI i))] → q = v_X3_hasTwoOfAGroup_2 T e1 n i → W p l e (rmOf 1 23) s m [.ref (h 0), .int e1].toArray below meth c s.heap [] 0 0 (MQ below (zQ (.int (bI q))) [.ref (h 0), .int e1].toArray s 0 0 (fun _ => False)) (F0 m 2 ls []) := by
    intro n
    induction n with
    | zero => intro i v2_0 hn; exact absurd hn (Nat.not_lt_zero _)
    | succ n ih2 =>
      intro i v2_0 hn2 ls hl hq
      rw [v_X3_hasTwoOfAGroup_2] at hq
      refine lv_iload_n hx hb dX3_hasTwoOfAGroup_2 rfl (lv_at hl 2 rfl) ?_
      refine lv_iconst (v := 3) hx hb dX3_hasTwoOfAGroup_3 (by decide) ?_
      refine lv_icmp_ge (tgt := 29) hx hb dX3_hasTwoOfAGroup_4 (by decide) (fun c_1 => ?_) (fun c_1 => ?_)
      · have c_1 : 3 ≤ i := (nI_leI (a := 3) (b := i) (by omega) (by omega)).mp c_1
        have hq := hq.trans (if_pos c_1)
        refine lv_iconst (v := 0) hx hb dX3_hasTwoOfAGroup_29 (by decide) ?_
        exact zret_z (q' := false) hx hb hr hlocks dX3_hasTwoOfAGroup_30 hq
      · have c_1 : ¬ (3 ≤ i) := fun h9 => c_1 ((nI_leI (a := 3) (b := i) (by omega) (by omega)).mpr h9)
        have hq := hq.trans (if_neg c_1)
        refine lv_iload_n hx hb dX3_hasTwoOfAGroup_7 rfl (lv_at hl 1 rfl) ?_
        refine lv_aload_n hx hb dX3_hasTwoOfAGroup_8 rfl (lv_at hl 0 rfl) ?_
        refine lv_iload_n hx hb dX3_hasTwoOfAGroup_9 rfl (lv_at hl 2 rfl) ?_
        refine zcV (ci := 3) (n := 1) (c_X3_breadsOfGroup l D g h T i (by omega)) hx hb hml hown hts gX3_hasTwoOfAGroup_X3_breadsOfGroup rfl ⟨rfl, by decide, by decide, by decide⟩ ⟨Nat.le_of_ble_eq_true rfl, Nat.le_of_ble_eq_true rfl⟩ ⟨rfl, rfl⟩ hK hP rfl rfl rfl hl.1 rfl rfl (Nat.le_of_ble_eq_true rfl) ⟨Nat.zero_le _, Nat.zero_le _⟩ dX3_hasTwoOfAGroup_10 ?_
        refine lv_iand hx hb dX3_hasTwoOfAGroup_13 ?_
        refine zcSO (n := 1) (c_J6_bitCount_0f7a4 l D g (e1 &&& (v_X3_breadsOfGroup T i))) hx hb hml hown hts gX3_hasTwoOfAGroup_J6_bitCount_0f7a4 rfl ⟨by decide, by decide, by decide⟩ ⟨Nat.le_of_ble_eq_true rfl, Nat.le_of_ble_eq_true rfl⟩ ⟨rfl, rfl⟩ hK (hP.sub [] rfl) hl.1 rfl rfl (Nat.le_of_ble_eq_true rfl) ⟨Nat.zero_le _, Nat.zero_le _⟩ dX3_hasTwoOfAGroup_14 ?_
        refine lv_iconst (v := 2) hx hb dX3_hasTwoOfAGroup_17 (by decide) ?_
        refine lv_icmp_lt (tgt := 23) hx hb dX3_hasTwoOfAGroup_18 (by decide) (fun c_4 => ?_) (fun c_4 => ?_)
        · have c_4 : (v_J6_bitCount_0f7a4 (e1 &&& (v_X3_breadsOfGroup T i))) < 2 := c_4
          have hq := hq.trans (if_pos c_4)
          refine lv_iinc (v := (nI (i + 1))) (lv' := [(2, .int (nI (i + 1))), (0, .ref (h 0)), (1, .int e1)]) hx hb dX3_hasTwoOfAGroup_23 hl (k := 2) rfl (nI_add _ 1) (by decide) rfl (fun ls hl => ?_)
          refine lv_goto (tgt := 2) hx hb dX3_hasTwoOfAGroup_26 (by decide) ?_
          exact ih2 (i + 1) (by omega) (by omega) ls (lv_sub hl [1, 2, 0] rfl) hq
        · have c_4 : ¬ ((v_J6_bitCount_0f7a4 (e1 &&& (v_X3_breadsOfGroup T i))) < 2) := c_4
          have hq := hq.trans (if_neg c_4)
          refine lv_iconst (v := 1) hx hb dX3_hasTwoOfAGroup_21 (by decide) ?_
          exact zret_z (q' := true) hx hb hr hlocks dX3_hasTwoOfAGroup_22 hq
  exact L2 4 0 (by omega) (by omega) ls (lv_sub hl [1, 2, 0] rfl) hq
def v_X3_personsWithTwoOfAGroup_4 (T : Nat → Nat → Int32) : Nat → Nat → Nat → Nat
  | 0, _, _ => (0)
  | n + 1, many, i => (if 150 ≤ i then many else (if (v_X3_hasTwoOfAGroup T (v_X3_breadsEatenBy T i)) = true then v_X3_personsWithTwoOfAGroup_4 T n (many + 1) (i + 1) else v_X3_personsWithTwoOfAGroup_4 T n many (i + 1)))
def v_X3_personsWithTwoOfAGroup (T : Nat → Nat → Int32) : Nat := v_X3_personsWithTwoOfAGroup_4 T 151 0 0
set_option maxHeartbeats 400000 in
set_option maxRecDepth 100000 in
theorem c_X3_personsWithTwoOfAGroup (l : Launch) (D : va_G) (g : Nat → ClassId) (h : Nat → Nat) (T : Nat → Nat → Int32) : Rd l D (zT g) yX3_personsWithTwoOfAGroup wsX3_personsWithTwoOfAGroup (rmOf 3 70) [.ref (h 0)] (zB_X3 (g 0) h T) (.int (nI (v_X3_personsWithTwoOfAGroup T))) := by
  refine Rd.of (cc := cX3_personsWithTwoOfAGroup) (maxL := 3) (ret := (some .int)) (by decide) rfl (Nat.le_of_ble_eq_true rfl) ?_
  intro p e s m below meth c ls hx hb hr hml hown hts hlocks hP hK hl
  have hown : s.vm.findClass RX3 = some m.cls := hown
  obtain ⟨q, hq⟩ : ∃ q : Nat, q = v_X3_personsWithTwoOfAGroup T := ⟨_, rfl⟩
  rw [← hq]
  unfold v_X3_personsWithTwoOfAGroup at hq
  have hl : lv_has ls 3 [(0, .ref (h 0))] := hl
  refine lv_iconst (v := 0) hx hb dX3_personsWithTwoOfAGroup_0 (by decide) ?_
  refine lv_istore_n (lv' := [(1, .int 0), (0, .ref (h 0))]) hx hb dX3_personsWithTwoOfAGroup_1 rfl hl (by decide) rfl (fun ls hl => ?_)
  refine lv_iconst (v := 0) hx hb dX3_personsWithTwoOfAGroup_2 (by decide) ?_
  refine lv_istore_n (lv' := [(2, .int 0), (1, .int 0), (0, .ref (h 0))]) hx hb dX3_personsWithTwoOfAGroup_3 rfl hl (by decide) rfl (fun ls hl => ?_)
  have L4 : ∀ (n : Nat) (many : Nat) (i : Nat), (i ≤ 150) → 150 - i < n → ∀ (ls : Array Slot), lv_has ls 3 [(0, .ref (h 0)), (1, .int (nI many)), (2, .int (nI i))] → q = v_X3_personsWithTwoOfAGroup_4 T n many i → W p l e (rmOf 3 70) s m [.ref (h 0)].toArray below meth c s.heap [] 0 0 (MQ below (zQ (.int (nI q))) [.ref (h 0)].toArray s 0 0 (fun _ => False)) (F0 m 4 ls []) := by
    intro n
    induction n with
    | zero => intro many i v4_0 hn; exact absurd hn (Nat.not_lt_zero _)
    | succ n ih4 =>
      intro many i v4_0 hn4 ls hl hq
      rw [v_X3_personsWithTwoOfAGroup_4] at hq
      refine lv_iload_n hx hb dX3_personsWithTwoOfAGroup_4 rfl (lv_at hl 2 rfl) ?_
      refine lv_sipush (v := 150) hx hb dX3_personsWithTwoOfAGroup_5 (by decide) ?_
      refine lv_icmp_ge (tgt := 32) hx hb dX3_personsWithTwoOfAGroup_8 (by decide) (fun c_1 => ?_) (fun c_1 => ?_)
      · have c_1 : 150 ≤ i := (nI_leI (a := 150) (b := i) (by omega) (by omega)).mp c_1
        have hq := hq.trans (if_pos c_1)
        refine lv_iload_n hx hb dX3_personsWithTwoOfAGroup_32 rfl (lv_at hl 1 rfl) ?_
        exact zret_i hx hb hr hlocks dX3_personsWithTwoOfAGroup_33 (congrArg nI hq)
      · have c_1 : ¬ (150 ≤ i) := fun h9 => c_1 ((nI_leI (a := 150) (b := i) (by omega) (by omega)).mpr h9)
        have hq := hq.trans (if_neg c_1)
        refine lv_aload_n hx hb dX3_personsWithTwoOfAGroup_11 rfl (lv_at hl 0 rfl) ?_
        refine lv_aload_n hx hb dX3_personsWithTwoOfAGroup_12 rfl (lv_at hl 0 rfl) ?_
        refine lv_iload_n hx hb dX3_personsWithTwoOfAGroup_13 rfl (lv_at hl 2 rfl) ?_
        refine zcV (ci := 3) (n := 1) (c_X3_breadsEatenBy l D g h T i (by omega)) hx hb hml hown hts gX3_personsWithTwoOfAGroup_X3_breadsEatenBy rfl ⟨rfl, by decide, by decide, by decide⟩ ⟨Nat.le_of_ble_eq_true rfl, Nat.le_of_ble_eq_true rfl⟩ ⟨rfl, rfl⟩ hK hP rfl rfl rfl hl.1 rfl rfl (Nat.le_of_ble_eq_true rfl) ⟨Nat.zero_le _, Nat.zero_le _⟩ dX3_personsWithTwoOfAGroup_14 ?_
        refine zcV (ci := 3) (n := 1) (c_X3_hasTwoOfAGroup l D g h T (v_X3_breadsEatenBy T i)) hx hb hml hown hts gX3_personsWithTwoOfAGroup_X3_hasTwoOfAGroup rfl ⟨rfl, by decide, by decide, by decide⟩ ⟨Nat.le_of_ble_eq_true rfl, Nat.le_of_ble_eq_true rfl⟩ ⟨rfl, rfl⟩ hK hP rfl rfl rfl hl.1 rfl rfl (Nat.le_of_ble_eq_true rfl) ⟨Nat.zero_le _, Nat.zero_le _⟩ dX3_personsWithTwoOfAGroup_17 ?_
        refine zif_eq (tgt := 26) hx hb dX3_personsWithTwoOfAGroup_20 (by decide) (fun c_4 => ?_) (fun c_4 => ?_)
        · have hq := hq.trans (zif_f c_4)
          refine lv_iinc (v := (nI (i + 1))) (lv' := [(2, .int (nI (i + 1))), (0, .ref (h 0)), (1, .int (nI many))]) hx hb dX3_personsWithTwoOfAGroup_26 hl (k := 2) rfl (nI_add _ 1) (by decide) rfl (fun ls hl => ?_)
          refine lv_goto (tgt := 4) hx hb dX3_personsWithTwoOfAGroup_29 (by decide) ?_
          exact ih4 many (i + 1) (by omega) (by omega) ls (lv_sub hl [1, 2, 0] rfl) hq
        · have hq := hq.trans (zif_t c_4)
          refine lv_iinc (v := (nI (many + 1))) (lv' := [(1, .int (nI (many + 1))), (0, .ref (h 0)), (2, .int (nI i))]) hx hb dX3_personsWithTwoOfAGroup_23 hl (k := 1) rfl (nI_add _ 1) (by decide) rfl (fun ls hl => ?_)
          refine lv_iinc (v := (nI (i + 1))) (lv' := [(2, .int (nI (i + 1))), (1, .int (nI (many + 1))), (0, .ref (h 0))]) hx hb dX3_personsWithTwoOfAGroup_26 hl (k := 2) rfl (nI_add _ 1) (by decide) rfl (fun ls hl => ?_)
          refine lv_goto (tgt := 4) hx hb dX3_personsWithTwoOfAGroup_29 (by decide) ?_
          exact ih4 (many + 1) (i + 1) (by omega) (by omega) ls (lv_sub hl [2, 1, 0] rfl) hq
  exact L4 151 0 0 (by omega) (by omega) ls (lv_sub hl [2, 1, 0] rfl) hq
def v_X3_holds_4 (T : Nat → Nat → Int32) : Nat → Int32 → Nat → Int32
  | 0, _, _ => (0)
  | n + 1, many, i => (if 150 ≤ i then many else v_X3_holds_4 T n (many + ((v_J6_bitCount_0f7a4 (T 11 i)) + (v_J6_bitCount_0f7a4 (T 12 i)))) (i + 1))
def v_X3_holds (T : Nat → Nat → Int32) : Int32 := v_X3_holds_4 T 151 0 0
set_option maxHeartbeats 400000 in
set_option maxRecDepth 100000 in
theorem c_X3_holds (l : Launch) (D : va_G) (g : Nat → ClassId) (h : Nat → Nat) (T : Nat → Nat → Int32) : Rd l D (zT g) yX3_holds wsX3_holds (rmOf 1 20) [.ref (h 0)] (zB_X3 (g 0) h T) (.int (v_X3_holds T)) := by
  refine Rd.of (cc := cX3_holds) (maxL := 3) (ret := (some .int)) (by decide) rfl (Nat.le_of_ble_eq_true rfl) ?_
  intro p e s m below meth c ls hx hb hr hml hown hts hlocks hP hK hl
  have hown : s.vm.findClass RX3 = some m.cls := hown
  have hinX3 : ∀ w ∈ u_ws RX3 TX3 15, w ∈ wsX3_holds := fun _ h9 => (List.mem_cons_of_mem _ (List.mem_append_right _ h9))
  obtain ⟨q, hq⟩ : ∃ q : Int32, q = v_X3_holds T := ⟨_, rfl⟩
  rw [← hq]
  unfold v_X3_holds at hq
  have hl : lv_has ls 3 [(0, .ref (h 0))] := hl
  refine lv_iconst (v := 0) hx hb dX3_holds_0 (by decide) ?_
  refine lv_istore_n (lv' := [(1, .int 0), (0, .ref (h 0))]) hx hb dX3_holds_1 rfl hl (by decide) rfl (fun ls hl => ?_)
  refine lv_iconst (v := 0) hx hb dX3_holds_2 (by decide) ?_
  refine lv_istore_n (lv' := [(2, .int 0), (1, .int 0), (0, .ref (h 0))]) hx hb dX3_holds_3 rfl hl (by decide) rfl (fun ls hl => ?_)
  have L4 : ∀ (n : Nat) (many : Int32) (i : Nat), (i ≤ 150) → 150 - i < n → ∀ (ls : Array Slot), lv_has ls 3 [(0, .ref (h 0)), (1, .int many), (2, .int (nI i))] → q = v_X3_holds_4 T n many i → W p l e (rmOf 1 20) s m [.ref (h 0)].toArray below meth c s.heap [] 0 0 (MQ below (zQ (.int q)) [.ref (h 0)].toArray s 0 0 (fun _ => False)) (F0 m 4 ls []) := by
    intro n
    induction n with
    | zero => intro many i v4_0 hn; exact absurd hn (Nat.not_lt_zero _)
    | succ n ih4 =>
      intro many i v4_0 hn4 ls hl hq
      rw [v_X3_holds_4] at hq
      refine lv_iload_n hx hb dX3_holds_4 rfl (lv_at hl 2 rfl) ?_
      refine lv_sipush (v := 150) hx hb dX3_holds_5 (by decide) ?_
      refine lv_icmp_ge (tgt := 39) hx hb dX3_holds_8 (by decide) (fun c_1 => ?_) (fun c_1 => ?_)
      · have c_1 : 150 ≤ i := (nI_leI (a := 150) (b := i) (by omega) (by omega)).mp c_1
        have hq := hq.trans (if_pos c_1)
        refine lv_iload_n hx hb dX3_holds_39 rfl (lv_at hl 1 rfl) ?_
        exact zret_i hx hb hr hlocks dX3_holds_40 hq
      · have c_1 : ¬ (150 ≤ i) := fun h9 => c_1 ((nI_leI (a := 150) (b := i) (by omega) (by omega)).mpr h9)
        have hq := hq.trans (if_neg c_1)
        refine lv_iload_n hx hb dX3_holds_11 rfl (lv_at hl 1 rfl) ?_
        refine lv_aload_n hx hb dX3_holds_12 rfl (lv_at hl 0 rfl) ?_
        refine va_get (D := D) (ci := 3) (v := .ref (h 12)) (C := RX3) (T := TX3) (N := 15) hx hb hts hinX3 hown hK.1 hP 0 rfl rfl 11 (by decide) (hts (.fieldLink RX3 30 "SaltShares$Town" "heldIn" "[I") (List.mem_of_getElem? (i := 1) rfl)) (fun _ h9 => h9) rfl dX3_holds_13 ?_
        refine lv_iload_n hx hb dX3_holds_16 rfl (lv_at hl 2 rfl) ?_
        refine z_iald (i := i) hx hb hK hP 7 0 rfl rfl (by omega) (by decide) dX3_holds_17 ?_
        refine zcSO (n := 1) (c_J6_bitCount_0f7a4 l D g (T 11 i)) hx hb hml hown hts gX3_holds_J6_bitCount_0f7a4 rfl ⟨by decide, by decide, by decide⟩ ⟨Nat.le_of_ble_eq_true rfl, Nat.le_of_ble_eq_true rfl⟩ ⟨rfl, rfl⟩ hK (hP.sub [] rfl) hl.1 rfl rfl (Nat.le_of_ble_eq_true rfl) ⟨Nat.zero_le _, Nat.zero_le _⟩ dX3_holds_18 ?_
        refine lv_aload_n hx hb dX3_holds_21 rfl (lv_at hl 0 rfl) ?_
        refine va_get (D := D) (ci := 3) (v := .ref (h 13)) (C := RX3) (T := TX3) (N := 15) hx hb hts hinX3 hown hK.1 hP 0 rfl rfl 12 (by decide) (hts (.fieldLink RX3 33 "SaltShares$Town" "heldOut" "[I") (List.mem_of_getElem? (i := 2) rfl)) (fun _ h9 => h9) rfl dX3_holds_22 ?_
        refine lv_iload_n hx hb dX3_holds_25 rfl (lv_at hl 2 rfl) ?_
        refine z_iald (i := i) hx hb hK hP 8 0 rfl rfl (by omega) (by decide) dX3_holds_26 ?_
        refine zcSO (n := 1) (c_J6_bitCount_0f7a4 l D g (T 12 i)) hx hb hml hown hts gX3_holds_J6_bitCount_0f7a4 rfl ⟨by decide, by decide, by decide⟩ ⟨Nat.le_of_ble_eq_true rfl, Nat.le_of_ble_eq_true rfl⟩ ⟨rfl, rfl⟩ hK (hP.sub [] rfl) hl.1 rfl rfl (Nat.le_of_ble_eq_true rfl) ⟨Nat.zero_le _, Nat.zero_le _⟩ dX3_holds_27 ?_
        refine lv_iadd hx hb dX3_holds_30 ?_
        refine lv_iadd hx hb dX3_holds_31 ?_
        refine lv_istore_n (lv' := [(1, .int (many + ((v_J6_bitCount_0f7a4 (T 11 i)) + (v_J6_bitCount_0f7a4 (T 12 i))))), (0, .ref (h 0)), (2, .int (nI i))]) hx hb dX3_holds_32 rfl hl (by decide) rfl (fun ls hl => ?_)
        refine lv_iinc (v := (nI (i + 1))) (lv' := [(2, .int (nI (i + 1))), (1, .int (many + ((v_J6_bitCount_0f7a4 (T 11 i)) + (v_J6_bitCount_0f7a4 (T 12 i))))), (0, .ref (h 0))]) hx hb dX3_holds_33 hl (k := 2) rfl (nI_add _ 1) (by decide) rfl (fun ls hl => ?_)
        refine lv_goto (tgt := 4) hx hb dX3_holds_36 (by decide) ?_
        exact ih4 (many + ((v_J6_bitCount_0f7a4 (T 11 i)) + (v_J6_bitCount_0f7a4 (T 12 i)))) (i + 1) (by omega) (by omega) ls (lv_sub hl [2, 1, 0] rfl) hq
  exact L4 151 0 0 (by omega) (by omega) ls (lv_sub hl [2, 1, 0] rfl) hq
def v_X3_personProperty (T : Nat → Nat → Int32) (pe : Nat) (w : Int32) : Int32 := (if w = 0 then (v_X3_breadsEatenBy T pe) else (if w = 1 then (T 13 pe) else (if w = 2 then (T 11 pe) else (if w = 3 then (T 12 pe) else (T 14 pe)))))
def v_X3_number (T : Nat → Nat → Int32) (w : Int32) : Int32 := (if w = 0 then (T 0 0) else (if w = 1 then (v_J6_bitCount_0f7a4 (T 3 0)) else (if w = 2 then (T 1 0) else (if w = 3 then (T 2 0) else (if w = 4 then (nI (v_X3_personsWhoEat T)) else (if w = 5 then (nI (v_X3_personsWhoAte T)) else (if w = 6 then (nI (v_X3_personsWithTwoOfAGroup T)) else (v_X3_holds T))))))))
set_option maxHeartbeats 400000 in
set_option maxRecDepth 100000 in
theorem c_X3_number (l : Launch) (D : va_G) (g : Nat → ClassId) (h : Nat → Nat) (T : Nat → Nat → Int32) (w : Int32) : Rd l D (zT g) yX3_number wsX3_number (rmOf 4 92) [.ref (h 0), .int w] (zB_X3 (g 0) h T) (.int (v_X3_number T w)) := by
  refine Rd.of (cc := cX3_number) (maxL := 2) (ret := (some .int)) (by decide) rfl (Nat.le_of_ble_eq_true rfl) ?_
  intro p e s m below meth c ls hx hb hr hml hown hts hlocks hP hK hl
  have hown : s.vm.findClass RX3 = some m.cls := hown
  have hinX3 : ∀ w ∈ u_ws RX3 TX3 15, w ∈ wsX3_number := fun _ h9 => (List.mem_cons_of_mem _ (List.mem_append_right _ h9))
  obtain ⟨q, hq⟩ : ∃ q : Int32, q = v_X3_number T w := ⟨_, rfl⟩
  rw [← hq]
  unfold v_X3_number at hq
  have hl : lv_has ls 2 [(0, .ref (h 0)), (1, .int w)] := hl
  refine lv_iload_n hx hb dX3_number_0 rfl (lv_at hl 1 rfl) ?_
  by_cases c_1 : w = 0
  · have hq := hq.trans (if_pos c_1)
    have c_1I : Int32.toInt w = 0 := (congrArg Int32.toInt c_1).trans (by decide)
    refine lv_tableIn (off := 43) (tgt := 44) hx hb dX3_number_1 (by rw [c_1I]; decide) (by rw [c_1I]; decide) (by rw [c_1I]; rfl) (by decide) ?_
    refine lv_aload_n hx hb dX3_number_44 rfl (lv_at hl 0 rfl) ?_
    refine va_get (D := D) (ci := 3) (v := .int (T 0 0)) (C := RX3) (T := TX3) (N := 15) hx hb hts hinX3 hown hK.1 hP 0 rfl rfl 0 (by decide) (hts (.fieldLink RX3 42 "SaltShares$Town" "breads" "I") (List.mem_of_getElem? (i := 1) rfl)) (fun _ h9 => h9) rfl dX3_number_45 ?_
    exact zret_i hx hb hr hlocks dX3_number_48 hq
  · have hq := hq.trans (if_neg c_1)
    by_cases c_2 : w = 1
    · have hq := hq.trans (if_pos c_2)
      have c_2I : Int32.toInt w = 1 := (congrArg Int32.toInt c_2).trans (by decide)
      refine lv_tableIn (off := 48) (tgt := 49) hx hb dX3_number_1 (by rw [c_2I]; decide) (by rw [c_2I]; decide) (by rw [c_2I]; rfl) (by decide) ?_
      refine lv_aload_n hx hb dX3_number_49 rfl (lv_at hl 0 rfl) ?_
      refine va_get (D := D) (ci := 3) (v := .int (T 3 0)) (C := RX3) (T := TX3) (N := 15) hx hb hts hinX3 hown hK.1 hP 0 rfl rfl 3 (by decide) (hts (.fieldLink RX3 52 "SaltShares$Town" "openOnes" "I") (List.mem_of_getElem? (i := 2) rfl)) (fun _ h9 => h9) rfl dX3_number_50 ?_
      refine zcSO (n := 1) (c_J6_bitCount_0f7a4 l D g (T 3 0)) hx hb hml hown hts gX3_number_J6_bitCount_0f7a4 rfl ⟨by decide, by decide, by decide⟩ ⟨Nat.le_of_ble_eq_true rfl, Nat.le_of_ble_eq_true rfl⟩ ⟨rfl, rfl⟩ hK (hP.sub [] rfl) hl.1 rfl rfl (Nat.le_of_ble_eq_true rfl) ⟨Nat.zero_le _, Nat.zero_le _⟩ dX3_number_53 ?_
      exact zret_i hx hb hr hlocks dX3_number_56 hq
    · have hq := hq.trans (if_neg c_2)
      by_cases c_4 : w = 2
      · have hq := hq.trans (if_pos c_4)
        have c_4I : Int32.toInt w = 2 := (congrArg Int32.toInt c_4).trans (by decide)
        refine lv_tableIn (off := 56) (tgt := 57) hx hb dX3_number_1 (by rw [c_4I]; decide) (by rw [c_4I]; decide) (by rw [c_4I]; rfl) (by decide) ?_
        refine lv_aload_n hx hb dX3_number_57 rfl (lv_at hl 0 rfl) ?_
        refine va_get (D := D) (ci := 3) (v := .int (T 1 0)) (C := RX3) (T := TX3) (N := 15) hx hb hts hinX3 hown hK.1 hP 0 rfl rfl 1 (by decide) (hts (.fieldLink RX3 46 "SaltShares$Town" "day" "I") (List.mem_of_getElem? (i := 3) rfl)) (fun _ h9 => h9) rfl dX3_number_58 ?_
        exact zret_i hx hb hr hlocks dX3_number_61 hq
      · have hq := hq.trans (if_neg c_4)
        by_cases c_5 : w = 3
        · have hq := hq.trans (if_pos c_5)
          have c_5I : Int32.toInt w = 3 := (congrArg Int32.toInt c_5).trans (by decide)
          refine lv_tableIn (off := 61) (tgt := 62) hx hb dX3_number_1 (by rw [c_5I]; decide) (by rw [c_5I]; decide) (by rw [c_5I]; rfl) (by decide) ?_
          refine lv_aload_n hx hb dX3_number_62 rfl (lv_at hl 0 rfl) ?_
          refine va_get (D := D) (ci := 3) (v := .int (T 2 0)) (C := RX3) (T := TX3) (N := 15) hx hb hts hinX3 hown hK.1 hP 0 rfl rfl 2 (by decide) (hts (.fieldLink RX3 49 "SaltShares$Town" "servings" "I") (List.mem_of_getElem? (i := 4) rfl)) (fun _ h9 => h9) rfl dX3_number_63 ?_
          exact zret_i hx hb hr hlocks dX3_number_66 hq
        · have hq := hq.trans (if_neg c_5)
          by_cases c_6 : w = 4
          · have hq := hq.trans (if_pos c_6)
            have c_6I : Int32.toInt w = 4 := (congrArg Int32.toInt c_6).trans (by decide)
            refine lv_tableIn (off := 66) (tgt := 67) hx hb dX3_number_1 (by rw [c_6I]; decide) (by rw [c_6I]; decide) (by rw [c_6I]; rfl) (by decide) ?_
            refine lv_aload_n hx hb dX3_number_67 rfl (lv_at hl 0 rfl) ?_
            refine zcV (ci := 3) (n := 0) (c_X3_personsWhoEat l D g h T) hx hb hml hown hts gX3_number_X3_personsWhoEat rfl ⟨rfl, by decide, by decide, by decide⟩ ⟨Nat.le_of_ble_eq_true rfl, Nat.le_of_ble_eq_true rfl⟩ ⟨rfl, rfl⟩ hK hP rfl rfl rfl hl.1 rfl rfl (Nat.le_of_ble_eq_true rfl) ⟨Nat.zero_le _, Nat.zero_le _⟩ dX3_number_68 ?_
            exact zret_i hx hb hr hlocks dX3_number_71 hq
          · have hq := hq.trans (if_neg c_6)
            by_cases c_8 : w = 5
            · have hq := hq.trans (if_pos c_8)
              have c_8I : Int32.toInt w = 5 := (congrArg Int32.toInt c_8).trans (by decide)
              refine lv_tableIn (off := 71) (tgt := 72) hx hb dX3_number_1 (by rw [c_8I]; decide) (by rw [c_8I]; decide) (by rw [c_8I]; rfl) (by decide) ?_
              refine lv_aload_n hx hb dX3_number_72 rfl (lv_at hl 0 rfl) ?_
              refine zcV (ci := 3) (n := 0) (c_X3_personsWhoAte l D g h T) hx hb hml hown hts gX3_number_X3_personsWhoAte rfl ⟨rfl, by decide, by decide, by decide⟩ ⟨Nat.le_of_ble_eq_true rfl, Nat.le_of_ble_eq_true rfl⟩ ⟨rfl, rfl⟩ hK hP rfl rfl rfl hl.1 rfl rfl (Nat.le_of_ble_eq_true rfl) ⟨Nat.zero_le _, Nat.zero_le _⟩ dX3_number_73 ?_
              exact zret_i hx hb hr hlocks dX3_number_76 hq
            · have hq := hq.trans (if_neg c_8)
              by_cases c_10 : w = 6
              · have hq := hq.trans (if_pos c_10)
                have c_10I : Int32.toInt w = 6 := (congrArg Int32.toInt c_10).trans (by decide)
                refine lv_tableIn (off := 76) (tgt := 77) hx hb dX3_number_1 (by rw [c_10I]; decide) (by rw [c_10I]; decide) (by rw [c_10I]; rfl) (by decide) ?_
                refine lv_aload_n hx hb dX3_number_77 rfl (lv_at hl 0 rfl) ?_
                refine zcV (ci := 3) (n := 0) (c_X3_personsWithTwoOfAGroup l D g h T) hx hb hml hown hts gX3_number_X3_personsWithTwoOfAGroup rfl ⟨rfl, by decide, by decide, by decide⟩ ⟨Nat.le_of_ble_eq_true rfl, Nat.le_of_ble_eq_true rfl⟩ ⟨rfl, rfl⟩ hK hP rfl rfl rfl hl.1 rfl rfl (Nat.le_of_ble_eq_true rfl) ⟨Nat.zero_le _, Nat.zero_le _⟩ dX3_number_78 ?_
                exact zret_i hx hb hr hlocks dX3_number_81 hq
              · have hq := hq.trans (if_neg c_10)
                have c_1N : ¬ Int32.toInt w = 0 := lv_neT c_1 (by decide)
                have c_2N : ¬ Int32.toInt w = 1 := lv_neT c_2 (by decide)
                have c_4N : ¬ Int32.toInt w = 2 := lv_neT c_4 (by decide)
                have c_5N : ¬ Int32.toInt w = 3 := lv_neT c_5 (by decide)
                have c_6N : ¬ Int32.toInt w = 4 := lv_neT c_6 (by decide)
                have c_8N : ¬ Int32.toInt w = 5 := lv_neT c_8 (by decide)
                have c_10N : ¬ Int32.toInt w = 6 := lv_neT c_10 (by decide)
                refine lv_tableOut (tgt := 82) hx hb dX3_number_1 (by omega) (by decide) ?_
                refine lv_aload_n hx hb dX3_number_82 rfl (lv_at hl 0 rfl) ?_
                refine zcV (ci := 3) (n := 0) (c_X3_holds l D g h T) hx hb hml hown hts gX3_number_X3_holds rfl ⟨rfl, by decide, by decide, by decide⟩ ⟨Nat.le_of_ble_eq_true rfl, Nat.le_of_ble_eq_true rfl⟩ ⟨rfl, rfl⟩ hK hP rfl rfl rfl hl.1 rfl rfl (Nat.le_of_ble_eq_true rfl) ⟨Nat.zero_le _, Nat.zero_le _⟩ dX3_number_83 ?_
                exact zret_i hx hb hr hlocks dX3_number_86 hq
