theorem zinN {x : Int32} {n : Nat} (hn : n < 2 ^ 31) (c1 : ¬ x < 0) (c2 : ¬ nI n ≤ x) : vp_in x n := by
  obtain ⟨j, hj, rfl⟩ := nI_of c1
  have h : j < n := by
    rcases Nat.lt_or_ge j n with q | q
    · exact q
    · exact absurd (nI_le q hj) c2
  exact vp_in_nI h hn
theorem zin60 {x : Int32} (c1 : ¬ x < 0) (c2 : ¬ 60 ≤ x) : vp_in x 60 := zinN (by decide) c1 c2
/-- one below the end -/
theorem zstep {x : Int32} {n : Nat} (hn : n + 1 < 2 ^ 31) (h : vp_in x (n + 1)) (c : ¬ nI n ≤ x) : vp_in x n ∧ vp_in (x + 1) (n + 1) ∧ (x + 1).toNatClampNeg = x.toNatClampNeg + 1 ∧ x.toNatClampNeg < n := by
  obtain ⟨j, hj, rfl⟩ := vp_in_of h hn
  have h2 : j < n := by
    rcases Nat.lt_or_ge j n with q | q
    · exact q
    · exact absurd (nI_le q (by omega)) c
  refine ⟨vp_in_nI h2 (by omega), ?_, ?_, ?_⟩
  · rw [nI_1]; exact vp_in_nI (by omega) hn
  · rw [nI_1, nI_clamp (by omega), nI_clamp (by omega)]
  · rw [nI_clamp (by omega)]; exact h2
theorem ztk60 {x : Int32} (h : vp_in x 61) (c : ¬ 60 ≤ x) : vp_in x 60 := (zstep (n := 60) (by decide) h c).1
theorem zrow1 {x : Int32} (h : vp_in x 101) (c : ¬ 100 ≤ x) : vp_in x 100 := (zstep (n := 100) (by decide) h c).1
def v_X0_isFull (X : Nat → Nat → Int32) : Bool := (if (X 1 0) < 60 then false else true)
set_option maxHeartbeats 400000 in
set_option maxRecDepth 100000 in
theorem c_X0_isFull (l : Launch) (D : va_G) (g : Nat → ClassId) (x : Nat → Nat) (X : Nat → Nat → Int32) : Rd l D (zT g) yX0_isFull wsX0_isFull (rmOf 0 0) [.ref (x 0)] (zB_X0 (g 0) x X) (.int (bI (v_X0_isFull X))) := by
  refine Rd.of (cc := cX0_isFull) (maxL := 1) (ret := (some .boolean)) (by decide) rfl (Nat.le_of_ble_eq_true rfl) ?_
  intro p e s m below meth c ls hx hb hr hml hown hts hlocks hP hK hl
  have hown : s.vm.findClass RX0 = some m.cls := hown
  have hinX0 : ∀ w ∈ u_ws RX0 TX0 7, w ∈ wsX0_isFull := fun _ h9 => (List.mem_cons_of_mem _ (List.mem_append_right _ h9))
  obtain ⟨q, hq⟩ : ∃ q : Bool, q = v_X0_isFull X := ⟨_, rfl⟩
  rw [← hq]
  unfold v_X0_isFull at hq
  have hl : lv_has ls 1 [(0, .ref (x 0))] := hl
  refine lv_aload_n hx hb dX0_isFull_0 rfl (lv_at hl 0 rfl) ?_
  refine va_get (D := D) (ci := 0) (v := .int (X 1 0)) (C := RX0) (T := TX0) (N := 7) hx hb hts hinX0 hown hK.1 hP 0 rfl rfl 1 (by decide) (hts (.fieldLink RX0 15 "SaltShares$CommandText" "length" "I") (List.mem_of_getElem? (i := 1) rfl)) (fun _ h9 => h9) rfl dX0_isFull_1 ?_
  refine lv_bipush (v := 60) hx hb dX0_isFull_4 (by decide) ?_
  refine lv_icmp_lt (tgt := 13) hx hb dX0_isFull_6 (by decide) (fun c_1 => ?_) (fun c_1 => ?_)
  · have c_1 : (X 1 0) < 60 := c_1
    have hq := hq.trans (if_pos c_1)
    refine lv_iconst (v := 0) hx hb dX0_isFull_13 (by decide) ?_
    exact zret_z (q' := false) hx hb hr hlocks dX0_isFull_14 hq
  · have c_1 : ¬ ((X 1 0) < 60) := c_1
    have hq := hq.trans (if_neg c_1)
    refine lv_iconst (v := 1) hx hb dX0_isFull_9 (by decide) ?_
    refine lv_goto (tgt := 14) hx hb dX0_isFull_10 (by decide) ?_
    exact zret_z (q' := true) hx hb hr hlocks dX0_isFull_14 hq
def v_X0_isDigit (code : Int32) : Bool := (if code < 48 then false else (if 57 < code then false else true))
set_option maxHeartbeats 400000 in
set_option maxRecDepth 100000 in
theorem c_X0_isDigit (l : Launch) (D : va_G) (g : Nat → ClassId) (code : Int32) : Rd l D (zT g) yX0_isDigit wsX0_isDigit (rmOf 0 0) [.int code] ([]) (.int (bI (v_X0_isDigit code))) := by
  refine Rd.of (cc := cX0_isDigit) (maxL := 1) (ret := (some .boolean)) (by decide) rfl (Nat.le_of_ble_eq_true rfl) ?_
  intro p e s m below meth c ls hx hb hr hml hown hts hlocks hP hK hl
  have hown : s.vm.findClass RX0 = some m.cls := hown
  obtain ⟨q, hq⟩ : ∃ q : Bool, q = v_X0_isDigit code := ⟨_, rfl⟩
  rw [← hq]
  unfold v_X0_isDigit at hq
  have hl : lv_has ls 1 [(0, .int code)] := hl
  refine lv_iload_n hx hb dX0_isDigit_0 rfl (lv_at hl 0 rfl) ?_
  refine lv_bipush (v := 48) hx hb dX0_isDigit_1 (by decide) ?_
  refine lv_icmp_lt (tgt := 16) hx hb dX0_isDigit_3 (by decide) (fun c_1 => ?_) (fun c_1 => ?_)
  · have c_1 : code < 48 := c_1
    have hq := hq.trans (if_pos c_1)
    refine lv_iconst (v := 0) hx hb dX0_isDigit_16 (by decide) ?_
    exact zret_z (q' := false) hx hb hr hlocks dX0_isDigit_17 hq
  · have c_1 : ¬ (code < 48) := c_1
    have hq := hq.trans (if_neg c_1)
    refine lv_iload_n hx hb dX0_isDigit_6 rfl (lv_at hl 0 rfl) ?_
    refine lv_bipush (v := 57) hx hb dX0_isDigit_7 (by decide) ?_
    refine lv_icmp_gt (tgt := 16) hx hb dX0_isDigit_9 (by decide) (fun c_2 => ?_) (fun c_2 => ?_)
    · have c_2 : 57 < code := c_2
      have hq := hq.trans (if_pos c_2)
      refine lv_iconst (v := 0) hx hb dX0_isDigit_16 (by decide) ?_
      exact zret_z (q' := false) hx hb hr hlocks dX0_isDigit_17 hq
    · have c_2 : ¬ (57 < code) := c_2
      have hq := hq.trans (if_neg c_2)
      refine lv_iconst (v := 1) hx hb dX0_isDigit_12 (by decide) ?_
      refine lv_goto (tgt := 17) hx hb dX0_isDigit_13 (by decide) ?_
      exact zret_z (q' := true) hx hb hr hlocks dX0_isDigit_17 hq
def v_X0_isHoldKind (X : Nat → Nat → Int32) : Bool := (if (X 4 0) = 105 then true else (if (X 4 0) = 111 then true else false))
set_option maxHeartbeats 400000 in
set_option maxRecDepth 100000 in
theorem c_X0_isHoldKind (l : Launch) (D : va_G) (g : Nat → ClassId) (x : Nat → Nat) (X : Nat → Nat → Int32) : Rd l D (zT g) yX0_isHoldKind wsX0_isHoldKind (rmOf 0 0) [.ref (x 0)] (zB_X0 (g 0) x X) (.int (bI (v_X0_isHoldKind X))) := by
  refine Rd.of (cc := cX0_isHoldKind) (maxL := 1) (ret := (some .boolean)) (by decide) rfl (Nat.le_of_ble_eq_true rfl) ?_
  intro p e s m below meth c ls hx hb hr hml hown hts hlocks hP hK hl
  have hown : s.vm.findClass RX0 = some m.cls := hown
  have hinX0 : ∀ w ∈ u_ws RX0 TX0 7, w ∈ wsX0_isHoldKind := fun _ h9 => (List.mem_cons_of_mem _ (List.mem_append_right _ h9))
  obtain ⟨q, hq⟩ : ∃ q : Bool, q = v_X0_isHoldKind X := ⟨_, rfl⟩
  rw [← hq]
  unfold v_X0_isHoldKind at hq
  have hl : lv_has ls 1 [(0, .ref (x 0))] := hl
  refine lv_aload_n hx hb dX0_isHoldKind_0 rfl (lv_at hl 0 rfl) ?_
  refine va_get (D := D) (ci := 0) (v := .int (X 4 0)) (C := RX0) (T := TX0) (N := 7) hx hb hts hinX0 hown hK.1 hP 0 rfl rfl 4 (by decide) (hts (.fieldLink RX0 62 "SaltShares$CommandText" "kind" "I") (List.mem_of_getElem? (i := 1) rfl)) (fun _ h9 => h9) rfl dX0_isHoldKind_1 ?_
  refine lv_bipush (v := 105) hx hb dX0_isHoldKind_4 (by decide) ?_
  refine lv_icmp_eq (tgt := 18) hx hb dX0_isHoldKind_6 (by decide) (fun c_1 => ?_) (fun c_1 => ?_)
  · have c_1 : (X 4 0) = 105 := c_1
    have hq := hq.trans (if_pos c_1)
    refine lv_iconst (v := 1) hx hb dX0_isHoldKind_18 (by decide) ?_
    refine lv_goto (tgt := 23) hx hb dX0_isHoldKind_19 (by decide) ?_
    exact zret_z (q' := true) hx hb hr hlocks dX0_isHoldKind_23 hq
  · have c_1 : ¬ ((X 4 0) = 105) := c_1
    have hq := hq.trans (if_neg c_1)
    refine lv_aload_n hx hb dX0_isHoldKind_9 rfl (lv_at hl 0 rfl) ?_
    refine va_get (D := D) (ci := 0) (v := .int (X 4 0)) (C := RX0) (T := TX0) (N := 7) hx hb hts hinX0 hown hK.1 hP 0 rfl rfl 4 (by decide) (hts (.fieldLink RX0 62 "SaltShares$CommandText" "kind" "I") (List.mem_of_getElem? (i := 1) rfl)) (fun _ h9 => h9) rfl dX0_isHoldKind_10 ?_
    refine lv_bipush (v := 111) hx hb dX0_isHoldKind_13 (by decide) ?_
    refine lv_icmp_ne (tgt := 22) hx hb dX0_isHoldKind_15 (by decide) (fun c_2 => ?_) (fun c_2 => ?_)
    · have c_2 : ¬ ((X 4 0) = 111) := c_2
      have hq := hq.trans (if_neg c_2)
      refine lv_iconst (v := 0) hx hb dX0_isHoldKind_22 (by decide) ?_
      exact zret_z (q' := false) hx hb hr hlocks dX0_isHoldKind_23 hq
    · have c_2 : (X 4 0) = 111 := c_2
      have hq := hq.trans (if_pos c_2)
      refine lv_iconst (v := 1) hx hb dX0_isHoldKind_18 (by decide) ?_
      refine lv_goto (tgt := 23) hx hb dX0_isHoldKind_19 (by decide) ?_
      exact zret_z (q' := true) hx hb hr hlocks dX0_isHoldKind_23 hq
def v_X0_greatestNumber (X : Nat → Nat → Int32) : Int32 := (if (v_X0_isHoldKind X) = true then 149 else (if (X 4 0) = 100 then 50 else 100))
set_option maxHeartbeats 400000 in
set_option maxRecDepth 100000 in
theorem c_X0_greatestNumber (l : Launch) (D : va_G) (g : Nat → ClassId) (x : Nat → Nat) (X : Nat → Nat → Int32) : Rd l D (zT g) yX0_greatestNumber wsX0_greatestNumber (rmOf 1 20) [.ref (x 0)] (zB_X0 (g 0) x X) (.int (v_X0_greatestNumber X)) := by
  refine Rd.of (cc := cX0_greatestNumber) (maxL := 1) (ret := (some .int)) (by decide) rfl (Nat.le_of_ble_eq_true rfl) ?_
  intro p e s m below meth c ls hx hb hr hml hown hts hlocks hP hK hl
  have hown : s.vm.findClass RX0 = some m.cls := hown
  have hinX0 : ∀ w ∈ u_ws RX0 TX0 7, w ∈ wsX0_greatestNumber := fun _ h9 => (List.mem_cons_of_mem _ (List.mem_append_right _ h9))
  obtain ⟨q, hq⟩ : ∃ q : Int32, q = v_X0_greatestNumber X := ⟨_, rfl⟩
  rw [← hq]
  unfold v_X0_greatestNumber at hq
  have hl : lv_has ls 1 [(0, .ref (x 0))] := hl
  refine lv_aload_n hx hb dX0_greatestNumber_0 rfl (lv_at hl 0 rfl) ?_
  refine zcV (ci := 0) (n := 0) (c_X0_isHoldKind l D g x X) hx hb hml hown hts gX0_greatestNumber_X0_isHoldKind rfl ⟨rfl, by decide, by decide, by decide⟩ ⟨Nat.le_of_ble_eq_true rfl, Nat.le_of_ble_eq_true rfl⟩ ⟨rfl, rfl⟩ hK hP rfl rfl rfl hl.1 rfl rfl (Nat.le_of_ble_eq_true rfl) ⟨Nat.zero_le _, Nat.zero_le _⟩ dX0_greatestNumber_1 ?_
  refine zif_eq (tgt := 11) hx hb dX0_greatestNumber_4 (by decide) (fun c_2 => ?_) (fun c_2 => ?_)
  · have hq := hq.trans (zif_f c_2)
    refine lv_aload_n hx hb dX0_greatestNumber_11 rfl (lv_at hl 0 rfl) ?_
    refine va_get (D := D) (ci := 0) (v := .int (X 4 0)) (C := RX0) (T := TX0) (N := 7) hx hb hts hinX0 hown hK.1 hP 0 rfl rfl 4 (by decide) (hts (.fieldLink RX0 62 "SaltShares$CommandText" "kind" "I") (List.mem_of_getElem? (i := 1) rfl)) (fun _ h9 => h9) rfl dX0_greatestNumber_12 ?_
    refine lv_bipush (v := 100) hx hb dX0_greatestNumber_15 (by decide) ?_
    refine lv_icmp_ne (tgt := 25) hx hb dX0_greatestNumber_17 (by decide) (fun c_3 => ?_) (fun c_3 => ?_)
    · have c_3 : ¬ ((X 4 0) = 100) := c_3
      have hq := hq.trans (if_neg c_3)
      refine lv_bipush (v := 100) hx hb dX0_greatestNumber_25 (by decide) ?_
      exact zret_i hx hb hr hlocks dX0_greatestNumber_27 hq
    · have c_3 : (X 4 0) = 100 := c_3
      have hq := hq.trans (if_pos c_3)
      refine lv_bipush (v := 50) hx hb dX0_greatestNumber_20 (by decide) ?_
      refine lv_goto (tgt := 27) hx hb dX0_greatestNumber_22 (by decide) ?_
      exact zret_i hx hb hr hlocks dX0_greatestNumber_27 hq
  · have hq := hq.trans (zif_t c_2)
    refine lv_sipush (v := 149) hx hb dX0_greatestNumber_7 (by decide) ?_
    exact zret_i hx hb hr hlocks dX0_greatestNumber_10 hq
def v_X0_add (X : Nat → Nat → Int32) (code : Int32) : (Nat → Nat → Int32) := (if (X 1 0) < 0 then X else (if 60 ≤ (X 1 0) then X else zU (zU X 0 (upd (X 0) (Int32.toNatClampNeg (X 1 0)) code)) 1 (fun _ => ((X 1 0) + 1))))
set_option maxHeartbeats 400000 in
set_option maxRecDepth 100000 in
theorem c_X0_add (l : Launch) (D : va_G) (g : Nat → ClassId) (x : Nat → Nat) (X : Nat → Nat → Int32) (code : Int32) : Wr l D (zT g) yX0_add wsX0_add (rmOf 0 0) [.ref (x 0), .int code] (zB_X0 (g 0) x X) (none) (zB_X0 (g 0) x (v_X0_add X code)) := by
  refine Wr.of (cc := cX0_add) (maxL := 2) (ret := none) (by decide) rfl (Nat.le_of_ble_eq_true rfl) ?_
  intro p e s m below meth c ls hx hb hr hml hown hts hlocks hP hD hS hK hl
  have hown : s.vm.findClass RX0 = some m.cls := hown
  have hinX0 : ∀ w ∈ u_ws RX0 TX0 7, w ∈ wsX0_add := fun _ h9 => (List.mem_cons_of_mem _ (List.mem_append_right _ h9))
  obtain ⟨q, hq⟩ : ∃ q : (Nat → Nat → Int32), q = v_X0_add X code := ⟨_, rfl⟩
  rw [← hq]
  unfold v_X0_add at hq
  have hl : lv_has ls 2 [(0, .ref (x 0)), (1, .int code)] := hl
  refine lv_aload_n hx hb dX0_add_0 rfl (lv_at hl 0 rfl) ?_
  refine va_get (D := D) (ci := 0) (v := .int (X 1 0)) (C := RX0) (T := TX0) (N := 7) hx hb hts hinX0 hown hK.1 hP 0 rfl rfl 1 (by decide) (hts (.fieldLink RX0 15 "SaltShares$CommandText" "length" "I") (List.mem_of_getElem? (i := 1) rfl)) (fun _ h9 => h9) rfl dX0_add_1 ?_
  refine lv_if_lt (tgt := 36) hx hb dX0_add_4 (by decide) (fun c_1 => ?_) (fun c_1 => ?_)
  · have c_1 : (X 1 0) < 0 := c_1
    have hq := hq.trans (if_pos c_1)
    exact zretw_v hx hb hr hlocks dX0_add_36 hP hS (congrArg (fun z9 => zB_X0 (g 0) x z9) hq)
  · have c_1 : ¬ ((X 1 0) < 0) := c_1
    have hq := hq.trans (if_neg c_1)
    refine lv_aload_n hx hb dX0_add_7 rfl (lv_at hl 0 rfl) ?_
    refine va_get (D := D) (ci := 0) (v := .int (X 1 0)) (C := RX0) (T := TX0) (N := 7) hx hb hts hinX0 hown hK.1 hP 0 rfl rfl 1 (by decide) (hts (.fieldLink RX0 15 "SaltShares$CommandText" "length" "I") (List.mem_of_getElem? (i := 1) rfl)) (fun _ h9 => h9) rfl dX0_add_8 ?_
    refine lv_bipush (v := 60) hx hb dX0_add_11 (by decide) ?_
    refine lv_icmp_ge (tgt := 36) hx hb dX0_add_13 (by decide) (fun c_2 => ?_) (fun c_2 => ?_)
    · have c_2 : 60 ≤ (X 1 0) := c_2
      have hq := hq.trans (if_pos c_2)
      exact zretw_v hx hb hr hlocks dX0_add_36 hP hS (congrArg (fun z9 => zB_X0 (g 0) x z9) hq)
    · have c_2 : ¬ (60 ≤ (X 1 0)) := c_2
      have hq := hq.trans (if_neg c_2)
      refine lv_aload_n hx hb dX0_add_16 rfl (lv_at hl 0 rfl) ?_
      refine va_get (D := D) (ci := 0) (v := .ref (x 1)) (C := RX0) (T := TX0) (N := 7) hx hb hts hinX0 hown hK.1 hP 0 rfl rfl 0 (by decide) (hts (.fieldLink RX0 9 "SaltShares$CommandText" "codes" "[I") (List.mem_of_getElem? (i := 2) rfl)) (fun _ h9 => h9) rfl dX0_add_17 ?_
      refine lv_aload_n hx hb dX0_add_20 rfl (lv_at hl 0 rfl) ?_
      refine va_get (D := D) (ci := 0) (v := .int (X 1 0)) (C := RX0) (T := TX0) (N := 7) hx hb hts hinX0 hown hK.1 hP 0 rfl rfl 1 (by decide) (hts (.fieldLink RX0 15 "SaltShares$CommandText" "length" "I") (List.mem_of_getElem? (i := 1) rfl)) (fun _ h9 => h9) rfl dX0_add_21 ?_
      refine lv_iload_n hx hb dX0_add_24 rfl (lv_at hl 1 rfl) ?_
      refine va_iast (x := code) hx hb hK.1 hP hD hS 1 0 rfl rfl (zin60 (by with_reducible assumption) (by with_reducible assumption)) dX0_add_25 (fun H locs hP hD hS => ?_)
      have hP : va_P D vwCl (zB_X0 (g 0) x (zU X 0 (upd (X 0) (Int32.toNatClampNeg (X 1 0)) code))) H := hP
      have hD : va_D (zA (zB_X0 (g 0) x X)) (zB_X0 (g 0) x (zU X 0 (upd (X 0) (Int32.toNatClampNeg (X 1 0)) code))) := hD
      refine lv_aload_n hx hb dX0_add_26 rfl (lv_at hl 0 rfl) ?_
      refine lv_dup hx hb dX0_add_27 rfl ?_
      refine va_get (D := D) (ci := 0) (v := .int (X 1 0)) (C := RX0) (T := TX0) (N := 7) hx hb hts hinX0 hown hK.1 hP 0 rfl rfl 1 (by decide) (hts (.fieldLink RX0 15 "SaltShares$CommandText" "length" "I") (List.mem_of_getElem? (i := 1) rfl)) (fun _ h9 => h9) rfl dX0_add_28 ?_
      refine lv_iconst (v := 1) hx hb dX0_add_31 (by decide) ?_
      refine lv_iadd hx hb dX0_add_32 ?_
      refine va_put (D := D) (ci := 0) (v := .int ((X 1 0) + 1)) (ty := .int) (C := RX0) (T := TX0) (N := 7) hx hb hts hinX0 tyX0 tyX0_ok nmX0 hown hK.1 hP hD hS 0 rfl rfl 1 (by decide) (hts (.fieldLink RX0 15 "SaltShares$CommandText" "length" "I") (List.mem_of_getElem? (i := 1) rfl)) (fun _ h9 => h9) rfl (by decide +kernel) rfl rfl (Nat.le_of_ble_eq_true rfl) dX0_add_33 (fun H locs hP hD hS => ?_)
      have hP : va_P D vwCl (zB_X0 (g 0) x (zU (zU X 0 (upd (X 0) (Int32.toNatClampNeg (X 1 0)) code)) 1 (fun _ => ((X 1 0) + 1)))) H := hP
      have hD : va_D (zA (zB_X0 (g 0) x X)) (zB_X0 (g 0) x (zU (zU X 0 (upd (X 0) (Int32.toNatClampNeg (X 1 0)) code)) 1 (fun _ => ((X 1 0) + 1)))) := hD
      exact zretw_v hx hb hr hlocks dX0_add_36 hP hS (congrArg (fun z9 => zB_X0 (g 0) x z9) hq)
def v_X0_restart (X : Nat → Nat → Int32) : (Nat → Nat → Int32) := zU (zU X 2 (fun _ => 0)) 3 (fun _ => 0)
set_option maxHeartbeats 400000 in
set_option maxRecDepth 100000 in
theorem c_X0_restart (l : Launch) (D : va_G) (g : Nat → ClassId) (x : Nat → Nat) (X : Nat → Nat → Int32) : Wr l D (zT g) yX0_restart wsX0_restart (rmOf 0 0) [.ref (x 0)] (zB_X0 (g 0) x X) (none) (zB_X0 (g 0) x (v_X0_restart X)) := by
  refine Wr.of (cc := cX0_restart) (maxL := 1) (ret := none) (by decide) rfl (Nat.le_of_ble_eq_true rfl) ?_
  intro p e s m below meth c ls hx hb hr hml hown hts hlocks hP hD hS hK hl
  have hown : s.vm.findClass RX0 = some m.cls := hown
  have hinX0 : ∀ w ∈ u_ws RX0 TX0 7, w ∈ wsX0_restart := fun _ h9 => (List.mem_cons_of_mem _ (List.mem_append_right _ h9))
  obtain ⟨q, hq⟩ : ∃ q : (Nat → Nat → Int32), q = v_X0_restart X := ⟨_, rfl⟩
  rw [← hq]
  unfold v_X0_restart at hq
  have hl : lv_has ls 1 [(0, .ref (x 0))] := hl
  refine lv_aload_n hx hb dX0_restart_0 rfl (lv_at hl 0 rfl) ?_
  refine lv_iconst (v := 0) hx hb dX0_restart_1 (by decide) ?_
  refine va_put (D := D) (ci := 0) (v := .int 0) (ty := .int) (C := RX0) (T := TX0) (N := 7) hx hb hts hinX0 tyX0 tyX0_ok nmX0 hown hK.1 hP hD hS 0 rfl rfl 2 (by decide) (hts (.fieldLink RX0 37 "SaltShares$CommandText" "at" "I") (List.mem_of_getElem? (i := 1) rfl)) (fun _ h9 => h9) rfl (by decide +kernel) rfl rfl (Nat.le_of_ble_eq_true rfl) dX0_restart_2 (fun H locs hP hD hS => ?_)
  have hP : va_P D vwCl (zB_X0 (g 0) x (zU X 2 (fun _ => 0))) H := hP
  have hD : va_D (zA (zB_X0 (g 0) x X)) (zB_X0 (g 0) x (zU X 2 (fun _ => 0))) := hD
  refine lv_aload_n hx hb dX0_restart_5 rfl (lv_at hl 0 rfl) ?_
  refine lv_iconst (v := 0) hx hb dX0_restart_6 (by decide) ?_
  refine va_put (D := D) (ci := 0) (v := .int 0) (ty := .int) (C := RX0) (T := TX0) (N := 7) hx hb hts hinX0 tyX0 tyX0_ok nmX0 hown hK.1 hP hD hS 0 rfl rfl 3 (by decide) (hts (.fieldLink RX0 30 "SaltShares$CommandText" "place" "I") (List.mem_of_getElem? (i := 2) rfl)) (fun _ h9 => h9) rfl (by decide +kernel) rfl rfl (Nat.le_of_ble_eq_true rfl) dX0_restart_7 (fun H locs hP hD hS => ?_)
  have hP : va_P D vwCl (zB_X0 (g 0) x (zU (zU X 2 (fun _ => 0)) 3 (fun _ => 0))) H := hP
  have hD : va_D (zA (zB_X0 (g 0) x X)) (zB_X0 (g 0) x (zU (zU X 2 (fun _ => 0)) 3 (fun _ => 0))) := hD
  exact zretw_v hx hb hr hlocks dX0_restart_10 hP hS (congrArg (fun z9 => zB_X0 (g 0) x z9) hq)
def v_X0_takeSign (X : Nat → Nat → Int32) (code : Int32) (sign : Int32) (next1 : Int32) : Bool × (Nat → Nat → Int32) := (if code = sign then (true, zU X 3 (fun _ => next1)) else (false, X))
set_option maxHeartbeats 400000 in
set_option maxRecDepth 100000 in
theorem c_X0_takeSign (l : Launch) (D : va_G) (g : Nat → ClassId) (x : Nat → Nat) (X : Nat → Nat → Int32) (code : Int32) (sign : Int32) (next1 : Int32) : Wr l D (zT g) yX0_takeSign wsX0_takeSign (rmOf 0 0) [.ref (x 0), .int code, .int sign, .int next1] (zB_X0 (g 0) x X) (some (.int (bI ((v_X0_takeSign X code sign next1).1)))) (zB_X0 (g 0) x ((v_X0_takeSign X code sign next1).2)) := by
  refine Wr.of (cc := cX0_takeSign) (maxL := 4) (ret := (some .boolean)) (by decide) rfl (Nat.le_of_ble_eq_true rfl) ?_
  intro p e s m below meth c ls hx hb hr hml hown hts hlocks hP hD hS hK hl
  have hown : s.vm.findClass RX0 = some m.cls := hown
  have hinX0 : ∀ w ∈ u_ws RX0 TX0 7, w ∈ wsX0_takeSign := fun _ h9 => (List.mem_cons_of_mem _ (List.mem_append_right _ h9))
  obtain ⟨q, hq⟩ : ∃ q : Bool × (Nat → Nat → Int32), q = v_X0_takeSign X code sign next1 := ⟨_, rfl⟩
  rw [← hq]
  unfold v_X0_takeSign at hq
  have hl : lv_has ls 4 [(0, .ref (x 0)), (1, .int code), (2, .int sign), (3, .int next1)] := hl
  refine lv_iload_n hx hb dX0_takeSign_0 rfl (lv_at hl 1 rfl) ?_
  refine lv_iload_n hx hb dX0_takeSign_1 rfl (lv_at hl 2 rfl) ?_
  refine lv_icmp_eq (tgt := 7) hx hb dX0_takeSign_2 (by decide) (fun c_1 => ?_) (fun c_1 => ?_)
  · have c_1 : code = sign := c_1
    have hq := hq.trans (if_pos c_1)
    refine lv_aload_n hx hb dX0_takeSign_7 rfl (lv_at hl 0 rfl) ?_
    refine lv_iload_n hx hb dX0_takeSign_8 rfl (lv_at hl 3 rfl) ?_
    refine va_put (D := D) (ci := 0) (v := .int next1) (ty := .int) (C := RX0) (T := TX0) (N := 7) hx hb hts hinX0 tyX0 tyX0_ok nmX0 hown hK.1 hP hD hS 0 rfl rfl 3 (by decide) (hts (.fieldLink RX0 30 "SaltShares$CommandText" "place" "I") (List.mem_of_getElem? (i := 1) rfl)) (fun _ h9 => h9) rfl (by decide +kernel) rfl rfl (Nat.le_of_ble_eq_true rfl) dX0_takeSign_9 (fun H locs hP hD hS => ?_)
    have hP : va_P D vwCl (zB_X0 (g 0) x (zU X 3 (fun _ => next1))) H := hP
    have hD : va_D (zA (zB_X0 (g 0) x X)) (zB_X0 (g 0) x (zU X 3 (fun _ => next1))) := hD
    refine lv_iconst (v := 1) hx hb dX0_takeSign_12 (by decide) ?_
    exact zretw_z (q' := true) hx hb hr hlocks dX0_takeSign_13 hP hS (congrArg (fun z9 => z9.1) hq) (congrArg (fun z9 => zB_X0 (g 0) x z9.2) hq)
  · have c_1 : ¬ (code = sign) := c_1
    have hq := hq.trans (if_neg c_1)
    refine lv_iconst (v := 0) hx hb dX0_takeSign_5 (by decide) ?_
    exact zretw_z (q' := false) hx hb hr hlocks dX0_takeSign_6 hP hS (congrArg (fun z9 => z9.1) hq) (congrArg (fun z9 => zB_X0 (g 0) x z9.2) hq)
def v_X0_takeKind (X : Nat → Nat → Int32) (code : Int32) : Bool × (Nat → Nat → Int32) := (if code = 43 then (true, zU (zU X 4 (fun _ => code)) 3 (fun _ => 1)) else (if code = 45 then (true, zU (zU X 4 (fun _ => code)) 3 (fun _ => 1)) else (if code = 100 then (true, zU (zU X 4 (fun _ => code)) 3 (fun _ => 3)) else (if code = 105 then (true, zU (zU X 4 (fun _ => code)) 3 (fun _ => 3)) else (if code = 111 then (true, zU (zU X 4 (fun _ => code)) 3 (fun _ => 3)) else (if code = 120 then (true, zU (zU X 4 (fun _ => code)) 3 (fun _ => 1)) else (false, zU X 4 (fun _ => code))))))))
set_option maxHeartbeats 400000 in
set_option maxRecDepth 100000 in
theorem c_X0_takeKind (l : Launch) (D : va_G) (g : Nat → ClassId) (x : Nat → Nat) (X : Nat → Nat → Int32) (code : Int32) : Wr l D (zT g) yX0_takeKind wsX0_takeKind (rmOf 0 0) [.ref (x 0), .int code] (zB_X0 (g 0) x X) (some (.int (bI ((v_X0_takeKind X code).1)))) (zB_X0 (g 0) x ((v_X0_takeKind X code).2)) := by
  refine Wr.of (cc := cX0_takeKind) (maxL := 2) (ret := (some .boolean)) (by decide) rfl (Nat.le_of_ble_eq_true rfl) ?_
  intro p e s m below meth c ls hx hb hr hml hown hts hlocks hP hD hS hK hl
  have hown : s.vm.findClass RX0 = some m.cls := hown
  have hinX0 : ∀ w ∈ u_ws RX0 TX0 7, w ∈ wsX0_takeKind := fun _ h9 => (List.mem_cons_of_mem _ (List.mem_append_right _ h9))
  obtain ⟨q, hq⟩ : ∃ q : Bool × (Nat → Nat → Int32), q = v_X0_takeKind X code := ⟨_, rfl⟩
  rw [← hq]
  unfold v_X0_takeKind at hq
  have hl : lv_has ls 2 [(0, .ref (x 0)), (1, .int code)] := hl
  refine lv_aload_n hx hb dX0_takeKind_0 rfl (lv_at hl 0 rfl) ?_
  refine lv_iload_n hx hb dX0_takeKind_1 rfl (lv_at hl 1 rfl) ?_
  refine va_put (D := D) (ci := 0) (v := .int code) (ty := .int) (C := RX0) (T := TX0) (N := 7) hx hb hts hinX0 tyX0 tyX0_ok nmX0 hown hK.1 hP hD hS 0 rfl rfl 4 (by decide) (hts (.fieldLink RX0 62 "SaltShares$CommandText" "kind" "I") (List.mem_of_getElem? (i := 1) rfl)) (fun _ h9 => h9) rfl (by decide +kernel) rfl rfl (Nat.le_of_ble_eq_true rfl) dX0_takeKind_2 (fun H locs hP hD hS => ?_)
  have hP : va_P D vwCl (zB_X0 (g 0) x (zU X 4 (fun _ => code))) H := hP
  have hD : va_D (zA (zB_X0 (g 0) x X)) (zB_X0 (g 0) x (zU X 4 (fun _ => code))) := hD
  refine lv_iload_n hx hb dX0_takeKind_5 rfl (lv_at hl 1 rfl) ?_
  by_cases c_1 : code = 43
  · have hq := hq.trans (if_pos c_1)
    have c_1I : Int32.toInt code = 43 := (congrArg Int32.toInt c_1).trans (by decide)
    refine lv_lookup (off := 58) (tgt := 64) hx hb dX0_takeKind_6 (by decide) (by rw [c_1I]; decide) (by decide) ?_
    refine lv_aload_n hx hb dX0_takeKind_64 rfl (lv_at hl 0 rfl) ?_
    refine lv_iconst (v := 1) hx hb dX0_takeKind_65 (by decide) ?_
    refine va_put (D := D) (ci := 0) (v := .int 1) (ty := .int) (C := RX0) (T := TX0) (N := 7) hx hb hts hinX0 tyX0 tyX0_ok nmX0 hown hK.1 hP hD hS 0 rfl rfl 3 (by decide) (hts (.fieldLink RX0 30 "SaltShares$CommandText" "place" "I") (List.mem_of_getElem? (i := 2) rfl)) (fun _ h9 => h9) rfl (by decide +kernel) rfl rfl (Nat.le_of_ble_eq_true rfl) dX0_takeKind_66 (fun H locs hP hD hS => ?_)
    have hP : va_P D vwCl (zB_X0 (g 0) x (zU (zU X 4 (fun _ => code)) 3 (fun _ => 1))) H := hP
    have hD : va_D (zA (zB_X0 (g 0) x X)) (zB_X0 (g 0) x (zU (zU X 4 (fun _ => code)) 3 (fun _ => 1))) := hD
    refine lv_iconst (v := 1) hx hb dX0_takeKind_69 (by decide) ?_
    exact zretw_z (q' := true) hx hb hr hlocks dX0_takeKind_70 hP hS (congrArg (fun z9 => z9.1) hq) (congrArg (fun z9 => zB_X0 (g 0) x z9.2) hq)
  · have hq := hq.trans (if_neg c_1)
    by_cases c_2 : code = 45
    · have hq := hq.trans (if_pos c_2)
      have c_2I : Int32.toInt code = 45 := (congrArg Int32.toInt c_2).trans (by decide)
      refine lv_lookup (off := 58) (tgt := 64) hx hb dX0_takeKind_6 (by decide) (by rw [c_2I]; decide) (by decide) ?_
      refine lv_aload_n hx hb dX0_takeKind_64 rfl (lv_at hl 0 rfl) ?_
      refine lv_iconst (v := 1) hx hb dX0_takeKind_65 (by decide) ?_
      refine va_put (D := D) (ci := 0) (v := .int 1) (ty := .int) (C := RX0) (T := TX0) (N := 7) hx hb hts hinX0 tyX0 tyX0_ok nmX0 hown hK.1 hP hD hS 0 rfl rfl 3 (by decide) (hts (.fieldLink RX0 30 "SaltShares$CommandText" "place" "I") (List.mem_of_getElem? (i := 2) rfl)) (fun _ h9 => h9) rfl (by decide +kernel) rfl rfl (Nat.le_of_ble_eq_true rfl) dX0_takeKind_66 (fun H locs hP hD hS => ?_)
      have hP : va_P D vwCl (zB_X0 (g 0) x (zU (zU X 4 (fun _ => code)) 3 (fun _ => 1))) H := hP
      have hD : va_D (zA (zB_X0 (g 0) x X)) (zB_X0 (g 0) x (zU (zU X 4 (fun _ => code)) 3 (fun _ => 1))) := hD
      refine lv_iconst (v := 1) hx hb dX0_takeKind_69 (by decide) ?_
      exact zretw_z (q' := true) hx hb hr hlocks dX0_takeKind_70 hP hS (congrArg (fun z9 => z9.1) hq) (congrArg (fun z9 => zB_X0 (g 0) x z9.2) hq)
    · have hq := hq.trans (if_neg c_2)
      by_cases c_3 : code = 100
      · have hq := hq.trans (if_pos c_3)
        have c_3I : Int32.toInt code = 100 := (congrArg Int32.toInt c_3).trans (by decide)
        refine lv_lookup (off := 65) (tgt := 71) hx hb dX0_takeKind_6 (by decide) (by rw [c_3I]; decide) (by decide) ?_
        refine lv_aload_n hx hb dX0_takeKind_71 rfl (lv_at hl 0 rfl) ?_
        refine lv_iconst (v := 3) hx hb dX0_takeKind_72 (by decide) ?_
        refine va_put (D := D) (ci := 0) (v := .int 3) (ty := .int) (C := RX0) (T := TX0) (N := 7) hx hb hts hinX0 tyX0 tyX0_ok nmX0 hown hK.1 hP hD hS 0 rfl rfl 3 (by decide) (hts (.fieldLink RX0 30 "SaltShares$CommandText" "place" "I") (List.mem_of_getElem? (i := 2) rfl)) (fun _ h9 => h9) rfl (by decide +kernel) rfl rfl (Nat.le_of_ble_eq_true rfl) dX0_takeKind_73 (fun H locs hP hD hS => ?_)
        have hP : va_P D vwCl (zB_X0 (g 0) x (zU (zU X 4 (fun _ => code)) 3 (fun _ => 3))) H := hP
        have hD : va_D (zA (zB_X0 (g 0) x X)) (zB_X0 (g 0) x (zU (zU X 4 (fun _ => code)) 3 (fun _ => 3))) := hD
        refine lv_iconst (v := 1) hx hb dX0_takeKind_76 (by decide) ?_
        exact zretw_z (q' := true) hx hb hr hlocks dX0_takeKind_77 hP hS (congrArg (fun z9 => z9.1) hq) (congrArg (fun z9 => zB_X0 (g 0) x z9.2) hq)
      · have hq := hq.trans (if_neg c_3)
        by_cases c_4 : code = 105
        · have hq := hq.trans (if_pos c_4)
          have c_4I : Int32.toInt code = 105 := (congrArg Int32.toInt c_4).trans (by decide)
          refine lv_lookup (off := 65) (tgt := 71) hx hb dX0_takeKind_6 (by decide) (by rw [c_4I]; decide) (by decide) ?_
          refine lv_aload_n hx hb dX0_takeKind_71 rfl (lv_at hl 0 rfl) ?_
          refine lv_iconst (v := 3) hx hb dX0_takeKind_72 (by decide) ?_
          refine va_put (D := D) (ci := 0) (v := .int 3) (ty := .int) (C := RX0) (T := TX0) (N := 7) hx hb hts hinX0 tyX0 tyX0_ok nmX0 hown hK.1 hP hD hS 0 rfl rfl 3 (by decide) (hts (.fieldLink RX0 30 "SaltShares$CommandText" "place" "I") (List.mem_of_getElem? (i := 2) rfl)) (fun _ h9 => h9) rfl (by decide +kernel) rfl rfl (Nat.le_of_ble_eq_true rfl) dX0_takeKind_73 (fun H locs hP hD hS => ?_)
          have hP : va_P D vwCl (zB_X0 (g 0) x (zU (zU X 4 (fun _ => code)) 3 (fun _ => 3))) H := hP
          have hD : va_D (zA (zB_X0 (g 0) x X)) (zB_X0 (g 0) x (zU (zU X 4 (fun _ => code)) 3 (fun _ => 3))) := hD
          refine lv_iconst (v := 1) hx hb dX0_takeKind_76 (by decide) ?_
          exact zretw_z (q' := true) hx hb hr hlocks dX0_takeKind_77 hP hS (congrArg (fun z9 => z9.1) hq) (congrArg (fun z9 => zB_X0 (g 0) x z9.2) hq)
        · have hq := hq.trans (if_neg c_4)
          by_cases c_5 : code = 111
          · have hq := hq.trans (if_pos c_5)
            have c_5I : Int32.toInt code = 111 := (congrArg Int32.toInt c_5).trans (by decide)
            refine lv_lookup (off := 65) (tgt := 71) hx hb dX0_takeKind_6 (by decide) (by rw [c_5I]; decide) (by decide) ?_
            refine lv_aload_n hx hb dX0_takeKind_71 rfl (lv_at hl 0 rfl) ?_
            refine lv_iconst (v := 3) hx hb dX0_takeKind_72 (by decide) ?_
            refine va_put (D := D) (ci := 0) (v := .int 3) (ty := .int) (C := RX0) (T := TX0) (N := 7) hx hb hts hinX0 tyX0 tyX0_ok nmX0 hown hK.1 hP hD hS 0 rfl rfl 3 (by decide) (hts (.fieldLink RX0 30 "SaltShares$CommandText" "place" "I") (List.mem_of_getElem? (i := 2) rfl)) (fun _ h9 => h9) rfl (by decide +kernel) rfl rfl (Nat.le_of_ble_eq_true rfl) dX0_takeKind_73 (fun H locs hP hD hS => ?_)
            have hP : va_P D vwCl (zB_X0 (g 0) x (zU (zU X 4 (fun _ => code)) 3 (fun _ => 3))) H := hP
            have hD : va_D (zA (zB_X0 (g 0) x X)) (zB_X0 (g 0) x (zU (zU X 4 (fun _ => code)) 3 (fun _ => 3))) := hD
            refine lv_iconst (v := 1) hx hb dX0_takeKind_76 (by decide) ?_
            exact zretw_z (q' := true) hx hb hr hlocks dX0_takeKind_77 hP hS (congrArg (fun z9 => z9.1) hq) (congrArg (fun z9 => zB_X0 (g 0) x z9.2) hq)
          · have hq := hq.trans (if_neg c_5)
            by_cases c_6 : code = 120
            · have hq := hq.trans (if_pos c_6)
              have c_6I : Int32.toInt code = 120 := (congrArg Int32.toInt c_6).trans (by decide)
              refine lv_lookup (off := 58) (tgt := 64) hx hb dX0_takeKind_6 (by decide) (by rw [c_6I]; decide) (by decide) ?_
              refine lv_aload_n hx hb dX0_takeKind_64 rfl (lv_at hl 0 rfl) ?_
              refine lv_iconst (v := 1) hx hb dX0_takeKind_65 (by decide) ?_
              refine va_put (D := D) (ci := 0) (v := .int 1) (ty := .int) (C := RX0) (T := TX0) (N := 7) hx hb hts hinX0 tyX0 tyX0_ok nmX0 hown hK.1 hP hD hS 0 rfl rfl 3 (by decide) (hts (.fieldLink RX0 30 "SaltShares$CommandText" "place" "I") (List.mem_of_getElem? (i := 2) rfl)) (fun _ h9 => h9) rfl (by decide +kernel) rfl rfl (Nat.le_of_ble_eq_true rfl) dX0_takeKind_66 (fun H locs hP hD hS => ?_)
              have hP : va_P D vwCl (zB_X0 (g 0) x (zU (zU X 4 (fun _ => code)) 3 (fun _ => 1))) H := hP
              have hD : va_D (zA (zB_X0 (g 0) x X)) (zB_X0 (g 0) x (zU (zU X 4 (fun _ => code)) 3 (fun _ => 1))) := hD
              refine lv_iconst (v := 1) hx hb dX0_takeKind_69 (by decide) ?_
              exact zretw_z (q' := true) hx hb hr hlocks dX0_takeKind_70 hP hS (congrArg (fun z9 => z9.1) hq) (congrArg (fun z9 => zB_X0 (g 0) x z9.2) hq)
            · have hq := hq.trans (if_neg c_6)
              have c_1N : ¬ Int32.toInt code = 43 := lv_neT c_1 (by decide)
              have c_2N : ¬ Int32.toInt code = 45 := lv_neT c_2 (by decide)
              have c_3N : ¬ Int32.toInt code = 100 := lv_neT c_3 (by decide)
              have c_4N : ¬ Int32.toInt code = 105 := lv_neT c_4 (by decide)
              have c_5N : ¬ Int32.toInt code = 111 := lv_neT c_5 (by decide)
              have c_6N : ¬ Int32.toInt code = 120 := lv_neT c_6 (by decide)
              refine lv_lookup (off := 72) (tgt := 78) hx hb dX0_takeKind_6 (by decide) (by simp only [Op.lookupswitch.offset]; (repeat rw [if_neg (by omega)])) (by decide) ?_
              refine lv_iconst (v := 0) hx hb dX0_takeKind_78 (by decide) ?_
              exact zretw_z (q' := false) hx hb hr hlocks dX0_takeKind_79 hP hS (congrArg (fun z9 => z9.1) hq) (congrArg (fun z9 => zB_X0 (g 0) x z9.2) hq)
def v_X0_takeBread (X : Nat → Nat → Int32) (code : Int32) : Bool × (Nat → Nat → Int32) := (if code < 48 then (false, X) else (if code ≤ 55 then (if (X 4 0) = 43 then (true, zU (zU X 5 (fun _ => (code - 48))) 3 (fun _ => 2)) else (if (X 4 0) = 45 then (true, zU (zU X 5 (fun _ => (code - 48))) 3 (fun _ => 2)) else (true, zU (zU X 5 (fun _ => (code - 48))) 3 (fun _ => 5)))) else (false, X)))
set_option maxHeartbeats 400000 in
set_option maxRecDepth 100000 in
theorem c_X0_takeBread (l : Launch) (D : va_G) (g : Nat → ClassId) (x : Nat → Nat) (X : Nat → Nat → Int32) (code : Int32) : Wr l D (zT g) yX0_takeBread wsX0_takeBread (rmOf 0 0) [.ref (x 0), .int code] (zB_X0 (g 0) x X) (some (.int (bI ((v_X0_takeBread X code).1)))) (zB_X0 (g 0) x ((v_X0_takeBread X code).2)) := by
  refine Wr.of (cc := cX0_takeBread) (maxL := 2) (ret := (some .boolean)) (by decide) rfl (Nat.le_of_ble_eq_true rfl) ?_
  intro p e s m below meth c ls hx hb hr hml hown hts hlocks hP hD hS hK hl
  have hown : s.vm.findClass RX0 = some m.cls := hown
  have hinX0 : ∀ w ∈ u_ws RX0 TX0 7, w ∈ wsX0_takeBread := fun _ h9 => (List.mem_cons_of_mem _ (List.mem_append_right _ h9))
  obtain ⟨q, hq⟩ : ∃ q : Bool × (Nat → Nat → Int32), q = v_X0_takeBread X code := ⟨_, rfl⟩
  rw [← hq]
  unfold v_X0_takeBread at hq
  have hl : lv_has ls 2 [(0, .ref (x 0)), (1, .int code)] := hl
  refine lv_iload_n hx hb dX0_takeBread_0 rfl (lv_at hl 1 rfl) ?_
  refine lv_bipush (v := 48) hx hb dX0_takeBread_1 (by decide) ?_
  refine lv_icmp_lt (tgt := 12) hx hb dX0_takeBread_3 (by decide) (fun c_1 => ?_) (fun c_1 => ?_)
  · have c_1 : code < 48 := c_1
    have hq := hq.trans (if_pos c_1)
    refine lv_iconst (v := 0) hx hb dX0_takeBread_12 (by decide) ?_
    exact zretw_z (q' := false) hx hb hr hlocks dX0_takeBread_13 hP hS (congrArg (fun z9 => z9.1) hq) (congrArg (fun z9 => zB_X0 (g 0) x z9.2) hq)
  · have c_1 : ¬ (code < 48) := c_1
    have hq := hq.trans (if_neg c_1)
    refine lv_iload_n hx hb dX0_takeBread_6 rfl (lv_at hl 1 rfl) ?_
    refine lv_bipush (v := 55) hx hb dX0_takeBread_7 (by decide) ?_
    refine lv_icmp_le (tgt := 14) hx hb dX0_takeBread_9 (by decide) (fun c_2 => ?_) (fun c_2 => ?_)
    · have c_2 : code ≤ 55 := c_2
      have hq := hq.trans (if_pos c_2)
      refine lv_aload_n hx hb dX0_takeBread_14 rfl (lv_at hl 0 rfl) ?_
      refine lv_iload_n hx hb dX0_takeBread_15 rfl (lv_at hl 1 rfl) ?_
      refine lv_bipush (v := 48) hx hb dX0_takeBread_16 (by decide) ?_
      refine lv_isub hx hb dX0_takeBread_18 ?_
      refine va_put (D := D) (ci := 0) (v := .int (code - 48)) (ty := .int) (C := RX0) (T := TX0) (N := 7) hx hb hts hinX0 tyX0 tyX0_ok nmX0 hown hK.1 hP hD hS 0 rfl rfl 5 (by decide) (hts (.fieldLink RX0 65 "SaltShares$CommandText" "bread" "I") (List.mem_of_getElem? (i := 1) rfl)) (fun _ h9 => h9) rfl (by decide +kernel) rfl rfl (Nat.le_of_ble_eq_true rfl) dX0_takeBread_19 (fun H locs hP hD hS => ?_)
      have hP : va_P D vwCl (zB_X0 (g 0) x (zU X 5 (fun _ => (code - 48)))) H := hP
      have hD : va_D (zA (zB_X0 (g 0) x X)) (zB_X0 (g 0) x (zU X 5 (fun _ => (code - 48)))) := hD
      refine lv_aload_n hx hb dX0_takeBread_22 rfl (lv_at hl 0 rfl) ?_
      refine lv_aload_n hx hb dX0_takeBread_23 rfl (lv_at hl 0 rfl) ?_
      refine va_get (D := D) (ci := 0) (v := .int (X 4 0)) (C := RX0) (T := TX0) (N := 7) hx hb hts hinX0 hown hK.1 hP 0 rfl rfl 4 (by decide) (hts (.fieldLink RX0 62 "SaltShares$CommandText" "kind" "I") (List.mem_of_getElem? (i := 2) rfl)) (fun _ h9 => h9) rfl dX0_takeBread_24 ?_
      refine lv_bipush (v := 43) hx hb dX0_takeBread_27 (by decide) ?_
      refine lv_icmp_eq (tgt := 41) hx hb dX0_takeBread_29 (by decide) (fun c_3 => ?_) (fun c_3 => ?_)
      · have c_3 : (X 4 0) = 43 := c_3
        have hq := hq.trans (if_pos c_3)
        refine lv_iconst (v := 2) hx hb dX0_takeBread_41 (by decide) ?_
        refine lv_goto (tgt := 46) hx hb dX0_takeBread_42 (by decide) ?_
        refine va_put (D := D) (ci := 0) (v := .int 2) (ty := .int) (C := RX0) (T := TX0) (N := 7) hx hb hts hinX0 tyX0 tyX0_ok nmX0 hown hK.1 hP hD hS 0 rfl rfl 3 (by decide) (hts (.fieldLink RX0 30 "SaltShares$CommandText" "place" "I") (List.mem_of_getElem? (i := 3) rfl)) (fun _ h9 => h9) rfl (by decide +kernel) rfl rfl (Nat.le_of_ble_eq_true rfl) dX0_takeBread_46 (fun H locs hP hD hS => ?_)
        have hP : va_P D vwCl (zB_X0 (g 0) x (zU (zU X 5 (fun _ => (code - 48))) 3 (fun _ => 2))) H := hP
        have hD : va_D (zA (zB_X0 (g 0) x X)) (zB_X0 (g 0) x (zU (zU X 5 (fun _ => (code - 48))) 3 (fun _ => 2))) := hD
        refine lv_iconst (v := 1) hx hb dX0_takeBread_49 (by decide) ?_
        exact zretw_z (q' := true) hx hb hr hlocks dX0_takeBread_50 hP hS (congrArg (fun z9 => z9.1) hq) (congrArg (fun z9 => zB_X0 (g 0) x z9.2) hq)
      · have c_3 : ¬ ((X 4 0) = 43) := c_3
        have hq := hq.trans (if_neg c_3)
        refine lv_aload_n hx hb dX0_takeBread_32 rfl (lv_at hl 0 rfl) ?_
        refine va_get (D := D) (ci := 0) (v := .int (X 4 0)) (C := RX0) (T := TX0) (N := 7) hx hb hts hinX0 hown hK.1 hP 0 rfl rfl 4 (by decide) (hts (.fieldLink RX0 62 "SaltShares$CommandText" "kind" "I") (List.mem_of_getElem? (i := 2) rfl)) (fun _ h9 => h9) rfl dX0_takeBread_33 ?_
        refine lv_bipush (v := 45) hx hb dX0_takeBread_36 (by decide) ?_
        refine lv_icmp_ne (tgt := 45) hx hb dX0_takeBread_38 (by decide) (fun c_4 => ?_) (fun c_4 => ?_)
        · have c_4 : ¬ ((X 4 0) = 45) := c_4
          have hq := hq.trans (if_neg c_4)
          refine lv_iconst (v := 5) hx hb dX0_takeBread_45 (by decide) ?_
          refine va_put (D := D) (ci := 0) (v := .int 5) (ty := .int) (C := RX0) (T := TX0) (N := 7) hx hb hts hinX0 tyX0 tyX0_ok nmX0 hown hK.1 hP hD hS 0 rfl rfl 3 (by decide) (hts (.fieldLink RX0 30 "SaltShares$CommandText" "place" "I") (List.mem_of_getElem? (i := 3) rfl)) (fun _ h9 => h9) rfl (by decide +kernel) rfl rfl (Nat.le_of_ble_eq_true rfl) dX0_takeBread_46 (fun H locs hP hD hS => ?_)
          have hP : va_P D vwCl (zB_X0 (g 0) x (zU (zU X 5 (fun _ => (code - 48))) 3 (fun _ => 5))) H := hP
          have hD : va_D (zA (zB_X0 (g 0) x X)) (zB_X0 (g 0) x (zU (zU X 5 (fun _ => (code - 48))) 3 (fun _ => 5))) := hD
          refine lv_iconst (v := 1) hx hb dX0_takeBread_49 (by decide) ?_
          exact zretw_z (q' := true) hx hb hr hlocks dX0_takeBread_50 hP hS (congrArg (fun z9 => z9.1) hq) (congrArg (fun z9 => zB_X0 (g 0) x z9.2) hq)
        · have c_4 : (X 4 0) = 45 := c_4
          have hq := hq.trans (if_pos c_4)
          refine lv_iconst (v := 2) hx hb dX0_takeBread_41 (by decide) ?_
          refine lv_goto (tgt := 46) hx hb dX0_takeBread_42 (by decide) ?_
          refine va_put (D := D) (ci := 0) (v := .int 2) (ty := .int) (C := RX0) (T := TX0) (N := 7) hx hb hts hinX0 tyX0 tyX0_ok nmX0 hown hK.1 hP hD hS 0 rfl rfl 3 (by decide) (hts (.fieldLink RX0 30 "SaltShares$CommandText" "place" "I") (List.mem_of_getElem? (i := 3) rfl)) (fun _ h9 => h9) rfl (by decide +kernel) rfl rfl (Nat.le_of_ble_eq_true rfl) dX0_takeBread_46 (fun H locs hP hD hS => ?_)
          have hP : va_P D vwCl (zB_X0 (g 0) x (zU (zU X 5 (fun _ => (code - 48))) 3 (fun _ => 2))) H := hP
          have hD : va_D (zA (zB_X0 (g 0) x X)) (zB_X0 (g 0) x (zU (zU X 5 (fun _ => (code - 48))) 3 (fun _ => 2))) := hD
          refine lv_iconst (v := 1) hx hb dX0_takeBread_49 (by decide) ?_
          exact zretw_z (q' := true) hx hb hr hlocks dX0_takeBread_50 hP hS (congrArg (fun z9 => z9.1) hq) (congrArg (fun z9 => zB_X0 (g 0) x z9.2) hq)
    · have c_2 : ¬ (code ≤ 55) := c_2
      have hq := hq.trans (if_neg c_2)
      refine lv_iconst (v := 0) hx hb dX0_takeBread_12 (by decide) ?_
      exact zretw_z (q' := false) hx hb hr hlocks dX0_takeBread_13 hP hS (congrArg (fun z9 => z9.1) hq) (congrArg (fun z9 => zB_X0 (g 0) x z9.2) hq)
def v_X0_takeFirstDigit (X : Nat → Nat → Int32) (code : Int32) : Bool × (Nat → Nat → Int32) := (if (v_X0_isDigit code) = true then (if code = 48 then (if (X 4 0) = 100 then (false, X) else (true, zU (zU X 6 (fun _ => (code - 48))) 3 (fun _ => 4))) else (true, zU (zU X 6 (fun _ => (code - 48))) 3 (fun _ => 4))) else (false, X))
set_option maxHeartbeats 400000 in
set_option maxRecDepth 100000 in
theorem c_X0_takeFirstDigit (l : Launch) (D : va_G) (g : Nat → ClassId) (x : Nat → Nat) (X : Nat → Nat → Int32) (code : Int32) : Wr l D (zT g) yX0_takeFirstDigit wsX0_takeFirstDigit (rmOf 1 20) [.ref (x 0), .int code] (zB_X0 (g 0) x X) (some (.int (bI ((v_X0_takeFirstDigit X code).1)))) (zB_X0 (g 0) x ((v_X0_takeFirstDigit X code).2)) := by
  refine Wr.of (cc := cX0_takeFirstDigit) (maxL := 2) (ret := (some .boolean)) (by decide) rfl (Nat.le_of_ble_eq_true rfl) ?_
  intro p e s m below meth c ls hx hb hr hml hown hts hlocks hP hD hS hK hl
  have hown : s.vm.findClass RX0 = some m.cls := hown
  have hinX0 : ∀ w ∈ u_ws RX0 TX0 7, w ∈ wsX0_takeFirstDigit := fun _ h9 => (List.mem_cons_of_mem _ (List.mem_append_right _ h9))
  obtain ⟨q, hq⟩ : ∃ q : Bool × (Nat → Nat → Int32), q = v_X0_takeFirstDigit X code := ⟨_, rfl⟩
  rw [← hq]
  unfold v_X0_takeFirstDigit at hq
  have hl : lv_has ls 2 [(0, .ref (x 0)), (1, .int code)] := hl
  refine lv_iload_n hx hb dX0_takeFirstDigit_0 rfl (lv_at hl 1 rfl) ?_
  refine zcSO (n := 1) (c_X0_isDigit l D g code) hx hb hml hown hts gX0_takeFirstDigit_X0_isDigit rfl ⟨by decide, by decide, by decide⟩ ⟨Nat.le_of_ble_eq_true rfl, Nat.le_of_ble_eq_true rfl⟩ ⟨rfl, rfl⟩ hK (hP.sub [] rfl) hl.1 rfl rfl (Nat.le_of_ble_eq_true rfl) ⟨Nat.zero_le _, Nat.zero_le _⟩ dX0_takeFirstDigit_1 ?_
  refine zif_eq (tgt := 22) hx hb dX0_takeFirstDigit_4 (by decide) (fun c_2 => ?_) (fun c_2 => ?_)
  · have hq := hq.trans (zif_f c_2)
    refine lv_iconst (v := 0) hx hb dX0_takeFirstDigit_22 (by decide) ?_
    exact zretw_z (q' := false) hx hb hr hlocks dX0_takeFirstDigit_23 hP hS (congrArg (fun z9 => z9.1) hq) (congrArg (fun z9 => zB_X0 (g 0) x z9.2) hq)
  · have hq := hq.trans (zif_t c_2)
    refine lv_iload_n hx hb dX0_takeFirstDigit_7 rfl (lv_at hl 1 rfl) ?_
    refine lv_bipush (v := 48) hx hb dX0_takeFirstDigit_8 (by decide) ?_
    refine lv_icmp_ne (tgt := 24) hx hb dX0_takeFirstDigit_10 (by decide) (fun c_3 => ?_) (fun c_3 => ?_)
    · have c_3 : ¬ (code = 48) := c_3
      have hq := hq.trans (if_neg c_3)
      refine lv_aload_n hx hb dX0_takeFirstDigit_24 rfl (lv_at hl 0 rfl) ?_
      refine lv_iload_n hx hb dX0_takeFirstDigit_25 rfl (lv_at hl 1 rfl) ?_
      refine lv_bipush (v := 48) hx hb dX0_takeFirstDigit_26 (by decide) ?_
      refine lv_isub hx hb dX0_takeFirstDigit_28 ?_
      refine va_put (D := D) (ci := 0) (v := .int (code - 48)) (ty := .int) (C := RX0) (T := TX0) (N := 7) hx hb hts hinX0 tyX0 tyX0_ok nmX0 hown hK.1 hP hD hS 0 rfl rfl 6 (by decide) (hts (.fieldLink RX0 68 "SaltShares$CommandText" "number" "I") (List.mem_of_getElem? (i := 2) rfl)) (fun _ h9 => h9) rfl (by decide +kernel) rfl rfl (Nat.le_of_ble_eq_true rfl) dX0_takeFirstDigit_29 (fun H locs hP hD hS => ?_)
      have hP : va_P D vwCl (zB_X0 (g 0) x (zU X 6 (fun _ => (code - 48)))) H := hP
      have hD : va_D (zA (zB_X0 (g 0) x X)) (zB_X0 (g 0) x (zU X 6 (fun _ => (code - 48)))) := hD
      refine lv_aload_n hx hb dX0_takeFirstDigit_32 rfl (lv_at hl 0 rfl) ?_
      refine lv_iconst (v := 4) hx hb dX0_takeFirstDigit_33 (by decide) ?_
      refine va_put (D := D) (ci := 0) (v := .int 4) (ty := .int) (C := RX0) (T := TX0) (N := 7) hx hb hts hinX0 tyX0 tyX0_ok nmX0 hown hK.1 hP hD hS 0 rfl rfl 3 (by decide) (hts (.fieldLink RX0 30 "SaltShares$CommandText" "place" "I") (List.mem_of_getElem? (i := 3) rfl)) (fun _ h9 => h9) rfl (by decide +kernel) rfl rfl (Nat.le_of_ble_eq_true rfl) dX0_takeFirstDigit_34 (fun H locs hP hD hS => ?_)
      have hP : va_P D vwCl (zB_X0 (g 0) x (zU (zU X 6 (fun _ => (code - 48))) 3 (fun _ => 4))) H := hP
      have hD : va_D (zA (zB_X0 (g 0) x X)) (zB_X0 (g 0) x (zU (zU X 6 (fun _ => (code - 48))) 3 (fun _ => 4))) := hD
      refine lv_iconst (v := 1) hx hb dX0_takeFirstDigit_37 (by decide) ?_
      exact zretw_z (q' := true) hx hb hr hlocks dX0_takeFirstDigit_38 hP hS (congrArg (fun z9 => z9.1) hq) (congrArg (fun z9 => zB_X0 (g 0) x z9.2) hq)
    · have c_3 : code = 48 := c_3
      have hq := hq.trans (if_pos c_3)
      refine lv_aload_n hx hb dX0_takeFirstDigit_13 rfl (lv_at hl 0 rfl) ?_
      refine va_get (D := D) (ci := 0) (v := .int (X 4 0)) (C := RX0) (T := TX0) (N := 7) hx hb hts hinX0 hown hK.1 hP 0 rfl rfl 4 (by decide) (hts (.fieldLink RX0 62 "SaltShares$CommandText" "kind" "I") (List.mem_of_getElem? (i := 1) rfl)) (fun _ h9 => h9) rfl dX0_takeFirstDigit_14 ?_
      refine lv_bipush (v := 100) hx hb dX0_takeFirstDigit_17 (by decide) ?_
      refine lv_icmp_ne (tgt := 24) hx hb dX0_takeFirstDigit_19 (by decide) (fun c_4 => ?_) (fun c_4 => ?_)
      · have c_4 : ¬ ((X 4 0) = 100) := c_4
        have hq := hq.trans (if_neg c_4)
        refine lv_aload_n hx hb dX0_takeFirstDigit_24 rfl (lv_at hl 0 rfl) ?_
        refine lv_iload_n hx hb dX0_takeFirstDigit_25 rfl (lv_at hl 1 rfl) ?_
        refine lv_bipush (v := 48) hx hb dX0_takeFirstDigit_26 (by decide) ?_
        refine lv_isub hx hb dX0_takeFirstDigit_28 ?_
        refine va_put (D := D) (ci := 0) (v := .int (code - 48)) (ty := .int) (C := RX0) (T := TX0) (N := 7) hx hb hts hinX0 tyX0 tyX0_ok nmX0 hown hK.1 hP hD hS 0 rfl rfl 6 (by decide) (hts (.fieldLink RX0 68 "SaltShares$CommandText" "number" "I") (List.mem_of_getElem? (i := 2) rfl)) (fun _ h9 => h9) rfl (by decide +kernel) rfl rfl (Nat.le_of_ble_eq_true rfl) dX0_takeFirstDigit_29 (fun H locs hP hD hS => ?_)
        have hP : va_P D vwCl (zB_X0 (g 0) x (zU X 6 (fun _ => (code - 48)))) H := hP
        have hD : va_D (zA (zB_X0 (g 0) x X)) (zB_X0 (g 0) x (zU X 6 (fun _ => (code - 48)))) := hD
        refine lv_aload_n hx hb dX0_takeFirstDigit_32 rfl (lv_at hl 0 rfl) ?_
        refine lv_iconst (v := 4) hx hb dX0_takeFirstDigit_33 (by decide) ?_
        refine va_put (D := D) (ci := 0) (v := .int 4) (ty := .int) (C := RX0) (T := TX0) (N := 7) hx hb hts hinX0 tyX0 tyX0_ok nmX0 hown hK.1 hP hD hS 0 rfl rfl 3 (by decide) (hts (.fieldLink RX0 30 "SaltShares$CommandText" "place" "I") (List.mem_of_getElem? (i := 3) rfl)) (fun _ h9 => h9) rfl (by decide +kernel) rfl rfl (Nat.le_of_ble_eq_true rfl) dX0_takeFirstDigit_34 (fun H locs hP hD hS => ?_)
        have hP : va_P D vwCl (zB_X0 (g 0) x (zU (zU X 6 (fun _ => (code - 48))) 3 (fun _ => 4))) H := hP
        have hD : va_D (zA (zB_X0 (g 0) x X)) (zB_X0 (g 0) x (zU (zU X 6 (fun _ => (code - 48))) 3 (fun _ => 4))) := hD
        refine lv_iconst (v := 1) hx hb dX0_takeFirstDigit_37 (by decide) ?_
        exact zretw_z (q' := true) hx hb hr hlocks dX0_takeFirstDigit_38 hP hS (congrArg (fun z9 => z9.1) hq) (congrArg (fun z9 => zB_X0 (g 0) x z9.2) hq)
      · have c_4 : (X 4 0) = 100 := c_4
        have hq := hq.trans (if_pos c_4)
        refine lv_iconst (v := 0) hx hb dX0_takeFirstDigit_22 (by decide) ?_
        exact zretw_z (q' := false) hx hb hr hlocks dX0_takeFirstDigit_23 hP hS (congrArg (fun z9 => z9.1) hq) (congrArg (fun z9 => zB_X0 (g 0) x z9.2) hq)
def v_X0_takeNextDigit (X : Nat → Nat → Int32) (code : Int32) : Bool × (Nat → Nat → Int32) := (if (X 6 0) = 0 then (false, X) else (if ((((10 : Int32) * (X 6 0)) + code) - 48) ≤ (v_X0_greatestNumber X) then (true, zU X 6 (fun _ => ((((10 : Int32) * (X 6 0)) + code) - 48))) else (false, X)))
set_option maxHeartbeats 400000 in
set_option maxRecDepth 100000 in
theorem c_X0_takeNextDigit (l : Launch) (D : va_G) (g : Nat → ClassId) (x : Nat → Nat) (X : Nat → Nat → Int32) (code : Int32) : Wr l D (zT g) yX0_takeNextDigit wsX0_takeNextDigit (rmOf 2 40) [.ref (x 0), .int code] (zB_X0 (g 0) x X) (some (.int (bI ((v_X0_takeNextDigit X code).1)))) (zB_X0 (g 0) x ((v_X0_takeNextDigit X code).2)) := by
  refine Wr.of (cc := cX0_takeNextDigit) (maxL := 3) (ret := (some .boolean)) (by decide) rfl (Nat.le_of_ble_eq_true rfl) ?_
  intro p e s m below meth c ls hx hb hr hml hown hts hlocks hP hD hS hK hl
  have hown : s.vm.findClass RX0 = some m.cls := hown
  have hinX0 : ∀ w ∈ u_ws RX0 TX0 7, w ∈ wsX0_takeNextDigit := fun _ h9 => (List.mem_cons_of_mem _ (List.mem_append_right _ h9))
  obtain ⟨q, hq⟩ : ∃ q : Bool × (Nat → Nat → Int32), q = v_X0_takeNextDigit X code := ⟨_, rfl⟩
  rw [← hq]
  unfold v_X0_takeNextDigit at hq
  have hl : lv_has ls 3 [(0, .ref (x 0)), (1, .int code)] := hl
  refine lv_bipush (v := 10) hx hb dX0_takeNextDigit_0 (by decide) ?_
  refine lv_aload_n hx hb dX0_takeNextDigit_2 rfl (lv_at hl 0 rfl) ?_
  refine va_get (D := D) (ci := 0) (v := .int (X 6 0)) (C := RX0) (T := TX0) (N := 7) hx hb hts hinX0 hown hK.1 hP 0 rfl rfl 6 (by decide) (hts (.fieldLink RX0 68 "SaltShares$CommandText" "number" "I") (List.mem_of_getElem? (i := 1) rfl)) (fun _ h9 => h9) rfl dX0_takeNextDigit_3 ?_
  refine lv_imul hx hb dX0_takeNextDigit_6 ?_
  refine lv_iload_n hx hb dX0_takeNextDigit_7 rfl (lv_at hl 1 rfl) ?_
  refine lv_iadd hx hb dX0_takeNextDigit_8 ?_
  refine lv_bipush (v := 48) hx hb dX0_takeNextDigit_9 (by decide) ?_
  refine lv_isub hx hb dX0_takeNextDigit_11 ?_
  refine lv_istore_n (lv' := [(2, .int ((((10 : Int32) * (X 6 0)) + code) - 48)), (0, .ref (x 0)), (1, .int code)]) hx hb dX0_takeNextDigit_12 rfl hl (by decide) rfl (fun ls hl => ?_)
  refine lv_aload_n hx hb dX0_takeNextDigit_13 rfl (lv_at hl 1 rfl) ?_
  refine va_get (D := D) (ci := 0) (v := .int (X 6 0)) (C := RX0) (T := TX0) (N := 7) hx hb hts hinX0 hown hK.1 hP 0 rfl rfl 6 (by decide) (hts (.fieldLink RX0 68 "SaltShares$CommandText" "number" "I") (List.mem_of_getElem? (i := 1) rfl)) (fun _ h9 => h9) rfl dX0_takeNextDigit_14 ?_
  refine lv_if_eq (tgt := 28) hx hb dX0_takeNextDigit_17 (by decide) (fun c_1 => ?_) (fun c_1 => ?_)
  · have c_1 : (X 6 0) = 0 := c_1
    have hq := hq.trans (if_pos c_1)
    refine lv_iconst (v := 0) hx hb dX0_takeNextDigit_28 (by decide) ?_
    exact zretw_z (q' := false) hx hb hr hlocks dX0_takeNextDigit_29 hP hS (congrArg (fun z9 => z9.1) hq) (congrArg (fun z9 => zB_X0 (g 0) x z9.2) hq)
  · have c_1 : ¬ ((X 6 0) = 0) := c_1
    have hq := hq.trans (if_neg c_1)
    refine lv_iload_n hx hb dX0_takeNextDigit_20 rfl (lv_at hl 0 rfl) ?_
    refine lv_aload_n hx hb dX0_takeNextDigit_21 rfl (lv_at hl 1 rfl) ?_
    refine zcV (ci := 0) (n := 0) (c_X0_greatestNumber l D g x X) hx hb hml hown hts gX0_takeNextDigit_X0_greatestNumber rfl ⟨rfl, by decide, by decide, by decide⟩ ⟨Nat.le_of_ble_eq_true rfl, Nat.le_of_ble_eq_true rfl⟩ ⟨rfl, rfl⟩ hK hP rfl rfl rfl hl.1 rfl rfl (Nat.le_of_ble_eq_true rfl) ⟨Nat.zero_le _, Nat.zero_le _⟩ dX0_takeNextDigit_22 ?_
    refine lv_icmp_le (tgt := 30) hx hb dX0_takeNextDigit_25 (by decide) (fun c_3 => ?_) (fun c_3 => ?_)
    · have c_3 : ((((10 : Int32) * (X 6 0)) + code) - 48) ≤ (v_X0_greatestNumber X) := c_3
      have hq := hq.trans (if_pos c_3)
      refine lv_aload_n hx hb dX0_takeNextDigit_30 rfl (lv_at hl 1 rfl) ?_
      refine lv_iload_n hx hb dX0_takeNextDigit_31 rfl (lv_at hl 0 rfl) ?_
      refine va_put (D := D) (ci := 0) (v := .int ((((10 : Int32) * (X 6 0)) + code) - 48)) (ty := .int) (C := RX0) (T := TX0) (N := 7) hx hb hts hinX0 tyX0 tyX0_ok nmX0 hown hK.1 hP hD hS 0 rfl rfl 6 (by decide) (hts (.fieldLink RX0 68 "SaltShares$CommandText" "number" "I") (List.mem_of_getElem? (i := 1) rfl)) (fun _ h9 => h9) rfl (by decide +kernel) rfl rfl (Nat.le_of_ble_eq_true rfl) dX0_takeNextDigit_32 (fun H locs hP hD hS => ?_)
      have hP : va_P D vwCl (zB_X0 (g 0) x (zU X 6 (fun _ => ((((10 : Int32) * (X 6 0)) + code) - 48)))) H := hP
      have hD : va_D (zA (zB_X0 (g 0) x X)) (zB_X0 (g 0) x (zU X 6 (fun _ => ((((10 : Int32) * (X 6 0)) + code) - 48)))) := hD
      refine lv_iconst (v := 1) hx hb dX0_takeNextDigit_35 (by decide) ?_
      exact zretw_z (q' := true) hx hb hr hlocks dX0_takeNextDigit_36 hP hS (congrArg (fun z9 => z9.1) hq) (congrArg (fun z9 => zB_X0 (g 0) x z9.2) hq)
    · have c_3 : ¬ (((((10 : Int32) * (X 6 0)) + code) - 48) ≤ (v_X0_greatestNumber X)) := c_3
      have hq := hq.trans (if_neg c_3)
      refine lv_iconst (v := 0) hx hb dX0_takeNextDigit_28 (by decide) ?_
      exact zretw_z (q' := false) hx hb hr hlocks dX0_takeNextDigit_29 hP hS (congrArg (fun z9 => z9.1) hq) (congrArg (fun z9 => zB_X0 (g 0) x z9.2) hq)
def v_X0_takeEndOfNumber (X : Nat → Nat → Int32) (code : Int32) : Bool × (Nat → Nat → Int32) := (if (v_X0_isHoldKind X) = true then ((v_X0_takeSign X code 64 1).1, (v_X0_takeSign X code 64 1).2) else ((v_X0_takeSign X code 59 0).1, (v_X0_takeSign X code 59 0).2))
set_option maxHeartbeats 400000 in
set_option maxRecDepth 100000 in
theorem c_X0_takeEndOfNumber (l : Launch) (D : va_G) (g : Nat → ClassId) (x : Nat → Nat) (X : Nat → Nat → Int32) (code : Int32) : Wr l D (zT g) yX0_takeEndOfNumber wsX0_takeEndOfNumber (rmOf 1 23) [.ref (x 0), .int code] (zB_X0 (g 0) x X) (some (.int (bI ((v_X0_takeEndOfNumber X code).1)))) (zB_X0 (g 0) x ((v_X0_takeEndOfNumber X code).2)) := by
  refine Wr.of (cc := cX0_takeEndOfNumber) (maxL := 2) (ret := (some .boolean)) (by decide) rfl (Nat.le_of_ble_eq_true rfl) ?_
  intro p e s m below meth c ls hx hb hr hml hown hts hlocks hP hD hS hK hl
  have hown : s.vm.findClass RX0 = some m.cls := hown
  obtain ⟨q, hq⟩ : ∃ q : Bool × (Nat → Nat → Int32), q = v_X0_takeEndOfNumber X code := ⟨_, rfl⟩
  rw [← hq]
  unfold v_X0_takeEndOfNumber at hq
  have hl : lv_has ls 2 [(0, .ref (x 0)), (1, .int code)] := hl
  refine lv_aload_n hx hb dX0_takeEndOfNumber_0 rfl (lv_at hl 0 rfl) ?_
  refine zcV (ci := 0) (n := 0) (c_X0_isHoldKind l D g x X) hx hb hml hown hts gX0_takeEndOfNumber_X0_isHoldKind rfl ⟨rfl, by decide, by decide, by decide⟩ ⟨Nat.le_of_ble_eq_true rfl, Nat.le_of_ble_eq_true rfl⟩ ⟨rfl, rfl⟩ hK hP rfl rfl rfl hl.1 rfl rfl (Nat.le_of_ble_eq_true rfl) ⟨Nat.zero_le _, Nat.zero_le _⟩ dX0_takeEndOfNumber_1 ?_
  refine zif_eq (tgt := 18) hx hb dX0_takeEndOfNumber_4 (by decide) (fun c_2 => ?_) (fun c_2 => ?_)
  · have hq := hq.trans (zif_f c_2)
    refine lv_aload_n hx hb dX0_takeEndOfNumber_18 rfl (lv_at hl 0 rfl) ?_
    refine lv_iload_n hx hb dX0_takeEndOfNumber_19 rfl (lv_at hl 1 rfl) ?_
    refine lv_bipush (v := 59) hx hb dX0_takeEndOfNumber_20 (by decide) ?_
    refine lv_iconst (v := 0) hx hb dX0_takeEndOfNumber_22 (by decide) ?_
    refine zcVw (ci := 0) (n := 3) (c_X0_takeSign l D g x X code 59 0) hx hb hml hown hts gX0_takeEndOfNumber_X0_takeSign rfl ⟨rfl, by decide, by decide, by decide⟩ ⟨Nat.le_of_ble_eq_true rfl, Nat.le_of_ble_eq_true rfl⟩ ⟨rfl, rfl⟩ hK hP hD rfl rfl rfl hS hl.1 rfl rfl (Nat.le_of_ble_eq_true rfl) ⟨Nat.zero_le _, Nat.zero_le _⟩ dX0_takeEndOfNumber_23 (fun H1 locs hP1 hk1 hS => ?_)
    have hD := zD_addr (ws' := zB_X0 (g 0) x ((v_X0_takeSign X code 59 0).2)) hD rfl; have hP := hP1
    clear hP1 hk1
    have hP : va_P D vwCl (zB_X0 (g 0) x ((v_X0_takeSign X code 59 0).2)) H1 := hP
    have hD : va_D (zA (zB_X0 (g 0) x X)) (zB_X0 (g 0) x ((v_X0_takeSign X code 59 0).2)) := hD
    exact zretw_z (q' := ((v_X0_takeSign X code 59 0).1)) hx hb hr hlocks dX0_takeEndOfNumber_26 hP hS (congrArg (fun z9 => z9.1) hq) (congrArg (fun z9 => zB_X0 (g 0) x z9.2) hq)
  · have hq := hq.trans (zif_t c_2)
    refine lv_aload_n hx hb dX0_takeEndOfNumber_7 rfl (lv_at hl 0 rfl) ?_
    refine lv_iload_n hx hb dX0_takeEndOfNumber_8 rfl (lv_at hl 1 rfl) ?_
    refine lv_bipush (v := 64) hx hb dX0_takeEndOfNumber_9 (by decide) ?_
    refine lv_iconst (v := 1) hx hb dX0_takeEndOfNumber_11 (by decide) ?_
    refine zcVw (ci := 0) (n := 3) (c_X0_takeSign l D g x X code 64 1) hx hb hml hown hts gX0_takeEndOfNumber_X0_takeSign rfl ⟨rfl, by decide, by decide, by decide⟩ ⟨Nat.le_of_ble_eq_true rfl, Nat.le_of_ble_eq_true rfl⟩ ⟨rfl, rfl⟩ hK hP hD rfl rfl rfl hS hl.1 rfl rfl (Nat.le_of_ble_eq_true rfl) ⟨Nat.zero_le _, Nat.zero_le _⟩ dX0_takeEndOfNumber_12 (fun H1 locs hP1 hk1 hS => ?_)
    have hD := zD_addr (ws' := zB_X0 (g 0) x ((v_X0_takeSign X code 64 1).2)) hD rfl; have hP := hP1
    clear hP1 hk1
    have hP : va_P D vwCl (zB_X0 (g 0) x ((v_X0_takeSign X code 64 1).2)) H1 := hP
    have hD : va_D (zA (zB_X0 (g 0) x X)) (zB_X0 (g 0) x ((v_X0_takeSign X code 64 1).2)) := hD
    refine lv_goto (tgt := 26) hx hb dX0_takeEndOfNumber_15 (by decide) ?_
    exact zretw_z (q' := ((v_X0_takeSign X code 64 1).1)) hx hb hr hlocks dX0_takeEndOfNumber_26 hP hS (congrArg (fun z9 => z9.1) hq) (congrArg (fun z9 => zB_X0 (g 0) x z9.2) hq)
def v_X0_take (X : Nat → Nat → Int32) (code : Int32) : Bool × (Nat → Nat → Int32) := (if (X 3 0) = 0 then ((v_X0_takeKind X code).1, (v_X0_takeKind X code).2) else (if (X 3 0) = 1 then ((v_X0_takeBread X code).1, (v_X0_takeBread X code).2) else (if (X 3 0) = 2 then ((v_X0_takeSign X code 61 3).1, (v_X0_takeSign X code 61 3).2) else (if (X 3 0) = 3 then ((v_X0_takeFirstDigit X code).1, (v_X0_takeFirstDigit X code).2) else (if (X 3 0) = 4 then (if (v_X0_isDigit code) = true then ((v_X0_takeNextDigit X code).1, (v_X0_takeNextDigit X code).2) else ((v_X0_takeEndOfNumber X code).1, (v_X0_takeEndOfNumber X code).2)) else ((v_X0_takeSign X code 59 0).1, (v_X0_takeSign X code 59 0).2))))))
set_option maxHeartbeats 400000 in
set_option maxRecDepth 100000 in
theorem c_X0_take (l : Launch) (D : va_G) (g : Nat → ClassId) (x : Nat → Nat) (X : Nat → Nat → Int32) (code : Int32) : Wr l D (zT g) yX0_take wsX0_take (rmOf 3 62) [.ref (x 0), .int code] (zB_X0 (g 0) x X) (some (.int (bI ((v_X0_take X code).1)))) (zB_X0 (g 0) x ((v_X0_take X code).2)) := by
  refine Wr.of (cc := cX0_take) (maxL := 2) (ret := (some .boolean)) (by decide) rfl (Nat.le_of_ble_eq_true rfl) ?_
  intro p e s m below meth c ls hx hb hr hml hown hts hlocks hP hD hS hK hl
  have hown : s.vm.findClass RX0 = some m.cls := hown
  have hinX0 : ∀ w ∈ u_ws RX0 TX0 7, w ∈ wsX0_take := fun _ h9 => (List.mem_cons_of_mem _ (List.mem_append_right _ h9))
  obtain ⟨q, hq⟩ : ∃ q : Bool × (Nat → Nat → Int32), q = v_X0_take X code := ⟨_, rfl⟩
  rw [← hq]
  unfold v_X0_take at hq
  have hl : lv_has ls 2 [(0, .ref (x 0)), (1, .int code)] := hl
  refine lv_aload_n hx hb dX0_take_0 rfl (lv_at hl 0 rfl) ?_
  refine va_get (D := D) (ci := 0) (v := .int (X 3 0)) (C := RX0) (T := TX0) (N := 7) hx hb hts hinX0 hown hK.1 hP 0 rfl rfl 3 (by decide) (hts (.fieldLink RX0 30 "SaltShares$CommandText" "place" "I") (List.mem_of_getElem? (i := 1) rfl)) (fun _ h9 => h9) rfl dX0_take_1 ?_
  by_cases c_1 : (X 3 0) = 0
  · have hq := hq.trans (if_pos c_1)
    have c_1I : Int32.toInt (X 3 0) = 0 := (congrArg Int32.toInt c_1).trans (by decide)
    refine lv_tableIn (off := 36) (tgt := 40) hx hb dX0_take_4 (by rw [c_1I]; decide) (by rw [c_1I]; decide) (by rw [c_1I]; rfl) (by decide) ?_
    refine lv_aload_n hx hb dX0_take_40 rfl (lv_at hl 0 rfl) ?_
    refine lv_iload_n hx hb dX0_take_41 rfl (lv_at hl 1 rfl) ?_
    refine zcVw (ci := 0) (n := 1) (c_X0_takeKind l D g x X code) hx hb hml hown hts gX0_take_X0_takeKind rfl ⟨rfl, by decide, by decide, by decide⟩ ⟨Nat.le_of_ble_eq_true rfl, Nat.le_of_ble_eq_true rfl⟩ ⟨rfl, rfl⟩ hK hP hD rfl rfl rfl hS hl.1 rfl rfl (Nat.le_of_ble_eq_true rfl) ⟨Nat.zero_le _, Nat.zero_le _⟩ dX0_take_42 (fun H1 locs hP1 hk1 hS => ?_)
    have hD := zD_addr (ws' := zB_X0 (g 0) x ((v_X0_takeKind X code).2)) hD rfl; have hP := hP1
    clear hP1 hk1
    have hP : va_P D vwCl (zB_X0 (g 0) x ((v_X0_takeKind X code).2)) H1 := hP
    have hD : va_D (zA (zB_X0 (g 0) x X)) (zB_X0 (g 0) x ((v_X0_takeKind X code).2)) := hD
    exact zretw_z (q' := ((v_X0_takeKind X code).1)) hx hb hr hlocks dX0_take_45 hP hS (congrArg (fun z9 => z9.1) hq) (congrArg (fun z9 => zB_X0 (g 0) x z9.2) hq)
  · have hq := hq.trans (if_neg c_1)
    by_cases c_3 : (X 3 0) = 1
    · have hq := hq.trans (if_pos c_3)
      have c_3I : Int32.toInt (X 3 0) = 1 := (congrArg Int32.toInt c_3).trans (by decide)
      refine lv_tableIn (off := 42) (tgt := 46) hx hb dX0_take_4 (by rw [c_3I]; decide) (by rw [c_3I]; decide) (by rw [c_3I]; rfl) (by decide) ?_
      refine lv_aload_n hx hb dX0_take_46 rfl (lv_at hl 0 rfl) ?_
      refine lv_iload_n hx hb dX0_take_47 rfl (lv_at hl 1 rfl) ?_
      refine zcVw (ci := 0) (n := 1) (c_X0_takeBread l D g x X code) hx hb hml hown hts gX0_take_X0_takeBread rfl ⟨rfl, by decide, by decide, by decide⟩ ⟨Nat.le_of_ble_eq_true rfl, Nat.le_of_ble_eq_true rfl⟩ ⟨rfl, rfl⟩ hK hP hD rfl rfl rfl hS hl.1 rfl rfl (Nat.le_of_ble_eq_true rfl) ⟨Nat.zero_le _, Nat.zero_le _⟩ dX0_take_48 (fun H1 locs hP1 hk1 hS => ?_)
      have hD := zD_addr (ws' := zB_X0 (g 0) x ((v_X0_takeBread X code).2)) hD rfl; have hP := hP1
      clear hP1 hk1
      have hP : va_P D vwCl (zB_X0 (g 0) x ((v_X0_takeBread X code).2)) H1 := hP
      have hD : va_D (zA (zB_X0 (g 0) x X)) (zB_X0 (g 0) x ((v_X0_takeBread X code).2)) := hD
      exact zretw_z (q' := ((v_X0_takeBread X code).1)) hx hb hr hlocks dX0_take_51 hP hS (congrArg (fun z9 => z9.1) hq) (congrArg (fun z9 => zB_X0 (g 0) x z9.2) hq)
    · have hq := hq.trans (if_neg c_3)
      by_cases c_5 : (X 3 0) = 2
      · have hq := hq.trans (if_pos c_5)
        have c_5I : Int32.toInt (X 3 0) = 2 := (congrArg Int32.toInt c_5).trans (by decide)
        refine lv_tableIn (off := 48) (tgt := 52) hx hb dX0_take_4 (by rw [c_5I]; decide) (by rw [c_5I]; decide) (by rw [c_5I]; rfl) (by decide) ?_
        refine lv_aload_n hx hb dX0_take_52 rfl (lv_at hl 0 rfl) ?_
        refine lv_iload_n hx hb dX0_take_53 rfl (lv_at hl 1 rfl) ?_
        refine lv_bipush (v := 61) hx hb dX0_take_54 (by decide) ?_
        refine lv_iconst (v := 3) hx hb dX0_take_56 (by decide) ?_
        refine zcVw (ci := 0) (n := 3) (c_X0_takeSign l D g x X code 61 3) hx hb hml hown hts gX0_take_X0_takeSign rfl ⟨rfl, by decide, by decide, by decide⟩ ⟨Nat.le_of_ble_eq_true rfl, Nat.le_of_ble_eq_true rfl⟩ ⟨rfl, rfl⟩ hK hP hD rfl rfl rfl hS hl.1 rfl rfl (Nat.le_of_ble_eq_true rfl) ⟨Nat.zero_le _, Nat.zero_le _⟩ dX0_take_57 (fun H1 locs hP1 hk1 hS => ?_)
        have hD := zD_addr (ws' := zB_X0 (g 0) x ((v_X0_takeSign X code 61 3).2)) hD rfl; have hP := hP1
        clear hP1 hk1
        have hP : va_P D vwCl (zB_X0 (g 0) x ((v_X0_takeSign X code 61 3).2)) H1 := hP
        have hD : va_D (zA (zB_X0 (g 0) x X)) (zB_X0 (g 0) x ((v_X0_takeSign X code 61 3).2)) := hD
        exact zretw_z (q' := ((v_X0_takeSign X code 61 3).1)) hx hb hr hlocks dX0_take_60 hP hS (congrArg (fun z9 => z9.1) hq) (congrArg (fun z9 => zB_X0 (g 0) x z9.2) hq)
      · have hq := hq.trans (if_neg c_5)
        by_cases c_7 : (X 3 0) = 3
        · have hq := hq.trans (if_pos c_7)
          have c_7I : Int32.toInt (X 3 0) = 3 := (congrArg Int32.toInt c_7).trans (by decide)
          refine lv_tableIn (off := 57) (tgt := 61) hx hb dX0_take_4 (by rw [c_7I]; decide) (by rw [c_7I]; decide) (by rw [c_7I]; rfl) (by decide) ?_
          refine lv_aload_n hx hb dX0_take_61 rfl (lv_at hl 0 rfl) ?_
          refine lv_iload_n hx hb dX0_take_62 rfl (lv_at hl 1 rfl) ?_
          refine zcVw (ci := 0) (n := 1) (c_X0_takeFirstDigit l D g x X code) hx hb hml hown hts gX0_take_X0_takeFirstDigit rfl ⟨rfl, by decide, by decide, by decide⟩ ⟨Nat.le_of_ble_eq_true rfl, Nat.le_of_ble_eq_true rfl⟩ ⟨rfl, rfl⟩ hK hP hD rfl rfl rfl hS hl.1 rfl rfl (Nat.le_of_ble_eq_true rfl) ⟨Nat.zero_le _, Nat.zero_le _⟩ dX0_take_63 (fun H1 locs hP1 hk1 hS => ?_)
          have hD := zD_addr (ws' := zB_X0 (g 0) x ((v_X0_takeFirstDigit X code).2)) hD rfl; have hP := hP1
          clear hP1 hk1
          have hP : va_P D vwCl (zB_X0 (g 0) x ((v_X0_takeFirstDigit X code).2)) H1 := hP
          have hD : va_D (zA (zB_X0 (g 0) x X)) (zB_X0 (g 0) x ((v_X0_takeFirstDigit X code).2)) := hD
          exact zretw_z (q' := ((v_X0_takeFirstDigit X code).1)) hx hb hr hlocks dX0_take_66 hP hS (congrArg (fun z9 => z9.1) hq) (congrArg (fun z9 => zB_X0 (g 0) x z9.2) hq)
        · have hq := hq.trans (if_neg c_7)
          by_cases c_9 : (X 3 0) = 4
          · have hq := hq.trans (if_pos c_9)
            have c_9I : Int32.toInt (X 3 0) = 4 := (congrArg Int32.toInt c_9).trans (by decide)
            refine lv_tableIn (off := 63) (tgt := 67) hx hb dX0_take_4 (by rw [c_9I]; decide) (by rw [c_9I]; decide) (by rw [c_9I]; rfl) (by decide) ?_
            refine lv_iload_n hx hb dX0_take_67 rfl (lv_at hl 1 rfl) ?_
            refine zcSO (n := 1) (c_X0_isDigit l D g code) hx hb hml hown hts gX0_take_X0_isDigit rfl ⟨by decide, by decide, by decide⟩ ⟨Nat.le_of_ble_eq_true rfl, Nat.le_of_ble_eq_true rfl⟩ ⟨rfl, rfl⟩ hK (hP.sub [] rfl) hl.1 rfl rfl (Nat.le_of_ble_eq_true rfl) ⟨Nat.zero_le _, Nat.zero_le _⟩ dX0_take_68 ?_
            refine zif_eq (tgt := 82) hx hb dX0_take_71 (by decide) (fun c_11 => ?_) (fun c_11 => ?_)
            · have hq := hq.trans (zif_f c_11)
              refine lv_aload_n hx hb dX0_take_82 rfl (lv_at hl 0 rfl) ?_
              refine lv_iload_n hx hb dX0_take_83 rfl (lv_at hl 1 rfl) ?_
              refine zcVw (ci := 0) (n := 1) (c_X0_takeEndOfNumber l D g x X code) hx hb hml hown hts gX0_take_X0_takeEndOfNumber rfl ⟨rfl, by decide, by decide, by decide⟩ ⟨Nat.le_of_ble_eq_true rfl, Nat.le_of_ble_eq_true rfl⟩ ⟨rfl, rfl⟩ hK hP hD rfl rfl rfl hS hl.1 rfl rfl (Nat.le_of_ble_eq_true rfl) ⟨Nat.zero_le _, Nat.zero_le _⟩ dX0_take_84 (fun H1 locs hP1 hk1 hS => ?_)
              have hD := zD_addr (ws' := zB_X0 (g 0) x ((v_X0_takeEndOfNumber X code).2)) hD rfl; have hP := hP1
              clear hP1 hk1
              have hP : va_P D vwCl (zB_X0 (g 0) x ((v_X0_takeEndOfNumber X code).2)) H1 := hP
              have hD : va_D (zA (zB_X0 (g 0) x X)) (zB_X0 (g 0) x ((v_X0_takeEndOfNumber X code).2)) := hD
              exact zretw_z (q' := ((v_X0_takeEndOfNumber X code).1)) hx hb hr hlocks dX0_take_87 hP hS (congrArg (fun z9 => z9.1) hq) (congrArg (fun z9 => zB_X0 (g 0) x z9.2) hq)
            · have hq := hq.trans (zif_t c_11)
              refine lv_aload_n hx hb dX0_take_74 rfl (lv_at hl 0 rfl) ?_
              refine lv_iload_n hx hb dX0_take_75 rfl (lv_at hl 1 rfl) ?_
              refine zcVw (ci := 0) (n := 1) (c_X0_takeNextDigit l D g x X code) hx hb hml hown hts gX0_take_X0_takeNextDigit rfl ⟨rfl, by decide, by decide, by decide⟩ ⟨Nat.le_of_ble_eq_true rfl, Nat.le_of_ble_eq_true rfl⟩ ⟨rfl, rfl⟩ hK hP hD rfl rfl rfl hS hl.1 rfl rfl (Nat.le_of_ble_eq_true rfl) ⟨Nat.zero_le _, Nat.zero_le _⟩ dX0_take_76 (fun H1 locs hP1 hk1 hS => ?_)
              have hD := zD_addr (ws' := zB_X0 (g 0) x ((v_X0_takeNextDigit X code).2)) hD rfl; have hP := hP1
              clear hP1 hk1
              have hP : va_P D vwCl (zB_X0 (g 0) x ((v_X0_takeNextDigit X code).2)) H1 := hP
              have hD : va_D (zA (zB_X0 (g 0) x X)) (zB_X0 (g 0) x ((v_X0_takeNextDigit X code).2)) := hD
              refine lv_goto (tgt := 87) hx hb dX0_take_79 (by decide) ?_
              exact zretw_z (q' := ((v_X0_takeNextDigit X code).1)) hx hb hr hlocks dX0_take_87 hP hS (congrArg (fun z9 => z9.1) hq) (congrArg (fun z9 => zB_X0 (g 0) x z9.2) hq)
          · have hq := hq.trans (if_neg c_9)
            have c_1N : ¬ Int32.toInt (X 3 0) = 0 := lv_neT c_1 (by decide)
            have c_3N : ¬ Int32.toInt (X 3 0) = 1 := lv_neT c_3 (by decide)
            have c_5N : ¬ Int32.toInt (X 3 0) = 2 := lv_neT c_5 (by decide)
            have c_7N : ¬ Int32.toInt (X 3 0) = 3 := lv_neT c_7 (by decide)
            have c_9N : ¬ Int32.toInt (X 3 0) = 4 := lv_neT c_9 (by decide)
            refine lv_tableOut (tgt := 88) hx hb dX0_take_4 (by omega) (by decide) ?_
            refine lv_aload_n hx hb dX0_take_88 rfl (lv_at hl 0 rfl) ?_
            refine lv_iload_n hx hb dX0_take_89 rfl (lv_at hl 1 rfl) ?_
            refine lv_bipush (v := 59) hx hb dX0_take_90 (by decide) ?_
            refine lv_iconst (v := 0) hx hb dX0_take_92 (by decide) ?_
            refine zcVw (ci := 0) (n := 3) (c_X0_takeSign l D g x X code 59 0) hx hb hml hown hts gX0_take_X0_takeSign rfl ⟨rfl, by decide, by decide, by decide⟩ ⟨Nat.le_of_ble_eq_true rfl, Nat.le_of_ble_eq_true rfl⟩ ⟨rfl, rfl⟩ hK hP hD rfl rfl rfl hS hl.1 rfl rfl (Nat.le_of_ble_eq_true rfl) ⟨Nat.zero_le _, Nat.zero_le _⟩ dX0_take_93 (fun H1 locs hP1 hk1 hS => ?_)
            have hD := zD_addr (ws' := zB_X0 (g 0) x ((v_X0_takeSign X code 59 0).2)) hD rfl; have hP := hP1
            clear hP1 hk1
            have hP : va_P D vwCl (zB_X0 (g 0) x ((v_X0_takeSign X code 59 0).2)) H1 := hP
            have hD : va_D (zA (zB_X0 (g 0) x X)) (zB_X0 (g 0) x ((v_X0_takeSign X code 59 0).2)) := hD
            exact zretw_z (q' := ((v_X0_takeSign X code 59 0).1)) hx hb hr hlocks dX0_take_96 hP hS (congrArg (fun z9 => z9.1) hq) (congrArg (fun z9 => zB_X0 (g 0) x z9.2) hq)
theorem ztk_1 (X : Nat → Nat → Int32) (a b c : Int32) : (v_X0_takeSign X a b c).2 2 0 = X 2 0 := by
  unfold v_X0_takeSign; repeat' split
  all_goals rfl
theorem ztk_2 (X : Nat → Nat → Int32) (a : Int32) : (v_X0_takeKind X a).2 2 0 = X 2 0 := by
  unfold v_X0_takeKind; repeat' split
  all_goals rfl
theorem ztk_3 (X : Nat → Nat → Int32) (a : Int32) : (v_X0_takeBread X a).2 2 0 = X 2 0 := by
  unfold v_X0_takeBread; repeat' split
  all_goals rfl
theorem ztk_4 (X : Nat → Nat → Int32) (a : Int32) : (v_X0_takeFirstDigit X a).2 2 0 = X 2 0 := by
  unfold v_X0_takeFirstDigit; repeat' split
  all_goals rfl
theorem ztk_5 (X : Nat → Nat → Int32) (a : Int32) : (v_X0_takeNextDigit X a).2 2 0 = X 2 0 := by
  unfold v_X0_takeNextDigit; repeat' split
  all_goals rfl
theorem ztk_6 (X : Nat → Nat → Int32) (a : Int32) : (v_X0_takeEndOfNumber X a).2 2 0 = X 2 0 := by
  unfold v_X0_takeEndOfNumber; split <;> exact ztk_1 _ _ _ _
theorem ztake_at (X : Nat → Nat → Int32) (a : Int32) : (v_X0_take X a).2 2 0 = X 2 0 := by
  unfold v_X0_take
  repeat' split
  all_goals first | exact ztk_1 _ _ _ _ | exact ztk_2 _ _ | exact ztk_3 _ _ | exact ztk_4 _ _ | exact ztk_5 _ _ | exact ztk_6 _ _
theorem ztk_in {X : Nat → Nat → Int32} {a : Int32} (h : vp_in (X 2 0) 61) (c : ¬ 60 ≤ X 2 0) : vp_in ((zU ((v_X0_take X a).2) 2 (fun _ => ((((v_X0_take X a).2) 2 0) + 1))) 2 0) 61 := by
  rw [zU_s, ztake_at]; exact (zstep (n := 60) (by decide) h c).2.1
theorem ztk_ms {X : Nat → Nat → Int32} {a : Int32} {n : Nat} (h : vp_in (X 2 0) 61) (c : ¬ 60 ≤ X 2 0) (hn : 60 - Int32.toNatClampNeg (X 2 0) < n + 1) : 60 - Int32.toNatClampNeg ((zU ((v_X0_take X a).2) 2 (fun _ => ((((v_X0_take X a).2) 2 0) + 1))) 2 0) < n := by
  rw [zU_s, ztake_at]
  have h1 := zstep (n := 60) (by decide) h c
  omega
def v_X0_errorIndex_6  : Nat → Nat → (Nat → Nat → Int32) → Int32 × (Nat → Nat → Int32)
  | 0, _, _ => (0, (fun _ _ => 0))
  | n + 1, i, X1 => (if (X1 1 0) ≤ (nI i) then ((X1 1 0), X1) else (if 60 ≤ i then ((X1 1 0), X1) else (if ((v_X0_take X1 (X1 0 i)).1) = true then v_X0_errorIndex_6 n (i + 1) ((v_X0_take X1 (X1 0 i)).2) else ((nI i), (v_X0_take X1 (X1 0 i)).2))))
def v_X0_errorIndex (X : Nat → Nat → Int32) : Int32 × (Nat → Nat → Int32) := v_X0_errorIndex_6 61 0 (v_X0_restart X)
set_option maxHeartbeats 400000 in
set_option maxRecDepth 100000 in
theorem c_X0_errorIndex (l : Launch) (D : va_G) (g : Nat → ClassId) (x : Nat → Nat) (X : Nat → Nat → Int32) : Wr l D (zT g) yX0_errorIndex wsX0_errorIndex (rmOf 4 83) [.ref (x 0)] (zB_X0 (g 0) x X) (some (.int ((v_X0_errorIndex X).1))) (zB_X0 (g 0) x ((v_X0_errorIndex X).2)) := by
  refine Wr.of (cc := cX0_errorIndex) (maxL := 2) (ret := (some .int)) (by decide) rfl (Nat.le_of_ble_eq_true rfl) ?_
  intro p e s m below meth c ls hx hb hr hml hown hts hlocks hP hD hS hK hl
  have hown : s.vm.findClass RX0 = some m.cls := hown
  have hinX0 : ∀ w ∈ u_ws RX0 TX0 7, w ∈ wsX0_errorIndex := fun _ h9 => (List.mem_cons_of_mem _ (List.mem_append_right _ h9))
  obtain ⟨q, hq⟩ : ∃ q : Int32 × (Nat → Nat → Int32), q = v_X0_errorIndex X := ⟨_, rfl⟩
  rw [← hq]
  unfold v_X0_errorIndex at hq
  have hl : lv_has ls 2 [(0, .ref (x 0))] := hl
  refine lv_aload_n hx hb dX0_errorIndex_0 rfl (lv_at hl 0 rfl) ?_
  refine zcVw (ci := 0) (n := 0) (c_X0_restart l D g x X) hx hb hml hown hts gX0_errorIndex_X0_restart rfl ⟨rfl, by decide, by decide, by decide⟩ ⟨Nat.le_of_ble_eq_true rfl, Nat.le_of_ble_eq_true rfl⟩ ⟨rfl, rfl⟩ hK hP hD rfl rfl rfl hS hl.1 rfl rfl (Nat.le_of_ble_eq_true rfl) ⟨Nat.zero_le _, Nat.zero_le _⟩ dX0_errorIndex_1 (fun H1 locs hP1 hk1 hS => ?_)
  have hD := zD_addr (ws' := zB_X0 (g 0) x (v_X0_restart X)) hD rfl; have hP := hP1
  clear hP1 hk1
  have hP : va_P D vwCl (zB_X0 (g 0) x (v_X0_restart X)) H1 := hP
  have hD : va_D (zA (zB_X0 (g 0) x X)) (zB_X0 (g 0) x (v_X0_restart X)) := hD
  refine lv_iconst (v := 0) hx hb dX0_errorIndex_4 (by decide) ?_
  refine lv_istore_n (lv' := [(1, .int 0), (0, .ref (x 0))]) hx hb dX0_errorIndex_5 rfl hl (by decide) rfl (fun ls hl => ?_)
  have L6 : ∀ (n : Nat) (i : Nat) (X1 : Nat → Nat → Int32), (i ≤ 60) → 60 - i < n → ∀ (H : Heap) (locs : List Loc), va_P D vwCl (zB_X0 (g 0) x X1) H → va_D (zA (zB_X0 (g 0) x X)) (zB_X0 (g 0) x X1) → va_S (zA (zB_X0 (g 0) x X)) s.heap H locs → ∀ (ls : Array Slot), lv_has ls 2 [(0, .ref (x 0)), (1, .int (nI i))] → q = v_X0_errorIndex_6 n i X1 → W p l e (rmOf 4 83) s m [.ref (x 0)].toArray below meth c H locs 0 0 (MQ below (zQw D (zB_X0 (g 0) x X) (some (.int q.1)) (zB_X0 (g 0) x q.2)) [.ref (x 0)].toArray s 0 0 (zA (zB_X0 (g 0) x X))) (F0 m 6 ls []) := by
    intro n
    induction n with
    | zero => intro i X1 v6_0 hn; exact absurd hn (Nat.not_lt_zero _)
    | succ n ih6 =>
      intro i X1 v6_0 hn6 H locs hP hD hS ls hl hq
      rw [v_X0_errorIndex_6] at hq
      refine lv_iload_n hx hb dX0_errorIndex_6 rfl (lv_at hl 1 rfl) ?_
      refine lv_aload_n hx hb dX0_errorIndex_7 rfl (lv_at hl 0 rfl) ?_
      refine va_get (D := D) (ci := 0) (v := .int (X1 1 0)) (C := RX0) (T := TX0) (N := 7) hx hb hts hinX0 hown hK.1 hP 0 rfl rfl 1 (by decide) (hts (.fieldLink RX0 15 "SaltShares$CommandText" "length" "I") (List.mem_of_getElem? (i := 1) rfl)) (fun _ h9 => h9) rfl dX0_errorIndex_8 ?_
      refine lv_icmp_ge (tgt := 41) hx hb dX0_errorIndex_11 (by decide) (fun c_2 => ?_) (fun c_2 => ?_)
      · have c_2 : (X1 1 0) ≤ (nI i) := c_2
        have hq := hq.trans (if_pos c_2)
        refine lv_aload_n hx hb dX0_errorIndex_41 rfl (lv_at hl 0 rfl) ?_
        refine va_get (D := D) (ci := 0) (v := .int (X1 1 0)) (C := RX0) (T := TX0) (N := 7) hx hb hts hinX0 hown hK.1 hP 0 rfl rfl 1 (by decide) (hts (.fieldLink RX0 15 "SaltShares$CommandText" "length" "I") (List.mem_of_getElem? (i := 1) rfl)) (fun _ h9 => h9) rfl dX0_errorIndex_42 ?_
        exact zretw_i hx hb hr hlocks dX0_errorIndex_45 hP hS (congrArg (fun z9 => z9.1) hq) (congrArg (fun z9 => zB_X0 (g 0) x z9.2) hq)
      · have c_2 : ¬ ((X1 1 0) ≤ (nI i)) := c_2
        have hq := hq.trans (if_neg c_2)
        refine lv_iload_n hx hb dX0_errorIndex_14 rfl (lv_at hl 1 rfl) ?_
        refine lv_bipush (v := 60) hx hb dX0_errorIndex_15 (by decide) ?_
        refine lv_icmp_ge (tgt := 41) hx hb dX0_errorIndex_17 (by decide) (fun c_3 => ?_) (fun c_3 => ?_)
        · have c_3 : 60 ≤ i := (nI_leI (a := 60) (b := i) (by omega) (by omega)).mp c_3
          have hq := hq.trans (if_pos c_3)
          refine lv_aload_n hx hb dX0_errorIndex_41 rfl (lv_at hl 0 rfl) ?_
          refine va_get (D := D) (ci := 0) (v := .int (X1 1 0)) (C := RX0) (T := TX0) (N := 7) hx hb hts hinX0 hown hK.1 hP 0 rfl rfl 1 (by decide) (hts (.fieldLink RX0 15 "SaltShares$CommandText" "length" "I") (List.mem_of_getElem? (i := 1) rfl)) (fun _ h9 => h9) rfl dX0_errorIndex_42 ?_
          exact zretw_i hx hb hr hlocks dX0_errorIndex_45 hP hS (congrArg (fun z9 => z9.1) hq) (congrArg (fun z9 => zB_X0 (g 0) x z9.2) hq)
        · have c_3 : ¬ (60 ≤ i) := fun h9 => c_3 ((nI_leI (a := 60) (b := i) (by omega) (by omega)).mpr h9)
          have hq := hq.trans (if_neg c_3)
          refine lv_aload_n hx hb dX0_errorIndex_20 rfl (lv_at hl 0 rfl) ?_
          refine lv_aload_n hx hb dX0_errorIndex_21 rfl (lv_at hl 0 rfl) ?_
          refine va_get (D := D) (ci := 0) (v := .ref (x 1)) (C := RX0) (T := TX0) (N := 7) hx hb hts hinX0 hown hK.1 hP 0 rfl rfl 0 (by decide) (hts (.fieldLink RX0 9 "SaltShares$CommandText" "codes" "[I") (List.mem_of_getElem? (i := 2) rfl)) (fun _ h9 => h9) rfl dX0_errorIndex_22 ?_
          refine lv_iload_n hx hb dX0_errorIndex_25 rfl (lv_at hl 1 rfl) ?_
          refine z_iald (i := i) hx hb hK hP 1 0 rfl rfl (by omega) (by decide) dX0_errorIndex_26 ?_
          refine zcVw (ci := 0) (n := 1) (c_X0_take l D g x X1 (X1 0 i)) hx hb hml hown hts gX0_errorIndex_X0_take rfl ⟨rfl, by decide, by decide, by decide⟩ ⟨Nat.le_of_ble_eq_true rfl, Nat.le_of_ble_eq_true rfl⟩ ⟨rfl, rfl⟩ hK hP hD rfl rfl rfl hS hl.1 rfl rfl (Nat.le_of_ble_eq_true rfl) ⟨Nat.zero_le _, Nat.zero_le _⟩ dX0_errorIndex_27 (fun H1 locs hP1 hk1 hS => ?_)
          have hD := zD_addr (ws' := zB_X0 (g 0) x ((v_X0_take X1 (X1 0 i)).2)) hD rfl; have hP := hP1
          clear hP1 hk1
          have hP : va_P D vwCl (zB_X0 (g 0) x ((v_X0_take X1 (X1 0 i)).2)) H1 := hP
          have hD : va_D (zA (zB_X0 (g 0) x X)) (zB_X0 (g 0) x ((v_X0_take X1 (X1 0 i)).2)) := hD
          refine zif_ne (tgt := 35) hx hb dX0_errorIndex_30 (by decide) (fun c_5 => ?_) (fun c_5 => ?_)
          · have hq := hq.trans (zif_t c_5)
            refine lv_iinc (v := (nI (i + 1))) (lv' := [(1, .int (nI (i + 1))), (0, .ref (x 0))]) hx hb dX0_errorIndex_35 hl (k := 1) rfl (nI_add _ 1) (by decide) rfl (fun ls hl => ?_)
            refine lv_goto (tgt := 6) hx hb dX0_errorIndex_38 (by decide) ?_
            exact ih6 (i + 1) ((v_X0_take X1 (X1 0 i)).2) (by omega) (by omega) _ _ hP hD hS ls (lv_sub hl [1, 0] rfl) hq
          · have hq := hq.trans (zif_f c_5)
            refine lv_iload_n hx hb dX0_errorIndex_33 rfl (lv_at hl 1 rfl) ?_
            exact zretw_i hx hb hr hlocks dX0_errorIndex_34 hP hS (congrArg (fun z9 => z9.1) hq) (congrArg (fun z9 => zB_X0 (g 0) x z9.2) hq)
  exact L6 61 0 (v_X0_restart X) (by omega) (by omega) _ _ hP hD hS ls (lv_sub hl [1, 0] rfl) hq
def v_X0_isComplete (X : Nat → Nat → Int32) : Bool × (Nat → Nat → Int32) := (if ((v_X0_errorIndex X).1) = (((v_X0_errorIndex X).2) 1 0) then (if (((v_X0_errorIndex X).2) 3 0) = 5 then (true, (v_X0_errorIndex X).2) else (if (((v_X0_errorIndex X).2) 3 0) = 4 then (if (v_X0_isHoldKind ((v_X0_errorIndex X).2)) = true then (false, (v_X0_errorIndex X).2) else (true, (v_X0_errorIndex X).2)) else (false, (v_X0_errorIndex X).2))) else (false, (v_X0_errorIndex X).2))
set_option maxHeartbeats 400000 in
set_option maxRecDepth 100000 in
theorem c_X0_isComplete (l : Launch) (D : va_G) (g : Nat → ClassId) (x : Nat → Nat) (X : Nat → Nat → Int32) : Wr l D (zT g) yX0_isComplete wsX0_isComplete (rmOf 5 104) [.ref (x 0)] (zB_X0 (g 0) x X) (some (.int (bI ((v_X0_isComplete X).1)))) (zB_X0 (g 0) x ((v_X0_isComplete X).2)) := by
  refine Wr.of (cc := cX0_isComplete) (maxL := 1) (ret := (some .boolean)) (by decide) rfl (Nat.le_of_ble_eq_true rfl) ?_
  intro p e s m below meth c ls hx hb hr hml hown hts hlocks hP hD hS hK hl
  have hown : s.vm.findClass RX0 = some m.cls := hown
  have hinX0 : ∀ w ∈ u_ws RX0 TX0 7, w ∈ wsX0_isComplete := fun _ h9 => (List.mem_cons_of_mem _ (List.mem_append_right _ h9))
  obtain ⟨q, hq⟩ : ∃ q : Bool × (Nat → Nat → Int32), q = v_X0_isComplete X := ⟨_, rfl⟩
  rw [← hq]
  unfold v_X0_isComplete at hq
  have hl : lv_has ls 1 [(0, .ref (x 0))] := hl
  refine lv_aload_n hx hb dX0_isComplete_0 rfl (lv_at hl 0 rfl) ?_
  refine zcVw (ci := 0) (n := 0) (c_X0_errorIndex l D g x X) hx hb hml hown hts gX0_isComplete_X0_errorIndex rfl ⟨rfl, by decide, by decide, by decide⟩ ⟨Nat.le_of_ble_eq_true rfl, Nat.le_of_ble_eq_true rfl⟩ ⟨rfl, rfl⟩ hK hP hD rfl rfl rfl hS hl.1 rfl rfl (Nat.le_of_ble_eq_true rfl) ⟨Nat.zero_le _, Nat.zero_le _⟩ dX0_isComplete_1 (fun H1 locs hP1 hk1 hS => ?_)
  have hD := zD_addr (ws' := zB_X0 (g 0) x ((v_X0_errorIndex X).2)) hD rfl; have hP := hP1
  clear hP1 hk1
  have hP : va_P D vwCl (zB_X0 (g 0) x ((v_X0_errorIndex X).2)) H1 := hP
  have hD : va_D (zA (zB_X0 (g 0) x X)) (zB_X0 (g 0) x ((v_X0_errorIndex X).2)) := hD
  refine lv_aload_n hx hb dX0_isComplete_4 rfl (lv_at hl 0 rfl) ?_
  refine va_get (D := D) (ci := 0) (v := .int (((v_X0_errorIndex X).2) 1 0)) (C := RX0) (T := TX0) (N := 7) hx hb hts hinX0 hown hK.1 hP 0 rfl rfl 1 (by decide) (hts (.fieldLink RX0 15 "SaltShares$CommandText" "length" "I") (List.mem_of_getElem? (i := 1) rfl)) (fun _ h9 => h9) rfl dX0_isComplete_5 ?_
  refine lv_icmp_ne (tgt := 38) hx hb dX0_isComplete_8 (by decide) (fun c_2 => ?_) (fun c_2 => ?_)
  · have c_2 : ¬ (((v_X0_errorIndex X).1) = (((v_X0_errorIndex X).2) 1 0)) := c_2
    have hq := hq.trans (if_neg c_2)
    refine lv_iconst (v := 0) hx hb dX0_isComplete_38 (by decide) ?_
    exact zretw_z (q' := false) hx hb hr hlocks dX0_isComplete_39 hP hS (congrArg (fun z9 => z9.1) hq) (congrArg (fun z9 => zB_X0 (g 0) x z9.2) hq)
  · have c_2 : ((v_X0_errorIndex X).1) = (((v_X0_errorIndex X).2) 1 0) := c_2
    have hq := hq.trans (if_pos c_2)
    refine lv_aload_n hx hb dX0_isComplete_11 rfl (lv_at hl 0 rfl) ?_
    refine va_get (D := D) (ci := 0) (v := .int (((v_X0_errorIndex X).2) 3 0)) (C := RX0) (T := TX0) (N := 7) hx hb hts hinX0 hown hK.1 hP 0 rfl rfl 3 (by decide) (hts (.fieldLink RX0 30 "SaltShares$CommandText" "place" "I") (List.mem_of_getElem? (i := 2) rfl)) (fun _ h9 => h9) rfl dX0_isComplete_12 ?_
    refine lv_iconst (v := 5) hx hb dX0_isComplete_15 (by decide) ?_
    refine lv_icmp_eq (tgt := 34) hx hb dX0_isComplete_16 (by decide) (fun c_3 => ?_) (fun c_3 => ?_)
    · have c_3 : (((v_X0_errorIndex X).2) 3 0) = 5 := c_3
      have hq := hq.trans (if_pos c_3)
      refine lv_iconst (v := 1) hx hb dX0_isComplete_34 (by decide) ?_
      refine lv_goto (tgt := 39) hx hb dX0_isComplete_35 (by decide) ?_
      exact zretw_z (q' := true) hx hb hr hlocks dX0_isComplete_39 hP hS (congrArg (fun z9 => z9.1) hq) (congrArg (fun z9 => zB_X0 (g 0) x z9.2) hq)
    · have c_3 : ¬ ((((v_X0_errorIndex X).2) 3 0) = 5) := c_3
      have hq := hq.trans (if_neg c_3)
      refine lv_aload_n hx hb dX0_isComplete_19 rfl (lv_at hl 0 rfl) ?_
      refine va_get (D := D) (ci := 0) (v := .int (((v_X0_errorIndex X).2) 3 0)) (C := RX0) (T := TX0) (N := 7) hx hb hts hinX0 hown hK.1 hP 0 rfl rfl 3 (by decide) (hts (.fieldLink RX0 30 "SaltShares$CommandText" "place" "I") (List.mem_of_getElem? (i := 2) rfl)) (fun _ h9 => h9) rfl dX0_isComplete_20 ?_
      refine lv_iconst (v := 4) hx hb dX0_isComplete_23 (by decide) ?_
      refine lv_icmp_ne (tgt := 38) hx hb dX0_isComplete_24 (by decide) (fun c_4 => ?_) (fun c_4 => ?_)
      · have c_4 : ¬ ((((v_X0_errorIndex X).2) 3 0) = 4) := c_4
        have hq := hq.trans (if_neg c_4)
        refine lv_iconst (v := 0) hx hb dX0_isComplete_38 (by decide) ?_
        exact zretw_z (q' := false) hx hb hr hlocks dX0_isComplete_39 hP hS (congrArg (fun z9 => z9.1) hq) (congrArg (fun z9 => zB_X0 (g 0) x z9.2) hq)
      · have c_4 : (((v_X0_errorIndex X).2) 3 0) = 4 := c_4
        have hq := hq.trans (if_pos c_4)
        refine lv_aload_n hx hb dX0_isComplete_27 rfl (lv_at hl 0 rfl) ?_
        refine zcV (ci := 0) (n := 0) (c_X0_isHoldKind l D g x ((v_X0_errorIndex X).2)) hx hb hml hown hts gX0_isComplete_X0_isHoldKind rfl ⟨rfl, by decide, by decide, by decide⟩ ⟨Nat.le_of_ble_eq_true rfl, Nat.le_of_ble_eq_true rfl⟩ ⟨rfl, rfl⟩ hK hP rfl rfl rfl hl.1 rfl rfl (Nat.le_of_ble_eq_true rfl) ⟨Nat.zero_le _, Nat.zero_le _⟩ dX0_isComplete_28 ?_
        refine zif_ne (tgt := 38) hx hb dX0_isComplete_31 (by decide) (fun c_6 => ?_) (fun c_6 => ?_)
        · have hq := hq.trans (zif_t c_6)
          refine lv_iconst (v := 0) hx hb dX0_isComplete_38 (by decide) ?_
          exact zretw_z (q' := false) hx hb hr hlocks dX0_isComplete_39 hP hS (congrArg (fun z9 => z9.1) hq) (congrArg (fun z9 => zB_X0 (g 0) x z9.2) hq)
        · have hq := hq.trans (zif_f c_6)
          refine lv_iconst (v := 1) hx hb dX0_isComplete_34 (by decide) ?_
          refine lv_goto (tgt := 39) hx hb dX0_isComplete_35 (by decide) ?_
          exact zretw_z (q' := true) hx hb hr hlocks dX0_isComplete_39 hP hS (congrArg (fun z9 => z9.1) hq) (congrArg (fun z9 => zB_X0 (g 0) x z9.2) hq)
