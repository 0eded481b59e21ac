theorem zTh_ok {a b : Option String} (h : (if a = none then b else a) = none) : a = none ∧ b = none := by
  by_cases c : a = none
  · rw [if_pos c] at h; exact ⟨c, h⟩
  · rw [if_neg c] at h; exact absurd h c
def e_X4_needBread (T : Nat → Nat → Int32) (xb : Int32) : Option String := (if (v_X3_hasBread T xb) = true then none else some zIO)
set_option maxHeartbeats 400000 in
set_option maxRecDepth 100000 in
theorem c_X4_needBread (l : Launch) (D : va_G) (g : Nat → ClassId) (f : Nat → Nat) (h : Nat → Nat) (u : Nat → Nat) (o : Nat → Nat) (x : Nat → Nat) (T : Nat → Nat → Int32) (xb : Int32) (he : e_X4_needBread T xb = none) : Nd l D (zT g) yX4_needBread wsX4_needBread (rmOf 1 21) [.ref (f 0), .int xb] ((zB_X4 f h u o x) ++ (zB_X3 (g 0) h T)) := by
  refine Nd.of (cc := cX4_needBread) (maxL := 2) (by decide) rfl (Nat.le_of_ble_eq_true rfl) ?_
  intro p e s m below meth c ls hx hb hr hml hown hts hlocks hP hK hl
  have hown : s.vm.findClass RX4 = some m.cls := hown
  have hinX4 : ∀ w ∈ u_ws RX4 TX4 4, w ∈ wsX4_needBread := fun _ h9 => (List.mem_cons_of_mem _ (List.mem_append_left _ (List.mem_append_left _ (List.mem_append_right _ h9))))
  unfold e_X4_needBread at he
  have hl : lv_has ls 2 [(0, .ref (f 0)), (1, .int xb)] := hl
  refine lv_aload_n hx hb dX4_needBread_0 rfl (lv_at hl 0 rfl) ?_
  refine va_get (D := D) (ci := 4) (v := .ref (h 0)) (C := RX4) (T := TX4) (N := 4) hx hb hts hinX4 hown hK.1 hP 0 rfl rfl 0 (by decide) (hts (.fieldLink RX4 10 "SaltShares" "town" "LSaltShares$Town;") (List.mem_of_getElem? (i := 3) rfl)) (fun _ h9 => h9) rfl dX4_needBread_1 ?_
  refine lv_iload_n hx hb dX4_needBread_4 rfl (lv_at hl 1 rfl) ?_
  refine zcV (ci := 3) (n := 1) (c_X3_hasBread l D g h T xb) hx hb hml hown hts gX4_needBread_X3_hasBread rfl ⟨rfl, by decide, by decide, by decide⟩ ⟨Nat.le_of_ble_eq_true rfl, Nat.le_of_ble_eq_true rfl⟩ ⟨rfl, rfl⟩ hK (hP.sub [1, 2, 3, 4, 5, 6, 7, 8, 9, 10, 11] rfl) rfl rfl rfl hl.1 rfl rfl (Nat.le_of_ble_eq_true rfl) ⟨Nat.zero_le _, Nat.zero_le _⟩ dX4_needBread_5 ?_
  refine zif_ne (tgt := 22) hx hb dX4_needBread_8 (by decide) (fun c_2 => ?_) (fun c_2 => ?_)
  · have he := (zif_t c_2).symm.trans he
    exact znd_v hx hb hr hlocks dX4_needBread_22
  · have he := (zif_f c_2).symm.trans he
    cases he
def e_X4_needOpen (T : Nat → Nat → Int32) (xb : Int32) : Option String := (if (v_X3_isOpenBread T xb) = true then none else some zIS)
set_option maxHeartbeats 400000 in
set_option maxRecDepth 100000 in
theorem c_X4_needOpen (l : Launch) (D : va_G) (g : Nat → ClassId) (f : Nat → Nat) (h : Nat → Nat) (u : Nat → Nat) (o : Nat → Nat) (x : Nat → Nat) (T : Nat → Nat → Int32) (xb : Int32) (he : e_X4_needOpen T xb = none) : Nd l D (zT g) yX4_needOpen wsX4_needOpen (rmOf 2 42) [.ref (f 0), .int xb] ((zB_X4 f h u o x) ++ (zB_X3 (g 0) h T)) := by
  refine Nd.of (cc := cX4_needOpen) (maxL := 2) (by decide) rfl (Nat.le_of_ble_eq_true rfl) ?_
  intro p e s m below meth c ls hx hb hr hml hown hts hlocks hP hK hl
  have hown : s.vm.findClass RX4 = some m.cls := hown
  have hinX4 : ∀ w ∈ u_ws RX4 TX4 4, w ∈ wsX4_needOpen := fun _ h9 => (List.mem_cons_of_mem _ (List.mem_append_left _ (List.mem_append_left _ (List.mem_append_right _ h9))))
  unfold e_X4_needOpen at he
  have hl : lv_has ls 2 [(0, .ref (f 0)), (1, .int xb)] := hl
  refine lv_aload_n hx hb dX4_needOpen_0 rfl (lv_at hl 0 rfl) ?_
  refine va_get (D := D) (ci := 4) (v := .ref (h 0)) (C := RX4) (T := TX4) (N := 4) hx hb hts hinX4 hown hK.1 hP 0 rfl rfl 0 (by decide) (hts (.fieldLink RX4 10 "SaltShares" "town" "LSaltShares$Town;") (List.mem_of_getElem? (i := 3) rfl)) (fun _ h9 => h9) rfl dX4_needOpen_1 ?_
  refine lv_iload_n hx hb dX4_needOpen_4 rfl (lv_at hl 1 rfl) ?_
  refine zcV (ci := 3) (n := 1) (c_X3_isOpenBread l D g h T xb) hx hb hml hown hts gX4_needOpen_X3_isOpenBread rfl ⟨rfl, by decide, by decide, by decide⟩ ⟨Nat.le_of_ble_eq_true rfl, Nat.le_of_ble_eq_true rfl⟩ ⟨rfl, rfl⟩ hK (hP.sub [1, 2, 3, 4, 5, 6, 7, 8, 9, 10, 11] rfl) rfl rfl rfl hl.1 rfl rfl (Nat.le_of_ble_eq_true rfl) ⟨Nat.zero_le _, Nat.zero_le _⟩ dX4_needOpen_5 ?_
  refine zif_ne (tgt := 22) hx hb dX4_needOpen_8 (by decide) (fun c_2 => ?_) (fun c_2 => ?_)
  · have he := (zif_t c_2).symm.trans he
    exact znd_v hx hb hr hlocks dX4_needOpen_22
  · have he := (zif_f c_2).symm.trans he
    cases he
def e_X4_needPerson (xp : Int32) : Option String := (if xp < 0 then some zIO else (if xp < 150 then none else some zIO))
set_option maxHeartbeats 400000 in
set_option maxRecDepth 100000 in
theorem c_X4_needPerson (l : Launch) (D : va_G) (g : Nat → ClassId) (xp : Int32) (he : e_X4_needPerson xp = none) : Nd l D (zT g) yX4_needPerson wsX4_needPerson (rmOf 0 0) [.int xp] ([]) := by
  refine Nd.of (cc := cX4_needPerson) (maxL := 1) (by decide) rfl (Nat.le_of_ble_eq_true rfl) ?_
  intro p e s m below meth c ls hx hb hr hml hown hts hlocks hP hK hl
  have hown : s.vm.findClass RX4 = some m.cls := hown
  unfold e_X4_needPerson at he
  have hl : lv_has ls 1 [(0, .int xp)] := hl
  refine lv_iload_n hx hb dX4_needPerson_0 rfl (lv_at hl 0 rfl) ?_
  refine lv_if_lt (tgt := 11) hx hb dX4_needPerson_1 (by decide) (fun c_1 => ?_) (fun c_1 => ?_)
  · have c_1 : xp < 0 := c_1
    have he := (if_pos c_1).symm.trans he
    cases he
  · have c_1 : ¬ (xp < 0) := c_1
    have he := (if_neg c_1).symm.trans he
    refine lv_iload_n hx hb dX4_needPerson_4 rfl (lv_at hl 0 rfl) ?_
    refine lv_sipush (v := 150) hx hb dX4_needPerson_5 (by decide) ?_
    refine lv_icmp_lt (tgt := 22) hx hb dX4_needPerson_8 (by decide) (fun c_2 => ?_) (fun c_2 => ?_)
    · have c_2 : xp < 150 := c_2
      have he := (if_pos c_2).symm.trans he
      exact znd_v hx hb hr hlocks dX4_needPerson_22
    · have c_2 : ¬ (xp < 150) := c_2
      have he := (if_neg c_2).symm.trans he
      cases he
def e_X4_needGroup (xg : Int32) : Option String := (if (v_X4_isGroup xg) = true then none else some zIO)
set_option maxHeartbeats 400000 in
set_option maxRecDepth 100000 in
theorem c_X4_needGroup (l : Launch) (D : va_G) (g : Nat → ClassId) (xg : Int32) (he : e_X4_needGroup xg = none) : Nd l D (zT g) yX4_needGroup wsX4_needGroup (rmOf 1 20) [.int xg] ([]) := by
  refine Nd.of (cc := cX4_needGroup) (maxL := 1) (by decide) rfl (Nat.le_of_ble_eq_true rfl) ?_
  intro p e s m below meth c ls hx hb hr hml hown hts hlocks hP hK hl
  have hown : s.vm.findClass RX4 = some m.cls := hown
  unfold e_X4_needGroup at he
  have hl : lv_has ls 1 [(0, .int xg)] := hl
  refine lv_iload_n hx hb dX4_needGroup_0 rfl (lv_at hl 0 rfl) ?_
  refine zcSO (n := 1) (c_X4_isGroup l D g xg) hx hb hml hown hts gX4_needGroup_X4_isGroup rfl ⟨by decide, by decide, by decide⟩ ⟨Nat.le_of_ble_eq_true rfl, Nat.le_of_ble_eq_true rfl⟩ ⟨rfl, rfl⟩ hK hP hl.1 rfl rfl (Nat.le_of_ble_eq_true rfl) ⟨Nat.zero_le _, Nat.zero_le _⟩ dX4_needGroup_1 ?_
  refine zif_ne (tgt := 17) hx hb dX4_needGroup_4 (by decide) (fun c_2 => ?_) (fun c_2 => ?_)
  · have he := (zif_t c_2).symm.trans he
    exact znd_v hx hb hr hlocks dX4_needGroup_17
  · have he := (zif_f c_2).symm.trans he
    cases he
def e_X4_needSalt (xs : Int32) : Option String := (if xs < 0 then some zIA else (if xs ≤ 9999 then none else some zIA))
set_option maxHeartbeats 400000 in
set_option maxRecDepth 100000 in
theorem c_X4_needSalt (l : Launch) (D : va_G) (g : Nat → ClassId) (xs : Int32) (he : e_X4_needSalt xs = none) : Nd l D (zT g) yX4_needSalt wsX4_needSalt (rmOf 0 0) [.int xs] ([]) := by
  refine Nd.of (cc := cX4_needSalt) (maxL := 1) (by decide) rfl (Nat.le_of_ble_eq_true rfl) ?_
  intro p e s m below meth c ls hx hb hr hml hown hts hlocks hP hK hl
  have hown : s.vm.findClass RX4 = some m.cls := hown
  unfold e_X4_needSalt at he
  have hl : lv_has ls 1 [(0, .int xs)] := hl
  refine lv_iload_n hx hb dX4_needSalt_0 rfl (lv_at hl 0 rfl) ?_
  refine lv_if_lt (tgt := 11) hx hb dX4_needSalt_1 (by decide) (fun c_1 => ?_) (fun c_1 => ?_)
  · have c_1 : xs < 0 := c_1
    have he := (if_pos c_1).symm.trans he
    cases he
  · have c_1 : ¬ (xs < 0) := c_1
    have he := (if_neg c_1).symm.trans he
    refine lv_iload_n hx hb dX4_needSalt_4 rfl (lv_at hl 0 rfl) ?_
    refine lv_sipush (v := 9999) hx hb dX4_needSalt_5 (by decide) ?_
    refine lv_icmp_le (tgt := 22) hx hb dX4_needSalt_8 (by decide) (fun c_2 => ?_) (fun c_2 => ?_)
    · have c_2 : xs ≤ 9999 := c_2
      have he := (if_pos c_2).symm.trans he
      exact znd_v hx hb hr hlocks dX4_needSalt_22
    · have c_2 : ¬ (xs ≤ 9999) := c_2
      have he := (if_neg c_2).symm.trans he
      cases he
def e_X4_needShare (xs : Int32) : Option String := (if xs < 0 then some zIA else (if xs ≤ 100 then none else some zIA))
set_option maxHeartbeats 400000 in
set_option maxRecDepth 100000 in
theorem c_X4_needShare (l : Launch) (D : va_G) (g : Nat → ClassId) (xs : Int32) (he : e_X4_needShare xs = none) : Nd l D (zT g) yX4_needShare wsX4_needShare (rmOf 0 0) [.int xs] ([]) := by
  refine Nd.of (cc := cX4_needShare) (maxL := 1) (by decide) rfl (Nat.le_of_ble_eq_true rfl) ?_
  intro p e s m below meth c ls hx hb hr hml hown hts hlocks hP hK hl
  have hown : s.vm.findClass RX4 = some m.cls := hown
  unfold e_X4_needShare at he
  have hl : lv_has ls 1 [(0, .int xs)] := hl
  refine lv_iload_n hx hb dX4_needShare_0 rfl (lv_at hl 0 rfl) ?_
  refine lv_if_lt (tgt := 10) hx hb dX4_needShare_1 (by decide) (fun c_1 => ?_) (fun c_1 => ?_)
  · have c_1 : xs < 0 := c_1
    have he := (if_pos c_1).symm.trans he
    cases he
  · have c_1 : ¬ (xs < 0) := c_1
    have he := (if_neg c_1).symm.trans he
    refine lv_iload_n hx hb dX4_needShare_4 rfl (lv_at hl 0 rfl) ?_
    refine lv_bipush (v := 100) hx hb dX4_needShare_5 (by decide) ?_
    refine lv_icmp_le (tgt := 21) hx hb dX4_needShare_7 (by decide) (fun c_2 => ?_) (fun c_2 => ?_)
    · have c_2 : xs ≤ 100 := c_2
      have he := (if_pos c_2).symm.trans he
      exact znd_v hx hb hr hlocks dX4_needShare_21
    · have c_2 : ¬ (xs ≤ 100) := c_2
      have he := (if_neg c_2).symm.trans he
      cases he
theorem znb {T : Nat → Nat → Int32} {x : Int32} (h : e_X4_needBread T x = none) : vp_in x 8 := by
  unfold e_X4_needBread at h
  by_cases c : v_X3_hasBread T x = true
  · exact zin_b c
  · rw [if_neg c] at h; cases h
theorem znp {x : Int32} (h : e_X4_needPerson x = none) : vp_in x 150 := by
  unfold e_X4_needPerson at h
  by_cases c1 : x < 0
  · rw [if_pos c1] at h; cases h
  · rw [if_neg c1] at h
    by_cases c2 : x < 150
    · have e : (150 : Int32).toInt = 150 := by decide
      have := Int32.lt_iff_toInt_lt.mp c2
      exact zin_dn c1 (by omega)
    · rw [if_neg c2] at h; cases h
theorem zng {x : Int32} (h : e_X4_needGroup x = none) : vp_in x 3 := by
  unfold e_X4_needGroup at h
  by_cases c : v_X4_isGroup x = true
  · exact zin_g c
  · rw [if_neg c] at h; cases h
theorem zns {x : Int32} (h : e_X4_needSalt x = none) : vp_in x 10000 := by
  unfold e_X4_needSalt at h
  by_cases c1 : x < 0
  · rw [if_pos c1] at h; cases h
  · rw [if_neg c1] at h
    by_cases c2 : x ≤ 9999
    · have e : (9999 : Int32).toInt = 9999 := by decide
      have := Int32.le_iff_toInt_le.mp c2
      exact zin_dn c1 (by omega)
    · rw [if_neg c2] at h; cases h
theorem zlt8b {x : Int32} (h : vp_in x 9) (c : x < 8) : vp_in x 8 := by
  have e : (8 : Int32).toInt = 8 := by decide
  have := Int32.lt_iff_toInt_lt.mp c
  exact vp_in_iff.mpr ⟨(vp_in_iff.mp h).1, by omega⟩
