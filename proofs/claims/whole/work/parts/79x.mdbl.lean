def v_Jxe99ae_isNaN_b9ae7 (dd : UInt64) : Bool := (if (Op.cmpValue (FP.dcmp dd dd) .l) = 0 then false else true)
set_option maxHeartbeats 400000 in
set_option maxRecDepth 100000 in
theorem c_Jxe99ae_isNaN_b9ae7 (l : Launch) (D : va_G) (g : Nat → ClassId) (dd : UInt64) : Rd l D (zT g) yJxe99ae_isNaN_b9ae7 wsJxe99ae_isNaN_b9ae7 (rmOf 0 0) [.double dd] ([]) (.int (bI (v_Jxe99ae_isNaN_b9ae7 dd))) := by
  refine Rd.of (cc := cJxe99ae_isNaN_b9ae7) (maxL := 2) (ret := (some .boolean)) (by decide) rfl (Nat.le_of_ble_eq_true rfl) ?_
  intro p e s m below meth c ls hx hb hr hml hown hts hlocks hP hK hl
  have hown : s.vm.findClass RJxe99ae = some m.cls := hown
  obtain ⟨q, hq⟩ : ∃ q : Bool, q = v_Jxe99ae_isNaN_b9ae7 dd := ⟨_, rfl⟩
  rw [← hq]
  unfold v_Jxe99ae_isNaN_b9ae7 at hq
  have hl : lv_has ls 2 [(0, .double dd)] := hl
  refine lv_dload_n hx hb dJxe99ae_isNaN_b9ae7_0 rfl (lv_at hl 0 rfl) ?_
  refine lv_dload_n hx hb dJxe99ae_isNaN_b9ae7_1 rfl (lv_at hl 0 rfl) ?_
  refine lv_dcmp hx hb dJxe99ae_isNaN_b9ae7_2 ?_
  refine lv_if_eq (tgt := 10) hx hb dJxe99ae_isNaN_b9ae7_3 (by decide) (fun c_1 => ?_) (fun c_1 => ?_)
  · have c_1 : (Op.cmpValue (FP.dcmp dd dd) .l) = 0 := c_1
    have hq := hq.trans (if_pos c_1)
    refine lv_iconst (v := 0) hx hb dJxe99ae_isNaN_b9ae7_10 (by decide) ?_
    exact zret_z (q' := false) hx hb hr hlocks dJxe99ae_isNaN_b9ae7_11 hq
  · have c_1 : ¬ ((Op.cmpValue (FP.dcmp dd dd) .l) = 0) := c_1
    have hq := hq.trans (if_neg c_1)
    refine lv_iconst (v := 1) hx hb dJxe99ae_isNaN_b9ae7_6 (by decide) ?_
    refine lv_goto (tgt := 11) hx hb dJxe99ae_isNaN_b9ae7_7 (by decide) ?_
    exact zret_z (q' := true) hx hb hr hlocks dJxe99ae_isNaN_b9ae7_11 hq
def v_Jxe99ae_doubleToLongBits_ccdee (dd : UInt64) : Int64 := (if (v_Jxe99ae_isNaN_b9ae7 dd) = true then 9221120237041090560 else UInt64.toInt64 dd)
set_option maxHeartbeats 400000 in
set_option maxRecDepth 100000 in
theorem c_Jxe99ae_doubleToLongBits_ccdee (l : Launch) (D : va_G) (g : Nat → ClassId) (dd : UInt64) : Rd l D (zT g) yJxe99ae_doubleToLongBits_ccdee wsJxe99ae_doubleToLongBits_ccdee (rmOf 1 21) [.double dd] ([]) (.long (v_Jxe99ae_doubleToLongBits_ccdee dd)) := by
  refine Rd.of (cc := cJxe99ae_doubleToLongBits_ccdee) (maxL := 2) (ret := (some .long)) (by decide) rfl (Nat.le_of_ble_eq_true rfl) ?_
  intro p e s m below meth c ls hx hb hr hml hown hts hlocks hP hK hl
  have hown : s.vm.findClass RJxe99ae = some m.cls := hown
  obtain ⟨q, hq⟩ : ∃ q : Int64, q = v_Jxe99ae_doubleToLongBits_ccdee dd := ⟨_, rfl⟩
  rw [← hq]
  unfold v_Jxe99ae_doubleToLongBits_ccdee at hq
  have hl : lv_has ls 2 [(0, .double dd)] := hl
  refine lv_dload_n hx hb dJxe99ae_doubleToLongBits_ccdee_0 rfl (lv_at hl 0 rfl) ?_
  refine zcSO (n := 1) (c_Jxe99ae_isNaN_b9ae7 l D g dd) hx hb hml hown hts gJxe99ae_doubleToLongBits_ccdee_Jxe99ae_isNaN_b9ae7 rfl ⟨by decide, by decide, by decide⟩ ⟨Nat.le_of_ble_eq_true rfl, Nat.le_of_ble_eq_true rfl⟩ ⟨rfl, rfl⟩ hK hP hl.1 rfl rfl (Nat.le_of_ble_eq_true rfl) ⟨Nat.zero_le _, Nat.zero_le _⟩ dJxe99ae_doubleToLongBits_ccdee_1 ?_
  refine zif_ne (tgt := 12) hx hb dJxe99ae_doubleToLongBits_ccdee_4 (by decide) (fun c_2 => ?_) (fun c_2 => ?_)
  · have hq := hq.trans (zif_t c_2)
    refine lv_ldc2 (v := 9221120237041090560) hx hb hown (hts (.constantLong RJxe99ae 137 (9221120237041090560)) (List.mem_of_getElem? (i := 5) rfl)) dJxe99ae_doubleToLongBits_ccdee_12 ?_
    exact zret_l hx hb hr hlocks dJxe99ae_doubleToLongBits_ccdee_15 hq
  · have hq := hq.trans (zif_f c_2)
    refine lv_dload_n hx hb dJxe99ae_doubleToLongBits_ccdee_7 rfl (lv_at hl 0 rfl) ?_
    refine vn_d2l hx hb (hml.trans hl.1.symm) hown (hts (.methodLink RJxe99ae 134 ⟨"java/lang/Double", "doubleToRawLongBits", "(D)J"⟩) (List.mem_of_getElem? (i := 1) rfl)) (hts (.native ⟨"java/lang/Double", "doubleToRawLongBits", "(D)J"⟩) (List.mem_of_getElem? (i := 2) rfl)) (hts (.static ⟨"java/lang/Double", "doubleToRawLongBits", "(D)J"⟩) (List.mem_of_getElem? (i := 3) rfl)) (hts (.initialized "java/lang/Double") (List.mem_of_getElem? (i := 4) rfl)) (Nat.le_of_ble_eq_true rfl) (Nat.le_of_ble_eq_true rfl) dJxe99ae_doubleToLongBits_ccdee_8 ?_
    exact zret_l hx hb hr hlocks dJxe99ae_doubleToLongBits_ccdee_11 hq
