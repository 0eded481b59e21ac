theorem zin_f {x : Int32} {f : Nat} (c : ¬ x < nI f) (hf : f ≤ 200) (h : x.toInt < (f : Int) + 100) : vp_in x 300 := by
  have h2 : ¬ x.toInt < (nI f).toInt := fun q => c (Int32.lt_iff_toInt_lt.mpr q)
  rw [nI_toInt (by omega)] at h2
  exact vp_in_iff.mpr ⟨by omega, by omega⟩
theorem zdecf {x : Int32} {f : Nat} (c : ¬ x < nI f) (hf : f < 2 ^ 31) : (x + (-1)).toInt = x.toInt - 1 ∧ (f : Int) ≤ x.toInt := by
  have h2 : ¬ x.toInt < (nI f).toInt := fun q => c (Int32.lt_iff_toInt_lt.mpr q)
  rw [nI_toInt hf] at h2
  have h3 : ¬ x < 0 := fun q => by
    have h4 := Int32.lt_iff_toInt_lt.mp q
    have h5 : (0 : Int32).toInt = 0 := by decide
    omega
  exact ⟨(zdec h3).1, by omega⟩
def v_X3_addBread (T : Nat → Nat → Int32) (gr : Int32) (sal : Int32) (sti : Bool) : Int32 × (Nat → Nat → Int32) := (if (T 0 0) < 8 then (if sti = true then ((T 0 0), zU (zU (zU (zU (zU (zU (zU T 3 (fun _ => ((T 3 0) ||| ((1 : Int32) <<< ((T 0 0) &&& 31))))) 4 (fun _ => ((T 4 0) ||| ((1 : Int32) <<< ((T 0 0) &&& 31))))) 5 (upd (T 5) (Int32.toNatClampNeg (T 0 0)) gr)) 6 (upd (T 6) (Int32.toNatClampNeg (T 0 0)) sal)) 7 (upd (T 7) (Int32.toNatClampNeg (T 0 0)) 0)) 8 (upd (T 8) (Int32.toNatClampNeg (T 0 0)) 0)) 0 (fun _ => ((T 0 0) + 1))) else ((T 0 0), zU (zU (zU (zU (zU (zU (zU T 3 (fun _ => ((T 3 0) ||| ((1 : Int32) <<< ((T 0 0) &&& 31))))) 4 (fun _ => ((T 4 0) &&& (((1 : Int32) <<< ((T 0 0) &&& 31)) ^^^ (-1))))) 5 (upd (T 5) (Int32.toNatClampNeg (T 0 0)) gr)) 6 (upd (T 6) (Int32.toNatClampNeg (T 0 0)) sal)) 7 (upd (T 7) (Int32.toNatClampNeg (T 0 0)) 0)) 8 (upd (T 8) (Int32.toNatClampNeg (T 0 0)) 0)) 0 (fun _ => ((T 0 0) + 1)))) else ((-1), T))
set_option maxHeartbeats 400000 in
set_option maxRecDepth 100000 in
theorem c_X3_addBread (l : Launch) (D : va_G) (g : Nat → ClassId) (h : Nat → Nat) (T : Nat → Nat → Int32) (gr : Int32) (sal : Int32) (sti : Bool) (z0 : vp_in (T 0 0) 8) : Wr l D (zT g) yX3_addBread wsX3_addBread (rmOf 0 0) [.ref (h 0), .int gr, .int sal, .int (bI sti)] (zB_X3 (g 0) h T) (some (.int ((v_X3_addBread T gr sal sti).1))) (zB_X3 (g 0) h ((v_X3_addBread T gr sal sti).2)) := by
  refine Wr.of (cc := cX3_addBread) (maxL := 6) (ret := (some .int)) (by decide) rfl (Nat.le_of_ble_eq_true rfl) ?_
  intro p e s m below meth c ls hx hb hr hml hown hts hlocks hP hD hS hK hl
  have hown : s.vm.findClass RX3 = some m.cls := hown
  have hinX3 : ∀ w ∈ u_ws RX3 TX3 15, w ∈ wsX3_addBread := fun _ h9 => (List.mem_cons_of_mem _ (List.mem_append_right _ h9))
  obtain ⟨q, hq⟩ : ∃ q : Int32 × (Nat → Nat → Int32), q = v_X3_addBread T gr sal sti := ⟨_, rfl⟩
  rw [← hq]
  unfold v_X3_addBread at hq
  have hl : lv_has ls 6 [(0, .ref (h 0)), (1, .int gr), (2, .int sal), (3, .int (bI sti))] := hl
  refine lv_aload_n hx hb dX3_addBread_0 rfl (lv_at hl 0 rfl) ?_
  refine va_get (D := D) (ci := 3) (v := .int (T 0 0)) (C := RX3) (T := TX3) (N := 15) hx hb hts hinX3 hown hK.1 hP 0 rfl rfl 0 (by decide) (hts (.fieldLink RX3 42 "SaltShares$Town" "breads" "I") (List.mem_of_getElem? (i := 1) rfl)) (fun _ h9 => h9) rfl dX3_addBread_1 ?_
  refine lv_istore (lv' := [(4, .int (T 0 0)), (0, .ref (h 0)), (1, .int gr), (2, .int sal), (3, .int (bI sti))]) hx hb dX3_addBread_4 hl (by decide) rfl (fun ls hl => ?_)
  refine lv_iload hx hb dX3_addBread_6 (lv_at hl 0 rfl) ?_
  refine lv_bipush (v := 8) hx hb dX3_addBread_8 (by decide) ?_
  refine lv_icmp_lt (tgt := 15) hx hb dX3_addBread_10 (by decide) (fun c_1 => ?_) (fun c_1 => ?_)
  · have c_1 : (T 0 0) < 8 := c_1
    have hq := hq.trans (if_pos c_1)
    refine lv_iconst (v := 1) hx hb dX3_addBread_15 (by decide) ?_
    refine lv_iload hx hb dX3_addBread_16 (lv_at hl 0 rfl) ?_
    refine lv_ishl hx hb dX3_addBread_18 ?_
    refine lv_istore (lv' := [(5, .int ((1 : Int32) <<< ((T 0 0) &&& 31))), (4, .int (T 0 0)), (0, .ref (h 0)), (1, .int gr), (2, .int sal), (3, .int (bI sti))]) hx hb dX3_addBread_19 hl (by decide) rfl (fun ls hl => ?_)
    refine lv_aload_n hx hb dX3_addBread_21 rfl (lv_at hl 2 rfl) ?_
    refine lv_dup hx hb dX3_addBread_22 rfl ?_
    refine va_get (D := D) (ci := 3) (v := .int (T 3 0)) (C := RX3) (T := TX3) (N := 15) hx hb hts hinX3 hown hK.1 hP 0 rfl rfl 3 (by decide) (hts (.fieldLink RX3 52 "SaltShares$Town" "openOnes" "I") (List.mem_of_getElem? (i := 2) rfl)) (fun _ h9 => h9) rfl dX3_addBread_23 ?_
    refine lv_iload hx hb dX3_addBread_26 (lv_at hl 0 rfl) ?_
    refine lv_ior hx hb dX3_addBread_28 ?_
    refine va_put (D := D) (ci := 3) (v := .int ((T 3 0) ||| ((1 : Int32) <<< ((T 0 0) &&& 31)))) (ty := .int) (C := RX3) (T := TX3) (N := 15) hx hb hts hinX3 tyX3 tyX3_ok nmX3 hown hK.1 hP hD hS 0 rfl rfl 3 (by decide) (hts (.fieldLink RX3 52 "SaltShares$Town" "openOnes" "I") (List.mem_of_getElem? (i := 2) rfl)) (fun _ h9 => h9) rfl (by decide +kernel) rfl rfl (Nat.le_of_ble_eq_true rfl) dX3_addBread_29 (fun H locs hP hD hS => ?_)
    have hP : va_P D vwCl (zB_X3 (g 0) h (zU T 3 (fun _ => ((T 3 0) ||| ((1 : Int32) <<< ((T 0 0) &&& 31)))))) H := hP
    have hD : va_D (zA (zB_X3 (g 0) h T)) (zB_X3 (g 0) h (zU T 3 (fun _ => ((T 3 0) ||| ((1 : Int32) <<< ((T 0 0) &&& 31)))))) := hD
    refine lv_aload_n hx hb dX3_addBread_32 rfl (lv_at hl 2 rfl) ?_
    refine lv_iload_n hx hb dX3_addBread_33 rfl (lv_at hl 5 rfl) ?_
    refine zif_eq (tgt := 47) hx hb dX3_addBread_34 (by decide) (fun c_2 => ?_) (fun c_2 => ?_)
    · have hq := hq.trans (zif_f c_2)
      refine lv_aload_n hx hb dX3_addBread_47 rfl (lv_at hl 2 rfl) ?_
      refine va_get (D := D) (ci := 3) (v := .int (T 4 0)) (C := RX3) (T := TX3) (N := 15) hx hb hts hinX3 hown hK.1 hP 0 rfl rfl 4 (by decide) (hts (.fieldLink RX3 55 "SaltShares$Town" "stickyOnes" "I") (List.mem_of_getElem? (i := 3) rfl)) (fun _ h9 => h9) rfl dX3_addBread_48 ?_
      refine lv_iload hx hb dX3_addBread_51 (lv_at hl 0 rfl) ?_
      refine lv_iconst (v := (-1)) hx hb dX3_addBread_53 (by decide) ?_
      refine lv_ixor hx hb dX3_addBread_54 ?_
      refine lv_iand hx hb dX3_addBread_55 ?_
      refine va_put (D := D) (ci := 3) (v := .int ((T 4 0) &&& (((1 : Int32) <<< ((T 0 0) &&& 31)) ^^^ (-1)))) (ty := .int) (C := RX3) (T := TX3) (N := 15) hx hb hts hinX3 tyX3 tyX3_ok nmX3 hown hK.1 hP hD hS 0 rfl rfl 4 (by decide) (hts (.fieldLink RX3 55 "SaltShares$Town" "stickyOnes" "I") (List.mem_of_getElem? (i := 3) rfl)) (fun _ h9 => h9) rfl (by decide +kernel) rfl rfl (Nat.le_of_ble_eq_true rfl) dX3_addBread_56 (fun H locs hP hD hS => ?_)
      have hP : va_P D vwCl (zB_X3 (g 0) h (zU (zU T 3 (fun _ => ((T 3 0) ||| ((1 : Int32) <<< ((T 0 0) &&& 31))))) 4 (fun _ => ((T 4 0) &&& (((1 : Int32) <<< ((T 0 0) &&& 31)) ^^^ (-1)))))) H := hP
      have hD : va_D (zA (zB_X3 (g 0) h T)) (zB_X3 (g 0) h (zU (zU T 3 (fun _ => ((T 3 0) ||| ((1 : Int32) <<< ((T 0 0) &&& 31))))) 4 (fun _ => ((T 4 0) &&& (((1 : Int32) <<< ((T 0 0) &&& 31)) ^^^ (-1)))))) := hD
      refine lv_aload_n hx hb dX3_addBread_59 rfl (lv_at hl 2 rfl) ?_
      refine va_get (D := D) (ci := 3) (v := .ref (h 6)) (C := RX3) (T := TX3) (N := 15) hx hb hts hinX3 hown hK.1 hP 0 rfl rfl 5 (by decide) (hts (.fieldLink RX3 9 "SaltShares$Town" "groupOf" "[I") (List.mem_of_getElem? (i := 4) rfl)) (fun _ h9 => h9) rfl dX3_addBread_60 ?_
      refine lv_iload hx hb dX3_addBread_63 (lv_at hl 1 rfl) ?_
      refine lv_iload_n hx hb dX3_addBread_65 rfl (lv_at hl 3 rfl) ?_
      refine va_iast (x := gr) hx hb hK.1 hP hD hS 1 0 rfl rfl z0 dX3_addBread_66 (fun H locs hP hD hS => ?_)
      have hP : va_P D vwCl (zB_X3 (g 0) h (zU (zU (zU T 3 (fun _ => ((T 3 0) ||| ((1 : Int32) <<< ((T 0 0) &&& 31))))) 4 (fun _ => ((T 4 0) &&& (((1 : Int32) <<< ((T 0 0) &&& 31)) ^^^ (-1))))) 5 (upd (T 5) (Int32.toNatClampNeg (T 0 0)) gr))) H := hP
      have hD : va_D (zA (zB_X3 (g 0) h T)) (zB_X3 (g 0) h (zU (zU (zU T 3 (fun _ => ((T 3 0) ||| ((1 : Int32) <<< ((T 0 0) &&& 31))))) 4 (fun _ => ((T 4 0) &&& (((1 : Int32) <<< ((T 0 0) &&& 31)) ^^^ (-1))))) 5 (upd (T 5) (Int32.toNatClampNeg (T 0 0)) gr))) := hD
      refine lv_aload_n hx hb dX3_addBread_67 rfl (lv_at hl 2 rfl) ?_
      refine va_get (D := D) (ci := 3) (v := .ref (h 7)) (C := RX3) (T := TX3) (N := 15) hx hb hts hinX3 hown hK.1 hP 0 rfl rfl 6 (by decide) (hts (.fieldLink RX3 15 "SaltShares$Town" "salt" "[I") (List.mem_of_getElem? (i := 5) rfl)) (fun _ h9 => h9) rfl dX3_addBread_68 ?_
      refine lv_iload hx hb dX3_addBread_71 (lv_at hl 1 rfl) ?_
      refine lv_iload_n hx hb dX3_addBread_73 rfl (lv_at hl 4 rfl) ?_
      refine va_iast (x := sal) hx hb hK.1 hP hD hS 2 0 rfl rfl z0 dX3_addBread_74 (fun H locs hP hD hS => ?_)
      have hP : va_P D vwCl (zB_X3 (g 0) h (zU (zU (zU (zU T 3 (fun _ => ((T 3 0) ||| ((1 : Int32) <<< ((T 0 0) &&& 31))))) 4 (fun _ => ((T 4 0) &&& (((1 : Int32) <<< ((T 0 0) &&& 31)) ^^^ (-1))))) 5 (upd (T 5) (Int32.toNatClampNeg (T 0 0)) gr)) 6 (upd (T 6) (Int32.toNatClampNeg (T 0 0)) sal))) H := hP
      have hD : va_D (zA (zB_X3 (g 0) h T)) (zB_X3 (g 0) h (zU (zU (zU (zU T 3 (fun _ => ((T 3 0) ||| ((1 : Int32) <<< ((T 0 0) &&& 31))))) 4 (fun _ => ((T 4 0) &&& (((1 : Int32) <<< ((T 0 0) &&& 31)) ^^^ (-1))))) 5 (upd (T 5) (Int32.toNatClampNeg (T 0 0)) gr)) 6 (upd (T 6) (Int32.toNatClampNeg (T 0 0)) sal))) := hD
      refine lv_aload_n hx hb dX3_addBread_75 rfl (lv_at hl 2 rfl) ?_
      refine va_get (D := D) (ci := 3) (v := .ref (h 8)) (C := RX3) (T := TX3) (N := 15) hx hb hts hinX3 hown hK.1 hP 0 rfl rfl 7 (by decide) (hts (.fieldLink RX3 18 "SaltShares$Town" "share" "[I") (List.mem_of_getElem? (i := 6) rfl)) (fun _ h9 => h9) rfl dX3_addBread_76 ?_
      refine lv_iload hx hb dX3_addBread_79 (lv_at hl 1 rfl) ?_
      refine lv_iconst (v := 0) hx hb dX3_addBread_81 (by decide) ?_
      refine va_iast (x := 0) hx hb hK.1 hP hD hS 3 0 rfl rfl z0 dX3_addBread_82 (fun H locs hP hD hS => ?_)
      have hP : va_P D vwCl (zB_X3 (g 0) h (zU (zU (zU (zU (zU T 3 (fun _ => ((T 3 0) ||| ((1 : Int32) <<< ((T 0 0) &&& 31))))) 4 (fun _ => ((T 4 0) &&& (((1 : Int32) <<< ((T 0 0) &&& 31)) ^^^ (-1))))) 5 (upd (T 5) (Int32.toNatClampNeg (T 0 0)) gr)) 6 (upd (T 6) (Int32.toNatClampNeg (T 0 0)) sal)) 7 (upd (T 7) (Int32.toNatClampNeg (T 0 0)) 0))) H := hP
      have hD : va_D (zA (zB_X3 (g 0) h T)) (zB_X3 (g 0) h (zU (zU (zU (zU (zU T 3 (fun _ => ((T 3 0) ||| ((1 : Int32) <<< ((T 0 0) &&& 31))))) 4 (fun _ => ((T 4 0) &&& (((1 : Int32) <<< ((T 0 0) &&& 31)) ^^^ (-1))))) 5 (upd (T 5) (Int32.toNatClampNeg (T 0 0)) gr)) 6 (upd (T 6) (Int32.toNatClampNeg (T 0 0)) sal)) 7 (upd (T 7) (Int32.toNatClampNeg (T 0 0)) 0))) := hD
      refine lv_aload_n hx hb dX3_addBread_83 rfl (lv_at hl 2 rfl) ?_
      refine va_get (D := D) (ci := 3) (v := .ref (h 9)) (C := RX3) (T := TX3) (N := 15) hx hb hts hinX3 hown hK.1 hP 0 rfl rfl 8 (by decide) (hts (.fieldLink RX3 21 "SaltShares$Town" "servingsOf" "[I") (List.mem_of_getElem? (i := 7) rfl)) (fun _ h9 => h9) rfl dX3_addBread_84 ?_
      refine lv_iload hx hb dX3_addBread_87 (lv_at hl 1 rfl) ?_
      refine lv_iconst (v := 0) hx hb dX3_addBread_89 (by decide) ?_
      refine va_iast (x := 0) hx hb hK.1 hP hD hS 4 0 rfl rfl z0 dX3_addBread_90 (fun H locs hP hD hS => ?_)
      have hP : va_P D vwCl (zB_X3 (g 0) h (zU (zU (zU (zU (zU (zU T 3 (fun _ => ((T 3 0) ||| ((1 : Int32) <<< ((T 0 0) &&& 31))))) 4 (fun _ => ((T 4 0) &&& (((1 : Int32) <<< ((T 0 0) &&& 31)) ^^^ (-1))))) 5 (upd (T 5) (Int32.toNatClampNeg (T 0 0)) gr)) 6 (upd (T 6) (Int32.toNatClampNeg (T 0 0)) sal)) 7 (upd (T 7) (Int32.toNatClampNeg (T 0 0)) 0)) 8 (upd (T 8) (Int32.toNatClampNeg (T 0 0)) 0))) H := hP
      have hD : va_D (zA (zB_X3 (g 0) h T)) (zB_X3 (g 0) h (zU (zU (zU (zU (zU (zU T 3 (fun _ => ((T 3 0) ||| ((1 : Int32) <<< ((T 0 0) &&& 31))))) 4 (fun _ => ((T 4 0) &&& (((1 : Int32) <<< ((T 0 0) &&& 31)) ^^^ (-1))))) 5 (upd (T 5) (Int32.toNatClampNeg (T 0 0)) gr)) 6 (upd (T 6) (Int32.toNatClampNeg (T 0 0)) sal)) 7 (upd (T 7) (Int32.toNatClampNeg (T 0 0)) 0)) 8 (upd (T 8) (Int32.toNatClampNeg (T 0 0)) 0))) := hD
      refine lv_aload_n hx hb dX3_addBread_91 rfl (lv_at hl 2 rfl) ?_
      refine lv_iload hx hb dX3_addBread_92 (lv_at hl 1 rfl) ?_
      refine lv_iconst (v := 1) hx hb dX3_addBread_94 (by decide) ?_
      refine lv_iadd hx hb dX3_addBread_95 ?_
      refine va_put (D := D) (ci := 3) (v := .int ((T 0 0) + 1)) (ty := .int) (C := RX3) (T := TX3) (N := 15) hx hb hts hinX3 tyX3 tyX3_ok nmX3 hown hK.1 hP hD hS 0 rfl rfl 0 (by decide) (hts (.fieldLink RX3 42 "SaltShares$Town" "breads" "I") (List.mem_of_getElem? (i := 1) rfl)) (fun _ h9 => h9) rfl (by decide +kernel) rfl rfl (Nat.le_of_ble_eq_true rfl) dX3_addBread_96 (fun H locs hP hD hS => ?_)
      have hP : va_P D vwCl (zB_X3 (g 0) h (zU (zU (zU (zU (zU (zU (zU T 3 (fun _ => ((T 3 0) ||| ((1 : Int32) <<< ((T 0 0) &&& 31))))) 4 (fun _ => ((T 4 0) &&& (((1 : Int32) <<< ((T 0 0) &&& 31)) ^^^ (-1))))) 5 (upd (T 5) (Int32.toNatClampNeg (T 0 0)) gr)) 6 (upd (T 6) (Int32.toNatClampNeg (T 0 0)) sal)) 7 (upd (T 7) (Int32.toNatClampNeg (T 0 0)) 0)) 8 (upd (T 8) (Int32.toNatClampNeg (T 0 0)) 0)) 0 (fun _ => ((T 0 0) + 1)))) H := hP
      have hD : va_D (zA (zB_X3 (g 0) h T)) (zB_X3 (g 0) h (zU (zU (zU (zU (zU (zU (zU T 3 (fun _ => ((T 3 0) ||| ((1 : Int32) <<< ((T 0 0) &&& 31))))) 4 (fun _ => ((T 4 0) &&& (((1 : Int32) <<< ((T 0 0) &&& 31)) ^^^ (-1))))) 5 (upd (T 5) (Int32.toNatClampNeg (T 0 0)) gr)) 6 (upd (T 6) (Int32.toNatClampNeg (T 0 0)) sal)) 7 (upd (T 7) (Int32.toNatClampNeg (T 0 0)) 0)) 8 (upd (T 8) (Int32.toNatClampNeg (T 0 0)) 0)) 0 (fun _ => ((T 0 0) + 1)))) := hD
      refine lv_iload hx hb dX3_addBread_99 (lv_at hl 1 rfl) ?_
      exact zretw_i hx hb hr hlocks dX3_addBread_101 hP hS (congrArg (fun z9 => z9.1) hq) (congrArg (fun z9 => zB_X3 (g 0) h z9.2) hq)
    · have hq := hq.trans (zif_t c_2)
      refine lv_aload_n hx hb dX3_addBread_37 rfl (lv_at hl 2 rfl) ?_
      refine va_get (D := D) (ci := 3) (v := .int (T 4 0)) (C := RX3) (T := TX3) (N := 15) hx hb hts hinX3 hown hK.1 hP 0 rfl rfl 4 (by decide) (hts (.fieldLink RX3 55 "SaltShares$Town" "stickyOnes" "I") (List.mem_of_getElem? (i := 3) rfl)) (fun _ h9 => h9) rfl dX3_addBread_38 ?_
      refine lv_iload hx hb dX3_addBread_41 (lv_at hl 0 rfl) ?_
      refine lv_ior hx hb dX3_addBread_43 ?_
      refine lv_goto (tgt := 56) hx hb dX3_addBread_44 (by decide) ?_
      refine va_put (D := D) (ci := 3) (v := .int ((T 4 0) ||| ((1 : Int32) <<< ((T 0 0) &&& 31)))) (ty := .int) (C := RX3) (T := TX3) (N := 15) hx hb hts hinX3 tyX3 tyX3_ok nmX3 hown hK.1 hP hD hS 0 rfl rfl 4 (by decide) (hts (.fieldLink RX3 55 "SaltShares$Town" "stickyOnes" "I") (List.mem_of_getElem? (i := 3) rfl)) (fun _ h9 => h9) rfl (by decide +kernel) rfl rfl (Nat.le_of_ble_eq_true rfl) dX3_addBread_56 (fun H locs hP hD hS => ?_)
      have hP : va_P D vwCl (zB_X3 (g 0) h (zU (zU T 3 (fun _ => ((T 3 0) ||| ((1 : Int32) <<< ((T 0 0) &&& 31))))) 4 (fun _ => ((T 4 0) ||| ((1 : Int32) <<< ((T 0 0) &&& 31)))))) H := hP
      have hD : va_D (zA (zB_X3 (g 0) h T)) (zB_X3 (g 0) h (zU (zU T 3 (fun _ => ((T 3 0) ||| ((1 : Int32) <<< ((T 0 0) &&& 31))))) 4 (fun _ => ((T 4 0) ||| ((1 : Int32) <<< ((T 0 0) &&& 31)))))) := hD
      refine lv_aload_n hx hb dX3_addBread_59 rfl (lv_at hl 2 rfl) ?_
      refine va_get (D := D) (ci := 3) (v := .ref (h 6)) (C := RX3) (T := TX3) (N := 15) hx hb hts hinX3 hown hK.1 hP 0 rfl rfl 5 (by decide) (hts (.fieldLink RX3 9 "SaltShares$Town" "groupOf" "[I") (List.mem_of_getElem? (i := 4) rfl)) (fun _ h9 => h9) rfl dX3_addBread_60 ?_
      refine lv_iload hx hb dX3_addBread_63 (lv_at hl 1 rfl) ?_
      refine lv_iload_n hx hb dX3_addBread_65 rfl (lv_at hl 3 rfl) ?_
      refine va_iast (x := gr) hx hb hK.1 hP hD hS 1 0 rfl rfl z0 dX3_addBread_66 (fun H locs hP hD hS => ?_)
      have hP : va_P D vwCl (zB_X3 (g 0) h (zU (zU (zU T 3 (fun _ => ((T 3 0) ||| ((1 : Int32) <<< ((T 0 0) &&& 31))))) 4 (fun _ => ((T 4 0) ||| ((1 : Int32) <<< ((T 0 0) &&& 31))))) 5 (upd (T 5) (Int32.toNatClampNeg (T 0 0)) gr))) H := hP
      have hD : va_D (zA (zB_X3 (g 0) h T)) (zB_X3 (g 0) h (zU (zU (zU T 3 (fun _ => ((T 3 0) ||| ((1 : Int32) <<< ((T 0 0) &&& 31))))) 4 (fun _ => ((T 4 0) ||| ((1 : Int32) <<< ((T 0 0) &&& 31))))) 5 (upd (T 5) (Int32.toNatClampNeg (T 0 0)) gr))) := hD
      refine lv_aload_n hx hb dX3_addBread_67 rfl (lv_at hl 2 rfl) ?_
      refine va_get (D := D) (ci := 3) (v := .ref (h 7)) (C := RX3) (T := TX3) (N := 15) hx hb hts hinX3 hown hK.1 hP 0 rfl rfl 6 (by decide) (hts (.fieldLink RX3 15 "SaltShares$Town" "salt" "[I") (List.mem_of_getElem? (i := 5) rfl)) (fun _ h9 => h9) rfl dX3_addBread_68 ?_
      refine lv_iload hx hb dX3_addBread_71 (lv_at hl 1 rfl) ?_
      refine lv_iload_n hx hb dX3_addBread_73 rfl (lv_at hl 4 rfl) ?_
      refine va_iast (x := sal) hx hb hK.1 hP hD hS 2 0 rfl rfl z0 dX3_addBread_74 (fun H locs hP hD hS => ?_)
      have hP : va_P D vwCl (zB_X3 (g 0) h (zU (zU (zU (zU T 3 (fun _ => ((T 3 0) ||| ((1 : Int32) <<< ((T 0 0) &&& 31))))) 4 (fun _ => ((T 4 0) ||| ((1 : Int32) <<< ((T 0 0) &&& 31))))) 5 (upd (T 5) (Int32.toNatClampNeg (T 0 0)) gr)) 6 (upd (T 6) (Int32.toNatClampNeg (T 0 0)) sal))) H := hP
      have hD : va_D (zA (zB_X3 (g 0) h T)) (zB_X3 (g 0) h (zU (zU (zU (zU T 3 (fun _ => ((T 3 0) ||| ((1 : Int32) <<< ((T 0 0) &&& 31))))) 4 (fun _ => ((T 4 0) ||| ((1 : Int32) <<< ((T 0 0) &&& 31))))) 5 (upd (T 5) (Int32.toNatClampNeg (T 0 0)) gr)) 6 (upd (T 6) (Int32.toNatClampNeg (T 0 0)) sal))) := hD
      refine lv_aload_n hx hb dX3_addBread_75 rfl (lv_at hl 2 rfl) ?_
      refine va_get (D := D) (ci := 3) (v := .ref (h 8)) (C := RX3) (T := TX3) (N := 15) hx hb hts hinX3 hown hK.1 hP 0 rfl rfl 7 (by decide) (hts (.fieldLink RX3 18 "SaltShares$Town" "share" "[I") (List.mem_of_getElem? (i := 6) rfl)) (fun _ h9 => h9) rfl dX3_addBread_76 ?_
      refine lv_iload hx hb dX3_addBread_79 (lv_at hl 1 rfl) ?_
      refine lv_iconst (v := 0) hx hb dX3_addBread_81 (by decide) ?_
      refine va_iast (x := 0) hx hb hK.1 hP hD hS 3 0 rfl rfl z0 dX3_addBread_82 (fun H locs hP hD hS => ?_)
      have hP : va_P D vwCl (zB_X3 (g 0) h (zU (zU (zU (zU (zU T 3 (fun _ => ((T 3 0) ||| ((1 : Int32) <<< ((T 0 0) &&& 31))))) 4 (fun _ => ((T 4 0) ||| ((1 : Int32) <<< ((T 0 0) &&& 31))))) 5 (upd (T 5) (Int32.toNatClampNeg (T 0 0)) gr)) 6 (upd (T 6) (Int32.toNatClampNeg (T 0 0)) sal)) 7 (upd (T 7) (Int32.toNatClampNeg (T 0 0)) 0))) H := hP
      have hD : va_D (zA (zB_X3 (g 0) h T)) (zB_X3 (g 0) h (zU (zU (zU (zU (zU T 3 (fun _ => ((T 3 0) ||| ((1 : Int32) <<< ((T 0 0) &&& 31))))) 4 (fun _ => ((T 4 0) ||| ((1 : Int32) <<< ((T 0 0) &&& 31))))) 5 (upd (T 5) (Int32.toNatClampNeg (T 0 0)) gr)) 6 (upd (T 6) (Int32.toNatClampNeg (T 0 0)) sal)) 7 (upd (T 7) (Int32.toNatClampNeg (T 0 0)) 0))) := hD
      refine lv_aload_n hx hb dX3_addBread_83 rfl (lv_at hl 2 rfl) ?_
      refine va_get (D := D) (ci := 3) (v := .ref (h 9)) (C := RX3) (T := TX3) (N := 15) hx hb hts hinX3 hown hK.1 hP 0 rfl rfl 8 (by decide) (hts (.fieldLink RX3 21 "SaltShares$Town" "servingsOf" "[I") (List.mem_of_getElem? (i := 7) rfl)) (fun _ h9 => h9) rfl dX3_addBread_84 ?_
      refine lv_iload hx hb dX3_addBread_87 (lv_at hl 1 rfl) ?_
      refine lv_iconst (v := 0) hx hb dX3_addBread_89 (by decide) ?_
      refine va_iast (x := 0) hx hb hK.1 hP hD hS 4 0 rfl rfl z0 dX3_addBread_90 (fun H locs hP hD hS => ?_)
      have hP : va_P D vwCl (zB_X3 (g 0) h (zU (zU (zU (zU (zU (zU T 3 (fun _ => ((T 3 0) ||| ((1 : Int32) <<< ((T 0 0) &&& 31))))) 4 (fun _ => ((T 4 0) ||| ((1 : Int32) <<< ((T 0 0) &&& 31))))) 5 (upd (T 5) (Int32.toNatClampNeg (T 0 0)) gr)) 6 (upd (T 6) (Int32.toNatClampNeg (T 0 0)) sal)) 7 (upd (T 7) (Int32.toNatClampNeg (T 0 0)) 0)) 8 (upd (T 8) (Int32.toNatClampNeg (T 0 0)) 0))) H := hP
      have hD : va_D (zA (zB_X3 (g 0) h T)) (zB_X3 (g 0) h (zU (zU (zU (zU (zU (zU T 3 (fun _ => ((T 3 0) ||| ((1 : Int32) <<< ((T 0 0) &&& 31))))) 4 (fun _ => ((T 4 0) ||| ((1 : Int32) <<< ((T 0 0) &&& 31))))) 5 (upd (T 5) (Int32.toNatClampNeg (T 0 0)) gr)) 6 (upd (T 6) (Int32.toNatClampNeg (T 0 0)) sal)) 7 (upd (T 7) (Int32.toNatClampNeg (T 0 0)) 0)) 8 (upd (T 8) (Int32.toNatClampNeg (T 0 0)) 0))) := hD
      refine lv_aload_n hx hb dX3_addBread_91 rfl (lv_at hl 2 rfl) ?_
      refine lv_iload hx hb dX3_addBread_92 (lv_at hl 1 rfl) ?_
      refine lv_iconst (v := 1) hx hb dX3_addBread_94 (by decide) ?_
      refine lv_iadd hx hb dX3_addBread_95 ?_
      refine va_put (D := D) (ci := 3) (v := .int ((T 0 0) + 1)) (ty := .int) (C := RX3) (T := TX3) (N := 15) hx hb hts hinX3 tyX3 tyX3_ok nmX3 hown hK.1 hP hD hS 0 rfl rfl 0 (by decide) (hts (.fieldLink RX3 42 "SaltShares$Town" "breads" "I") (List.mem_of_getElem? (i := 1) rfl)) (fun _ h9 => h9) rfl (by decide +kernel) rfl rfl (Nat.le_of_ble_eq_true rfl) dX3_addBread_96 (fun H locs hP hD hS => ?_)
      have hP : va_P D vwCl (zB_X3 (g 0) h (zU (zU (zU (zU (zU (zU (zU T 3 (fun _ => ((T 3 0) ||| ((1 : Int32) <<< ((T 0 0) &&& 31))))) 4 (fun _ => ((T 4 0) ||| ((1 : Int32) <<< ((T 0 0) &&& 31))))) 5 (upd (T 5) (Int32.toNatClampNeg (T 0 0)) gr)) 6 (upd (T 6) (Int32.toNatClampNeg (T 0 0)) sal)) 7 (upd (T 7) (Int32.toNatClampNeg (T 0 0)) 0)) 8 (upd (T 8) (Int32.toNatClampNeg (T 0 0)) 0)) 0 (fun _ => ((T 0 0) + 1)))) H := hP
      have hD : va_D (zA (zB_X3 (g 0) h T)) (zB_X3 (g 0) h (zU (zU (zU (zU (zU (zU (zU T 3 (fun _ => ((T 3 0) ||| ((1 : Int32) <<< ((T 0 0) &&& 31))))) 4 (fun _ => ((T 4 0) ||| ((1 : Int32) <<< ((T 0 0) &&& 31))))) 5 (upd (T 5) (Int32.toNatClampNeg (T 0 0)) gr)) 6 (upd (T 6) (Int32.toNatClampNeg (T 0 0)) sal)) 7 (upd (T 7) (Int32.toNatClampNeg (T 0 0)) 0)) 8 (upd (T 8) (Int32.toNatClampNeg (T 0 0)) 0)) 0 (fun _ => ((T 0 0) + 1)))) := hD
      refine lv_iload hx hb dX3_addBread_99 (lv_at hl 1 rfl) ?_
      exact zretw_i hx hb hr hlocks dX3_addBread_101 hP hS (congrArg (fun z9 => z9.1) hq) (congrArg (fun z9 => zB_X3 (g 0) h z9.2) hq)
  · have c_1 : ¬ ((T 0 0) < 8) := c_1
    have hq := hq.trans (if_neg c_1)
    refine lv_iconst (v := (-1)) hx hb dX3_addBread_13 (by decide) ?_
    exact zretw_i hx hb hr hlocks dX3_addBread_14 hP hS (congrArg (fun z9 => z9.1) hq) (congrArg (fun z9 => zB_X3 (g 0) h z9.2) hq)
def v_X3_takeLowest_6 (b : Nat) (first : Nat) : Nat → Int32 → Nat → (Nat → Nat → Int32) → (Nat → Nat → Int32)
  | 0, _, _, _ => ((fun _ _ => 0))
  | n + 1, left, i, T1 => (if first + 100 ≤ i then T1 else (if left ≤ 0 then T1 else (if (T1 10 i) = (-1) then v_X3_takeLowest_6 b first n (left + (-1)) (i + 1) (zU T1 10 (upd (T1 10) i (nI b))) else v_X3_takeLowest_6 b first n left (i + 1) T1)))
def v_X3_takeLowest (T : Nat → Nat → Int32) (b : Nat) (first : Nat) (many : Int32) : (Nat → Nat → Int32) := v_X3_takeLowest_6 b first 101 many first T
set_option maxHeartbeats 400000 in
set_option maxRecDepth 100000 in
theorem c_X3_takeLowest (l : Launch) (D : va_G) (g : Nat → ClassId) (h : Nat → Nat) (T : Nat → Nat → Int32) (b : Nat) (first : Nat) (many : Int32) (z0 : first ≤ 200) : Wr l D (zT g) yX3_takeLowest wsX3_takeLowest (rmOf 0 0) [.ref (h 0), .int (nI b), .int (nI first), .int many] (zB_X3 (g 0) h T) (none) (zB_X3 (g 0) h (v_X3_takeLowest T b first many)) := by
  refine Wr.of (cc := cX3_takeLowest) (maxL := 6) (ret := none) (by decide) rfl (Nat.le_of_ble_eq_true rfl) ?_
  intro p e s m below meth c ls hx hb hr hml hown hts hlocks hP hD hS hK hl
  have hown : s.vm.findClass RX3 = some m.cls := hown
  have hinX3 : ∀ w ∈ u_ws RX3 TX3 15, w ∈ wsX3_takeLowest := fun _ h9 => (List.mem_cons_of_mem _ (List.mem_append_right _ h9))
  obtain ⟨q, hq⟩ : ∃ q : (Nat → Nat → Int32), q = v_X3_takeLowest T b first many := ⟨_, rfl⟩
  rw [← hq]
  unfold v_X3_takeLowest at hq
  have hl : lv_has ls 6 [(0, .ref (h 0)), (1, .int (nI b)), (2, .int (nI first)), (3, .int many)] := hl
  refine lv_iload_n hx hb dX3_takeLowest_0 rfl (lv_at hl 3 rfl) ?_
  refine lv_istore (lv' := [(4, .int many), (0, .ref (h 0)), (1, .int (nI b)), (2, .int (nI first)), (3, .int many)]) hx hb dX3_takeLowest_1 hl (by decide) rfl (fun ls hl => ?_)
  refine lv_iload_n hx hb dX3_takeLowest_3 rfl (lv_at hl 3 rfl) ?_
  refine lv_istore (lv' := [(5, .int (nI first)), (4, .int many), (0, .ref (h 0)), (1, .int (nI b)), (2, .int (nI first)), (3, .int many)]) hx hb dX3_takeLowest_4 hl (by decide) rfl (fun ls hl => ?_)
  have L6 : ∀ (n : Nat) (left : Int32) (i : Nat) (T1 : Nat → Nat → Int32), (first ≤ i) → (i ≤ first + 100) → first + 100 - i < n → ∀ (H : Heap) (locs : List Loc), va_P D vwCl (zB_X3 (g 0) h T1) H → va_D (zA (zB_X3 (g 0) h T)) (zB_X3 (g 0) h T1) → va_S (zA (zB_X3 (g 0) h T)) s.heap H locs → ∀ (ls : Array Slot), lv_has ls 6 [(0, .ref (h 0)), (1, .int (nI b)), (2, .int (nI first)), (3, .int many), (4, .int left), (5, .int (nI i))] → q = v_X3_takeLowest_6 b first n left i T1 → W p l e (rmOf 0 0) s m [.ref (h 0), .int (nI b), .int (nI first), .int many].toArray below meth c H locs 0 0 (MQ below (zQw D (zB_X3 (g 0) h T) (none) (zB_X3 (g 0) h q)) [.ref (h 0), .int (nI b), .int (nI first), .int many].toArray s 0 0 (zA (zB_X3 (g 0) h T))) (F0 m 6 ls []) := by
    intro n
    induction n with
    | zero => intro left i T1 v6_0 v6_1 hn; exact absurd hn (Nat.not_lt_zero _)
    | succ n ih6 =>
      intro left i T1 v6_0 v6_1 hn6 H locs hP hD hS ls hl hq
      rw [v_X3_takeLowest_6] at hq
      refine lv_iload hx hb dX3_takeLowest_6 (lv_at hl 5 rfl) ?_
      refine lv_iload_n hx hb dX3_takeLowest_8 rfl (lv_at hl 2 rfl) ?_
      refine lv_bipush (v := 100) hx hb dX3_takeLowest_9 (by decide) ?_
      refine lv_iadd hx hb dX3_takeLowest_11 ?_
      refine lv_is (show (nI first) + 100 = (nI (first + 100)) from nI_add first 100) ?_
      refine lv_icmp_ge (tgt := 48) hx hb dX3_takeLowest_12 (by decide) (fun c_1 => ?_) (fun c_1 => ?_)
      · have c_1 : first + 100 ≤ i := (nI_leI (a := first + 100) (b := i) (by omega) (by omega)).mp c_1
        have hq := hq.trans (if_pos c_1)
        exact zretw_v hx hb hr hlocks dX3_takeLowest_48 hP hS (congrArg (fun z9 => zB_X3 (g 0) h z9) hq)
      · have c_1 : ¬ (first + 100 ≤ i) := fun h9 => c_1 ((nI_leI (a := first + 100) (b := i) (by omega) (by omega)).mpr h9)
        have hq := hq.trans (if_neg c_1)
        refine lv_iload hx hb dX3_takeLowest_15 (lv_at hl 4 rfl) ?_
        refine lv_if_le (tgt := 48) hx hb dX3_takeLowest_17 (by decide) (fun c_2 => ?_) (fun c_2 => ?_)
        · have c_2 : left ≤ 0 := c_2
          have hq := hq.trans (if_pos c_2)
          exact zretw_v hx hb hr hlocks dX3_takeLowest_48 hP hS (congrArg (fun z9 => zB_X3 (g 0) h z9) hq)
        · have c_2 : ¬ (left ≤ 0) := c_2
          have hq := hq.trans (if_neg c_2)
          refine lv_aload_n hx hb dX3_takeLowest_20 rfl (lv_at hl 0 rfl) ?_
          refine va_get (D := D) (ci := 3) (v := .ref (h 11)) (C := RX3) (T := TX3) (N := 15) hx hb hts hinX3 hown hK.1 hP 0 rfl rfl 10 (by decide) (hts (.fieldLink RX3 27 "SaltShares$Town" "ownerOf" "[I") (List.mem_of_getElem? (i := 1) rfl)) (fun _ h9 => h9) rfl dX3_takeLowest_21 ?_
          refine lv_iload hx hb dX3_takeLowest_24 (lv_at hl 5 rfl) ?_
          refine z_iald (i := i) hx hb hK hP 6 0 rfl rfl (by omega) (by decide) dX3_takeLowest_26 ?_
          refine lv_iconst (v := (-1)) hx hb dX3_takeLowest_27 (by decide) ?_
          refine lv_icmp_ne (tgt := 42) hx hb dX3_takeLowest_28 (by decide) (fun c_3 => ?_) (fun c_3 => ?_)
          · have c_3 : ¬ ((T1 10 i) = (-1)) := c_3
            have hq := hq.trans (if_neg c_3)
            refine lv_iinc (v := (nI (i + 1))) (lv' := [(5, .int (nI (i + 1))), (0, .ref (h 0)), (1, .int (nI b)), (2, .int (nI first)), (3, .int many), (4, .int left)]) hx hb dX3_takeLowest_42 hl (k := 5) rfl (nI_add _ 1) (by decide) rfl (fun ls hl => ?_)
            refine lv_goto (tgt := 6) hx hb dX3_takeLowest_45 (by decide) ?_
            exact ih6 left (i + 1) T1 (by omega) (by omega) (by omega) _ _ hP hD hS ls (lv_sub hl [1, 2, 3, 4, 5, 0] rfl) hq
          · have c_3 : (T1 10 i) = (-1) := c_3
            have hq := hq.trans (if_pos c_3)
            refine lv_aload_n hx hb dX3_takeLowest_31 rfl (lv_at hl 0 rfl) ?_
            refine va_get (D := D) (ci := 3) (v := .ref (h 11)) (C := RX3) (T := TX3) (N := 15) hx hb hts hinX3 hown hK.1 hP 0 rfl rfl 10 (by decide) (hts (.fieldLink RX3 27 "SaltShares$Town" "ownerOf" "[I") (List.mem_of_getElem? (i := 1) rfl)) (fun _ h9 => h9) rfl dX3_takeLowest_32 ?_
            refine lv_iload hx hb dX3_takeLowest_35 (lv_at hl 5 rfl) ?_
            refine lv_iload_n hx hb dX3_takeLowest_37 rfl (lv_at hl 1 rfl) ?_
            refine z_iast (i := i) (x := (nI b)) hx hb hK hP hD hS 6 0 rfl rfl (by omega) (by decide) dX3_takeLowest_38 (fun H locs hP hD hS => ?_)
            have hP : va_P D vwCl (zB_X3 (g 0) h (zU T1 10 (upd (T1 10) i (nI b)))) H := hP
            have hD : va_D (zA (zB_X3 (g 0) h T)) (zB_X3 (g 0) h (zU T1 10 (upd (T1 10) i (nI b)))) := hD
            refine lv_iinc (v := (left + (-1))) (lv' := [(4, .int (left + (-1))), (0, .ref (h 0)), (1, .int (nI b)), (2, .int (nI first)), (3, .int many), (5, .int (nI i))]) hx hb dX3_takeLowest_39 hl (k := 4) rfl rfl (by decide) rfl (fun ls hl => ?_)
            refine lv_iinc (v := (nI (i + 1))) (lv' := [(5, .int (nI (i + 1))), (4, .int (left + (-1))), (0, .ref (h 0)), (1, .int (nI b)), (2, .int (nI first)), (3, .int many)]) hx hb dX3_takeLowest_42 hl (k := 5) rfl (nI_add _ 1) (by decide) rfl (fun ls hl => ?_)
            refine lv_goto (tgt := 6) hx hb dX3_takeLowest_45 (by decide) ?_
            exact ih6 (left + (-1)) (i + 1) (zU T1 10 (upd (T1 10) i (nI b))) (by omega) (by omega) (by omega) _ _ hP hD hS ls (lv_sub hl [2, 3, 4, 5, 1, 0] rfl) hq
  exact L6 101 many first T (by omega) (by omega) (by omega) _ _ hP hD hS ls (lv_sub hl [2, 3, 4, 5, 1, 0] rfl) hq
def v_X3_raiseTo (T : Nat → Nat → Int32) (b : Nat) (to : Int32) : (Nat → Nat → Int32) := (if (v_X4_isGroup (T 5 b)) = true then zU (v_X3_takeLowest T b ((Int32.toNatClampNeg (T 5 b)) * 100) (to - (T 7 b))) 7 (upd ((v_X3_takeLowest T b ((Int32.toNatClampNeg (T 5 b)) * 100) (to - (T 7 b))) 7) b to) else zU T 7 (upd (T 7) b to))
set_option maxHeartbeats 400000 in
set_option maxRecDepth 100000 in
theorem c_X3_raiseTo (l : Launch) (D : va_G) (g : Nat → ClassId) (h : Nat → Nat) (T : Nat → Nat → Int32) (b : Nat) (to : Int32) (z0 : b < 8) : Wr l D (zT g) yX3_raiseTo wsX3_raiseTo (rmOf 1 25) [.ref (h 0), .int (nI b), .int to] (zB_X3 (g 0) h T) (none) (zB_X3 (g 0) h (v_X3_raiseTo T b to)) := by
  refine Wr.of (cc := cX3_raiseTo) (maxL := 4) (ret := none) (by decide) rfl (Nat.le_of_ble_eq_true rfl) ?_
  intro p e s m below meth c ls hx hb hr hml hown hts hlocks hP hD hS hK hl
  have hown : s.vm.findClass RX3 = some m.cls := hown
  have hinX3 : ∀ w ∈ u_ws RX3 TX3 15, w ∈ wsX3_raiseTo := fun _ h9 => (List.mem_cons_of_mem _ (List.mem_append_right _ h9))
  obtain ⟨q, hq⟩ : ∃ q : (Nat → Nat → Int32), q = v_X3_raiseTo T b to := ⟨_, rfl⟩
  rw [← hq]
  unfold v_X3_raiseTo at hq
  have hl : lv_has ls 4 [(0, .ref (h 0)), (1, .int (nI b)), (2, .int to)] := hl
  refine lv_aload_n hx hb dX3_raiseTo_0 rfl (lv_at hl 0 rfl) ?_
  refine va_get (D := D) (ci := 3) (v := .ref (h 6)) (C := RX3) (T := TX3) (N := 15) hx hb hts hinX3 hown hK.1 hP 0 rfl rfl 5 (by decide) (hts (.fieldLink RX3 9 "SaltShares$Town" "groupOf" "[I") (List.mem_of_getElem? (i := 1) rfl)) (fun _ h9 => h9) rfl dX3_raiseTo_1 ?_
  refine lv_iload_n hx hb dX3_raiseTo_4 rfl (lv_at hl 1 rfl) ?_
  refine z_iald (i := b) hx hb hK hP 1 0 rfl rfl (by omega) (by decide) dX3_raiseTo_5 ?_
  refine lv_istore_n (lv' := [(3, .int (T 5 b)), (0, .ref (h 0)), (1, .int (nI b)), (2, .int to)]) hx hb dX3_raiseTo_6 rfl hl (by decide) rfl (fun ls hl => ?_)
  refine lv_iload_n hx hb dX3_raiseTo_7 rfl (lv_at hl 0 rfl) ?_
  refine zcSN (n := 1) (c_X4_isGroup l D g (T 5 b)) hx hb hml hown hts gX3_raiseTo_X4_isGroup_n68 rfl ⟨by decide, by decide, by decide⟩ ⟨Nat.le_of_ble_eq_true rfl, Nat.le_of_ble_eq_true rfl⟩ ⟨rfl, rfl⟩ (List.mem_of_getElem? (i := 0) rfl) (List.mem_of_getElem? (i := 4) rfl) (List.mem_of_getElem? (i := 3) rfl) hK (hP.sub [] rfl) hl.1 rfl rfl (Nat.le_of_ble_eq_true rfl) ⟨Nat.zero_le _, Nat.zero_le _⟩ dX3_raiseTo_8 ?_
  refine zif_eq (tgt := 31) hx hb dX3_raiseTo_11 (by decide) (fun c_2 => ?_) (fun c_2 => ?_)
  · have hq := hq.trans (zif_f c_2)
    refine lv_aload_n hx hb dX3_raiseTo_31 rfl (lv_at hl 1 rfl) ?_
    refine va_get (D := D) (ci := 3) (v := .ref (h 8)) (C := RX3) (T := TX3) (N := 15) hx hb hts hinX3 hown hK.1 hP 0 rfl rfl 7 (by decide) (hts (.fieldLink RX3 18 "SaltShares$Town" "share" "[I") (List.mem_of_getElem? (i := 2) rfl)) (fun _ h9 => h9) rfl dX3_raiseTo_32 ?_
    refine lv_iload_n hx hb dX3_raiseTo_35 rfl (lv_at hl 2 rfl) ?_
    refine lv_iload_n hx hb dX3_raiseTo_36 rfl (lv_at hl 3 rfl) ?_
    refine z_iast (i := b) (x := to) hx hb hK hP hD hS 3 0 rfl rfl (by omega) (by decide) dX3_raiseTo_37 (fun H locs hP hD hS => ?_)
    have hP : va_P D vwCl (zB_X3 (g 0) h (zU T 7 (upd (T 7) b to))) H := hP
    have hD : va_D (zA (zB_X3 (g 0) h T)) (zB_X3 (g 0) h (zU T 7 (upd (T 7) b to))) := hD
    exact zretw_v hx hb hr hlocks dX3_raiseTo_38 hP hS (congrArg (fun z9 => zB_X3 (g 0) h z9) hq)
  · have hq := hq.trans (zif_t c_2)
    have w_3 := znat (zin_g (by assumption))
    have w_3b := w_3.2
    have hl : lv_has ls 4 [(3, .int (nI (Int32.toNatClampNeg (T 5 b)))), (0, .ref (h 0)), (1, .int (nI b)), (2, .int to)] := by rw [← w_3.1]; exact hl
    refine lv_aload_n hx hb dX3_raiseTo_14 rfl (lv_at hl 1 rfl) ?_
    refine lv_iload_n hx hb dX3_raiseTo_15 rfl (lv_at hl 2 rfl) ?_
    refine lv_iload_n hx hb dX3_raiseTo_16 rfl (lv_at hl 0 rfl) ?_
    refine lv_bipush (v := 100) hx hb dX3_raiseTo_17 (by decide) ?_
    refine lv_imul hx hb dX3_raiseTo_19 ?_
    refine lv_is (show (nI (Int32.toNatClampNeg (T 5 b))) * 100 = (nI ((Int32.toNatClampNeg (T 5 b)) * 100)) from pk_mul (Int32.toNatClampNeg (T 5 b)) 100) ?_
    refine lv_iload_n hx hb dX3_raiseTo_20 rfl (lv_at hl 3 rfl) ?_
    refine lv_aload_n hx hb dX3_raiseTo_21 rfl (lv_at hl 1 rfl) ?_
    refine va_get (D := D) (ci := 3) (v := .ref (h 8)) (C := RX3) (T := TX3) (N := 15) hx hb hts hinX3 hown hK.1 hP 0 rfl rfl 7 (by decide) (hts (.fieldLink RX3 18 "SaltShares$Town" "share" "[I") (List.mem_of_getElem? (i := 2) rfl)) (fun _ h9 => h9) rfl dX3_raiseTo_22 ?_
    refine lv_iload_n hx hb dX3_raiseTo_25 rfl (lv_at hl 2 rfl) ?_
    refine z_iald (i := b) hx hb hK hP 3 0 rfl rfl (by omega) (by decide) dX3_raiseTo_26 ?_
    refine lv_isub hx hb dX3_raiseTo_27 ?_
    refine zcVw (ci := 3) (n := 3) (c_X3_takeLowest l D g h T b ((Int32.toNatClampNeg (T 5 b)) * 100) (to - (T 7 b)) (by omega)) hx hb hml hown hts gX3_raiseTo_X3_takeLowest rfl ⟨rfl, by decide, by decide, by decide⟩ ⟨Nat.le_of_ble_eq_true rfl, Nat.le_of_ble_eq_true rfl⟩ ⟨rfl, rfl⟩ hK hP hD rfl rfl rfl hS hl.1 rfl rfl (Nat.le_of_ble_eq_true rfl) ⟨Nat.zero_le _, Nat.zero_le _⟩ dX3_raiseTo_28 (fun H1 locs hP1 hk1 hS => ?_)
    have hD := zD_addr (ws' := zB_X3 (g 0) h (v_X3_takeLowest T b ((Int32.toNatClampNeg (T 5 b)) * 100) (to - (T 7 b)))) hD rfl; have hP := hP1
    clear hP1 hk1
    have hP : va_P D vwCl (zB_X3 (g 0) h (v_X3_takeLowest T b ((Int32.toNatClampNeg (T 5 b)) * 100) (to - (T 7 b)))) H1 := hP
    have hD : va_D (zA (zB_X3 (g 0) h T)) (zB_X3 (g 0) h (v_X3_takeLowest T b ((Int32.toNatClampNeg (T 5 b)) * 100) (to - (T 7 b)))) := hD
    refine lv_aload_n hx hb dX3_raiseTo_31 rfl (lv_at hl 1 rfl) ?_
    refine va_get (D := D) (ci := 3) (v := .ref (h 8)) (C := RX3) (T := TX3) (N := 15) hx hb hts hinX3 hown hK.1 hP 0 rfl rfl 7 (by decide) (hts (.fieldLink RX3 18 "SaltShares$Town" "share" "[I") (List.mem_of_getElem? (i := 2) rfl)) (fun _ h9 => h9) rfl dX3_raiseTo_32 ?_
    refine lv_iload_n hx hb dX3_raiseTo_35 rfl (lv_at hl 2 rfl) ?_
    refine lv_iload_n hx hb dX3_raiseTo_36 rfl (lv_at hl 3 rfl) ?_
    refine z_iast (i := b) (x := to) hx hb hK hP hD hS 3 0 rfl rfl (by omega) (by decide) dX3_raiseTo_37 (fun H locs hP hD hS => ?_)
    have hP : va_P D vwCl (zB_X3 (g 0) h (zU (v_X3_takeLowest T b ((Int32.toNatClampNeg (T 5 b)) * 100) (to - (T 7 b))) 7 (upd ((v_X3_takeLowest T b ((Int32.toNatClampNeg (T 5 b)) * 100) (to - (T 7 b))) 7) b to))) H := hP
    have hD : va_D (zA (zB_X3 (g 0) h T)) (zB_X3 (g 0) h (zU (v_X3_takeLowest T b ((Int32.toNatClampNeg (T 5 b)) * 100) (to - (T 7 b))) 7 (upd ((v_X3_takeLowest T b ((Int32.toNatClampNeg (T 5 b)) * 100) (to - (T 7 b))) 7) b to))) := hD
    exact zretw_v hx hb hr hlocks dX3_raiseTo_38 hP hS (congrArg (fun z9 => zB_X3 (g 0) h z9) hq)
def v_X3_loseHighest_11 (b : Nat) (first : Nat) : Nat → Int32 → Int32 → (Nat → Nat → Int32) → (Nat → Nat → Int32)
  | 0, _, _, _ => ((fun _ _ => 0))
  | n + 1, left, i, T1 => (if i < (nI first) then T1 else (if left ≤ 0 then T1 else (if (T1 10 (Int32.toNatClampNeg i)) = (nI b) then v_X3_loseHighest_11 b first n (left + (-1)) (i + (-1)) (zU T1 10 (upd (T1 10) (Int32.toNatClampNeg i) (-1))) else v_X3_loseHighest_11 b first n left (i + (-1)) T1)))
def v_X3_loseHighest (T : Nat → Nat → Int32) (b : Nat) (first : Nat) (many : Int32) : (Nat → Nat → Int32) := v_X3_loseHighest_11 b first 101 many (nI ((first + 100) - 1)) T
set_option maxHeartbeats 400000 in
set_option maxRecDepth 100000 in
theorem c_X3_loseHighest (l : Launch) (D : va_G) (g : Nat → ClassId) (h : Nat → Nat) (T : Nat → Nat → Int32) (b : Nat) (first : Nat) (many : Int32) (z0 : first ≤ 200) : Wr l D (zT g) yX3_loseHighest wsX3_loseHighest (rmOf 0 0) [.ref (h 0), .int (nI b), .int (nI first), .int many] (zB_X3 (g 0) h T) (none) (zB_X3 (g 0) h (v_X3_loseHighest T b first many)) := by
  refine Wr.of (cc := cX3_loseHighest) (maxL := 6) (ret := none) (by decide) rfl (Nat.le_of_ble_eq_true rfl) ?_
  intro p e s m below meth c ls hx hb hr hml hown hts hlocks hP hD hS hK hl
  have hown : s.vm.findClass RX3 = some m.cls := hown
  have hinX3 : ∀ w ∈ u_ws RX3 TX3 15, w ∈ wsX3_loseHighest := fun _ h9 => (List.mem_cons_of_mem _ (List.mem_append_right _ h9))
  obtain ⟨q, hq⟩ : ∃ q : (Nat → Nat → Int32), q = v_X3_loseHighest T b first many := ⟨_, rfl⟩
  rw [← hq]
  unfold v_X3_loseHighest at hq
  have hl : lv_has ls 6 [(0, .ref (h 0)), (1, .int (nI b)), (2, .int (nI first)), (3, .int many)] := hl
  refine lv_iload_n hx hb dX3_loseHighest_0 rfl (lv_at hl 3 rfl) ?_
  refine lv_istore (lv' := [(4, .int many), (0, .ref (h 0)), (1, .int (nI b)), (2, .int (nI first)), (3, .int many)]) hx hb dX3_loseHighest_1 hl (by decide) rfl (fun ls hl => ?_)
  refine lv_iload_n hx hb dX3_loseHighest_3 rfl (lv_at hl 3 rfl) ?_
  refine lv_bipush (v := 100) hx hb dX3_loseHighest_4 (by decide) ?_
  refine lv_iadd hx hb dX3_loseHighest_6 ?_
  refine lv_is (show (nI first) + 100 = (nI (first + 100)) from nI_add first 100) ?_
  refine lv_iconst (v := 1) hx hb dX3_loseHighest_7 (by decide) ?_
  refine lv_isub hx hb dX3_loseHighest_8 ?_
  refine lv_is (show (nI (first + 100)) - 1 = (nI ((first + 100) - 1)) from pk_sub (a := first + 100) (b := 1) (by omega)) ?_
  refine lv_istore (lv' := [(5, .int (nI ((first + 100) - 1))), (4, .int many), (0, .ref (h 0)), (1, .int (nI b)), (2, .int (nI first)), (3, .int many)]) hx hb dX3_loseHighest_9 hl (by decide) rfl (fun ls hl => ?_)
  have L11 : ∀ (n : Nat) (left : Int32) (i : Int32) (T1 : Nat → Nat → Int32), ((first : Int) - 1 ≤ i.toInt) → (i.toInt < (first : Int) + 100) → (i.toInt + 1 - (first : Int)).toNat < n → ∀ (H : Heap) (locs : List Loc), va_P D vwCl (zB_X3 (g 0) h T1) H → va_D (zA (zB_X3 (g 0) h T)) (zB_X3 (g 0) h T1) → va_S (zA (zB_X3 (g 0) h T)) s.heap H locs → ∀ (ls : Array Slot), lv_has ls 6 [(0, .ref (h 0)), (1, .int (nI b)), (2, .int (nI first)), (3, .int many), (4, .int left), (5, .int i)] → q = v_X3_loseHighest_11 b first n left i T1 → W p l e (rmOf 0 0) s m [.ref (h 0), .int (nI b), .int (nI first), .int many].toArray below meth c H locs 0 0 (MQ below (zQw D (zB_X3 (g 0) h T) (none) (zB_X3 (g 0) h q)) [.ref (h 0), .int (nI b), .int (nI first), .int many].toArray s 0 0 (zA (zB_X3 (g 0) h T))) (F0 m 11 ls []) := by
    intro n
    induction n with
    | zero => intro left i T1 v11_0 v11_1 hn; exact absurd hn (Nat.not_lt_zero _)
    | succ n ih11 =>
      intro left i T1 v11_0 v11_1 hn11 H locs hP hD hS ls hl hq
      rw [v_X3_loseHighest_11] at hq
      refine lv_iload hx hb dX3_loseHighest_11 (lv_at hl 5 rfl) ?_
      refine lv_iload_n hx hb dX3_loseHighest_13 rfl (lv_at hl 2 rfl) ?_
      refine lv_icmp_lt (tgt := 50) hx hb dX3_loseHighest_14 (by decide) (fun c_1 => ?_) (fun c_1 => ?_)
      · have c_1 : i < (nI first) := c_1
        have hq := hq.trans (if_pos c_1)
        exact zretw_v hx hb hr hlocks dX3_loseHighest_50 hP hS (congrArg (fun z9 => zB_X3 (g 0) h z9) hq)
      · have c_1 : ¬ (i < (nI first)) := c_1
        have hq := hq.trans (if_neg c_1)
        refine lv_iload hx hb dX3_loseHighest_17 (lv_at hl 4 rfl) ?_
        refine lv_if_le (tgt := 50) hx hb dX3_loseHighest_19 (by decide) (fun c_2 => ?_) (fun c_2 => ?_)
        · have c_2 : left ≤ 0 := c_2
          have hq := hq.trans (if_pos c_2)
          exact zretw_v hx hb hr hlocks dX3_loseHighest_50 hP hS (congrArg (fun z9 => zB_X3 (g 0) h z9) hq)
        · have c_2 : ¬ (left ≤ 0) := c_2
          have hq := hq.trans (if_neg c_2)
          refine lv_aload_n hx hb dX3_loseHighest_22 rfl (lv_at hl 0 rfl) ?_
          refine va_get (D := D) (ci := 3) (v := .ref (h 11)) (C := RX3) (T := TX3) (N := 15) hx hb hts hinX3 hown hK.1 hP 0 rfl rfl 10 (by decide) (hts (.fieldLink RX3 27 "SaltShares$Town" "ownerOf" "[I") (List.mem_of_getElem? (i := 1) rfl)) (fun _ h9 => h9) rfl dX3_loseHighest_23 ?_
          refine lv_iload hx hb dX3_loseHighest_26 (lv_at hl 5 rfl) ?_
          refine va_iald hx hb hK.1 hP 6 0 rfl rfl (zin_f (by assumption) (by omega) (by omega)) dX3_loseHighest_28 ?_
          refine lv_iload_n hx hb dX3_loseHighest_29 rfl (lv_at hl 1 rfl) ?_
          refine lv_icmp_ne (tgt := 44) hx hb dX3_loseHighest_30 (by decide) (fun c_3 => ?_) (fun c_3 => ?_)
          · have c_3 : ¬ ((T1 10 (Int32.toNatClampNeg i)) = (nI b)) := c_3
            have hq := hq.trans (if_neg c_3)
            refine lv_iinc (v := (i + (-1))) (lv' := [(5, .int (i + (-1))), (0, .ref (h 0)), (1, .int (nI b)), (2, .int (nI first)), (3, .int many), (4, .int left)]) hx hb dX3_loseHighest_44 hl (k := 5) rfl rfl (by decide) rfl (fun ls hl => ?_)
            refine lv_goto (tgt := 11) hx hb dX3_loseHighest_47 (by decide) ?_
            exact ih11 left (i + (-1)) T1 (by have e9 := zdecf (x := i) (f := first) (by assumption) (by omega); omega) (by have e9 := zdecf (x := i) (f := first) (by assumption) (by omega); omega) (by have e9 := zdecf (x := i) (f := first) (by assumption) (by omega); omega) _ _ hP hD hS ls (lv_sub hl [1, 2, 3, 4, 5, 0] rfl) hq
          · have c_3 : (T1 10 (Int32.toNatClampNeg i)) = (nI b) := c_3
            have hq := hq.trans (if_pos c_3)
            refine lv_aload_n hx hb dX3_loseHighest_33 rfl (lv_at hl 0 rfl) ?_
            refine va_get (D := D) (ci := 3) (v := .ref (h 11)) (C := RX3) (T := TX3) (N := 15) hx hb hts hinX3 hown hK.1 hP 0 rfl rfl 10 (by decide) (hts (.fieldLink RX3 27 "SaltShares$Town" "ownerOf" "[I") (List.mem_of_getElem? (i := 1) rfl)) (fun _ h9 => h9) rfl dX3_loseHighest_34 ?_
            refine lv_iload hx hb dX3_loseHighest_37 (lv_at hl 5 rfl) ?_
            refine lv_iconst (v := (-1)) hx hb dX3_loseHighest_39 (by decide) ?_
            refine va_iast (x := (-1)) hx hb hK.1 hP hD hS 6 0 rfl rfl (zin_f (by assumption) (by omega) (by omega)) dX3_loseHighest_40 (fun H locs hP hD hS => ?_)
            have hP : va_P D vwCl (zB_X3 (g 0) h (zU T1 10 (upd (T1 10) (Int32.toNatClampNeg i) (-1)))) H := hP
            have hD : va_D (zA (zB_X3 (g 0) h T)) (zB_X3 (g 0) h (zU T1 10 (upd (T1 10) (Int32.toNatClampNeg i) (-1)))) := hD
            refine lv_iinc (v := (left + (-1))) (lv' := [(4, .int (left + (-1))), (0, .ref (h 0)), (1, .int (nI b)), (2, .int (nI first)), (3, .int many), (5, .int i)]) hx hb dX3_loseHighest_41 hl (k := 4) rfl rfl (by decide) rfl (fun ls hl => ?_)
            refine lv_iinc (v := (i + (-1))) (lv' := [(5, .int (i + (-1))), (4, .int (left + (-1))), (0, .ref (h 0)), (1, .int (nI b)), (2, .int (nI first)), (3, .int many)]) hx hb dX3_loseHighest_44 hl (k := 5) rfl rfl (by decide) rfl (fun ls hl => ?_)
            refine lv_goto (tgt := 11) hx hb dX3_loseHighest_47 (by decide) ?_
            exact ih11 (left + (-1)) (i + (-1)) (zU T1 10 (upd (T1 10) (Int32.toNatClampNeg i) (-1))) (by have e9 := zdecf (x := i) (f := first) (by assumption) (by omega); omega) (by have e9 := zdecf (x := i) (f := first) (by assumption) (by omega); omega) (by have e9 := zdecf (x := i) (f := first) (by assumption) (by omega); omega) _ _ hP hD hS ls (lv_sub hl [2, 3, 4, 5, 1, 0] rfl) hq
  exact L11 101 many (nI ((first + 100) - 1)) T (by rw [nI_toInt (by omega)]; omega) (by rw [nI_toInt (by omega)]; omega) (by rw [nI_toInt (by omega)]; omega) _ _ hP hD hS ls (lv_sub hl [2, 3, 4, 5, 1, 0] rfl) hq
def v_X3_lowerTo (T : Nat → Nat → Int32) (b : Nat) (to : Int32) : (Nat → Nat → Int32) := (if (v_X4_isGroup (T 5 b)) = true then zU (v_X3_loseHighest T b ((Int32.toNatClampNeg (T 5 b)) * 100) ((T 7 b) - to)) 7 (upd ((v_X3_loseHighest T b ((Int32.toNatClampNeg (T 5 b)) * 100) ((T 7 b) - to)) 7) b to) else zU T 7 (upd (T 7) b to))
set_option maxHeartbeats 400000 in
set_option maxRecDepth 100000 in
theorem c_X3_lowerTo (l : Launch) (D : va_G) (g : Nat → ClassId) (h : Nat → Nat) (T : Nat → Nat → Int32) (b : Nat) (to : Int32) (z0 : b < 8) : Wr l D (zT g) yX3_lowerTo wsX3_lowerTo (rmOf 1 25) [.ref (h 0), .int (nI b), .int to] (zB_X3 (g 0) h T) (none) (zB_X3 (g 0) h (v_X3_lowerTo T b to)) := by
  refine Wr.of (cc := cX3_lowerTo) (maxL := 4) (ret := none) (by decide) rfl (Nat.le_of_ble_eq_true rfl) ?_
  intro p e s m below meth c ls hx hb hr hml hown hts hlocks hP hD hS hK hl
  have hown : s.vm.findClass RX3 = some m.cls := hown
  have hinX3 : ∀ w ∈ u_ws RX3 TX3 15, w ∈ wsX3_lowerTo := fun _ h9 => (List.mem_cons_of_mem _ (List.mem_append_right _ h9))
  obtain ⟨q, hq⟩ : ∃ q : (Nat → Nat → Int32), q = v_X3_lowerTo T b to := ⟨_, rfl⟩
  rw [← hq]
  unfold v_X3_lowerTo at hq
  have hl : lv_has ls 4 [(0, .ref (h 0)), (1, .int (nI b)), (2, .int to)] := hl
  refine lv_aload_n hx hb dX3_lowerTo_0 rfl (lv_at hl 0 rfl) ?_
  refine va_get (D := D) (ci := 3) (v := .ref (h 6)) (C := RX3) (T := TX3) (N := 15) hx hb hts hinX3 hown hK.1 hP 0 rfl rfl 5 (by decide) (hts (.fieldLink RX3 9 "SaltShares$Town" "groupOf" "[I") (List.mem_of_getElem? (i := 1) rfl)) (fun _ h9 => h9) rfl dX3_lowerTo_1 ?_
  refine lv_iload_n hx hb dX3_lowerTo_4 rfl (lv_at hl 1 rfl) ?_
  refine z_iald (i := b) hx hb hK hP 1 0 rfl rfl (by omega) (by decide) dX3_lowerTo_5 ?_
  refine lv_istore_n (lv' := [(3, .int (T 5 b)), (0, .ref (h 0)), (1, .int (nI b)), (2, .int to)]) hx hb dX3_lowerTo_6 rfl hl (by decide) rfl (fun ls hl => ?_)
  refine lv_iload_n hx hb dX3_lowerTo_7 rfl (lv_at hl 0 rfl) ?_
  refine zcSN (n := 1) (c_X4_isGroup l D g (T 5 b)) hx hb hml hown hts gX3_lowerTo_X4_isGroup_n68 rfl ⟨by decide, by decide, by decide⟩ ⟨Nat.le_of_ble_eq_true rfl, Nat.le_of_ble_eq_true rfl⟩ ⟨rfl, rfl⟩ (List.mem_of_getElem? (i := 0) rfl) (List.mem_of_getElem? (i := 4) rfl) (List.mem_of_getElem? (i := 3) rfl) hK (hP.sub [] rfl) hl.1 rfl rfl (Nat.le_of_ble_eq_true rfl) ⟨Nat.zero_le _, Nat.zero_le _⟩ dX3_lowerTo_8 ?_
  refine zif_eq (tgt := 31) hx hb dX3_lowerTo_11 (by decide) (fun c_2 => ?_) (fun c_2 => ?_)
  · have hq := hq.trans (zif_f c_2)
    refine lv_aload_n hx hb dX3_lowerTo_31 rfl (lv_at hl 1 rfl) ?_
    refine va_get (D := D) (ci := 3) (v := .ref (h 8)) (C := RX3) (T := TX3) (N := 15) hx hb hts hinX3 hown hK.1 hP 0 rfl rfl 7 (by decide) (hts (.fieldLink RX3 18 "SaltShares$Town" "share" "[I") (List.mem_of_getElem? (i := 2) rfl)) (fun _ h9 => h9) rfl dX3_lowerTo_32 ?_
    refine lv_iload_n hx hb dX3_lowerTo_35 rfl (lv_at hl 2 rfl) ?_
    refine lv_iload_n hx hb dX3_lowerTo_36 rfl (lv_at hl 3 rfl) ?_
    refine z_iast (i := b) (x := to) hx hb hK hP hD hS 3 0 rfl rfl (by omega) (by decide) dX3_lowerTo_37 (fun H locs hP hD hS => ?_)
    have hP : va_P D vwCl (zB_X3 (g 0) h (zU T 7 (upd (T 7) b to))) H := hP
    have hD : va_D (zA (zB_X3 (g 0) h T)) (zB_X3 (g 0) h (zU T 7 (upd (T 7) b to))) := hD
    exact zretw_v hx hb hr hlocks dX3_lowerTo_38 hP hS (congrArg (fun z9 => zB_X3 (g 0) h z9) hq)
  · have hq := hq.trans (zif_t c_2)
    have w_3 := znat (zin_g (by assumption))
    have w_3b := w_3.2
    have hl : lv_has ls 4 [(3, .int (nI (Int32.toNatClampNeg (T 5 b)))), (0, .ref (h 0)), (1, .int (nI b)), (2, .int to)] := by rw [← w_3.1]; exact hl
    refine lv_aload_n hx hb dX3_lowerTo_14 rfl (lv_at hl 1 rfl) ?_
    refine lv_iload_n hx hb dX3_lowerTo_15 rfl (lv_at hl 2 rfl) ?_
    refine lv_iload_n hx hb dX3_lowerTo_16 rfl (lv_at hl 0 rfl) ?_
    refine lv_bipush (v := 100) hx hb dX3_lowerTo_17 (by decide) ?_
    refine lv_imul hx hb dX3_lowerTo_19 ?_
    refine lv_is (show (nI (Int32.toNatClampNeg (T 5 b))) * 100 = (nI ((Int32.toNatClampNeg (T 5 b)) * 100)) from pk_mul (Int32.toNatClampNeg (T 5 b)) 100) ?_
    refine lv_aload_n hx hb dX3_lowerTo_20 rfl (lv_at hl 1 rfl) ?_
    refine va_get (D := D) (ci := 3) (v := .ref (h 8)) (C := RX3) (T := TX3) (N := 15) hx hb hts hinX3 hown hK.1 hP 0 rfl rfl 7 (by decide) (hts (.fieldLink RX3 18 "SaltShares$Town" "share" "[I") (List.mem_of_getElem? (i := 2) rfl)) (fun _ h9 => h9) rfl dX3_lowerTo_21 ?_
    refine lv_iload_n hx hb dX3_lowerTo_24 rfl (lv_at hl 2 rfl) ?_
    refine z_iald (i := b) hx hb hK hP 3 0 rfl rfl (by omega) (by decide) dX3_lowerTo_25 ?_
    refine lv_iload_n hx hb dX3_lowerTo_26 rfl (lv_at hl 3 rfl) ?_
    refine lv_isub hx hb dX3_lowerTo_27 ?_
    refine zcVw (ci := 3) (n := 3) (c_X3_loseHighest l D g h T b ((Int32.toNatClampNeg (T 5 b)) * 100) ((T 7 b) - to) (by omega)) hx hb hml hown hts gX3_lowerTo_X3_loseHighest rfl ⟨rfl, by decide, by decide, by decide⟩ ⟨Nat.le_of_ble_eq_true rfl, Nat.le_of_ble_eq_true rfl⟩ ⟨rfl, rfl⟩ hK hP hD rfl rfl rfl hS hl.1 rfl rfl (Nat.le_of_ble_eq_true rfl) ⟨Nat.zero_le _, Nat.zero_le _⟩ dX3_lowerTo_28 (fun H1 locs hP1 hk1 hS => ?_)
    have hD := zD_addr (ws' := zB_X3 (g 0) h (v_X3_loseHighest T b ((Int32.toNatClampNeg (T 5 b)) * 100) ((T 7 b) - to))) hD rfl; have hP := hP1
    clear hP1 hk1
    have hP : va_P D vwCl (zB_X3 (g 0) h (v_X3_loseHighest T b ((Int32.toNatClampNeg (T 5 b)) * 100) ((T 7 b) - to))) H1 := hP
    have hD : va_D (zA (zB_X3 (g 0) h T)) (zB_X3 (g 0) h (v_X3_loseHighest T b ((Int32.toNatClampNeg (T 5 b)) * 100) ((T 7 b) - to))) := hD
    refine lv_aload_n hx hb dX3_lowerTo_31 rfl (lv_at hl 1 rfl) ?_
    refine va_get (D := D) (ci := 3) (v := .ref (h 8)) (C := RX3) (T := TX3) (N := 15) hx hb hts hinX3 hown hK.1 hP 0 rfl rfl 7 (by decide) (hts (.fieldLink RX3 18 "SaltShares$Town" "share" "[I") (List.mem_of_getElem? (i := 2) rfl)) (fun _ h9 => h9) rfl dX3_lowerTo_32 ?_
    refine lv_iload_n hx hb dX3_lowerTo_35 rfl (lv_at hl 2 rfl) ?_
    refine lv_iload_n hx hb dX3_lowerTo_36 rfl (lv_at hl 3 rfl) ?_
    refine z_iast (i := b) (x := to) hx hb hK hP hD hS 3 0 rfl rfl (by omega) (by decide) dX3_lowerTo_37 (fun H locs hP hD hS => ?_)
    have hP : va_P D vwCl (zB_X3 (g 0) h (zU (v_X3_loseHighest T b ((Int32.toNatClampNeg (T 5 b)) * 100) ((T 7 b) - to)) 7 (upd ((v_X3_loseHighest T b ((Int32.toNatClampNeg (T 5 b)) * 100) ((T 7 b) - to)) 7) b to))) H := hP
    have hD : va_D (zA (zB_X3 (g 0) h T)) (zB_X3 (g 0) h (zU (v_X3_loseHighest T b ((Int32.toNatClampNeg (T 5 b)) * 100) ((T 7 b) - to)) 7 (upd ((v_X3_loseHighest T b ((Int32.toNatClampNeg (T 5 b)) * 100) ((T 7 b) - to)) 7) b to))) := hD
    exact zretw_v hx hb hr hlocks dX3_lowerTo_38 hP hS (congrArg (fun z9 => zB_X3 (g 0) h z9) hq)
def v_X3_closeBread (T : Nat → Nat → Int32) (b : Nat) : (Nat → Nat → Int32) := zU (v_X3_lowerTo T b 0) 3 (fun _ => (((v_X3_lowerTo T b 0) 3 0) &&& (((1 : Int32) <<< ((nI b) &&& 31)) ^^^ (-1))))
set_option maxHeartbeats 400000 in
set_option maxRecDepth 100000 in
theorem c_X3_closeBread (l : Launch) (D : va_G) (g : Nat → ClassId) (h : Nat → Nat) (T : Nat → Nat → Int32) (b : Nat) (z0 : b < 8) : Wr l D (zT g) yX3_closeBread wsX3_closeBread (rmOf 2 48) [.ref (h 0), .int (nI b)] (zB_X3 (g 0) h T) (none) (zB_X3 (g 0) h (v_X3_closeBread T b)) := by
  refine Wr.of (cc := cX3_closeBread) (maxL := 2) (ret := none) (by decide) rfl (Nat.le_of_ble_eq_true rfl) ?_
  intro p e s m below meth c ls hx hb hr hml hown hts hlocks hP hD hS hK hl
  have hown : s.vm.findClass RX3 = some m.cls := hown
  have hinX3 : ∀ w ∈ u_ws RX3 TX3 15, w ∈ wsX3_closeBread := fun _ h9 => (List.mem_cons_of_mem _ (List.mem_append_right _ h9))
  obtain ⟨q, hq⟩ : ∃ q : (Nat → Nat → Int32), q = v_X3_closeBread T b := ⟨_, rfl⟩
  rw [← hq]
  unfold v_X3_closeBread at hq
  have hl : lv_has ls 2 [(0, .ref (h 0)), (1, .int (nI b))] := hl
  refine lv_aload_n hx hb dX3_closeBread_0 rfl (lv_at hl 0 rfl) ?_
  refine lv_iload_n hx hb dX3_closeBread_1 rfl (lv_at hl 1 rfl) ?_
  refine lv_iconst (v := 0) hx hb dX3_closeBread_2 (by decide) ?_
  refine zcVw (ci := 3) (n := 2) (c_X3_lowerTo l D g h T b 0 (by omega)) hx hb hml hown hts gX3_closeBread_X3_lowerTo rfl ⟨rfl, by decide, by decide, by decide⟩ ⟨Nat.le_of_ble_eq_true rfl, Nat.le_of_ble_eq_true rfl⟩ ⟨rfl, rfl⟩ hK hP hD rfl rfl rfl hS hl.1 rfl rfl (Nat.le_of_ble_eq_true rfl) ⟨Nat.zero_le _, Nat.zero_le _⟩ dX3_closeBread_3 (fun H1 locs hP1 hk1 hS => ?_)
  have hD := zD_addr (ws' := zB_X3 (g 0) h (v_X3_lowerTo T b 0)) hD rfl; have hP := hP1
  clear hP1 hk1
  have hP : va_P D vwCl (zB_X3 (g 0) h (v_X3_lowerTo T b 0)) H1 := hP
  have hD : va_D (zA (zB_X3 (g 0) h T)) (zB_X3 (g 0) h (v_X3_lowerTo T b 0)) := hD
  refine lv_aload_n hx hb dX3_closeBread_6 rfl (lv_at hl 0 rfl) ?_
  refine lv_dup hx hb dX3_closeBread_7 rfl ?_
  refine va_get (D := D) (ci := 3) (v := .int ((v_X3_lowerTo T b 0) 3 0)) (C := RX3) (T := TX3) (N := 15) hx hb hts hinX3 hown hK.1 hP 0 rfl rfl 3 (by decide) (hts (.fieldLink RX3 52 "SaltShares$Town" "openOnes" "I") (List.mem_of_getElem? (i := 1) rfl)) (fun _ h9 => h9) rfl dX3_closeBread_8 ?_
  refine lv_iconst (v := 1) hx hb dX3_closeBread_11 (by decide) ?_
  refine lv_iload_n hx hb dX3_closeBread_12 rfl (lv_at hl 1 rfl) ?_
  refine lv_ishl hx hb dX3_closeBread_13 ?_
  refine lv_iconst (v := (-1)) hx hb dX3_closeBread_14 (by decide) ?_
  refine lv_ixor hx hb dX3_closeBread_15 ?_
  refine lv_iand hx hb dX3_closeBread_16 ?_
  refine va_put (D := D) (ci := 3) (v := .int (((v_X3_lowerTo T b 0) 3 0) &&& (((1 : Int32) <<< ((nI b) &&& 31)) ^^^ (-1)))) (ty := .int) (C := RX3) (T := TX3) (N := 15) hx hb hts hinX3 tyX3 tyX3_ok nmX3 hown hK.1 hP hD hS 0 rfl rfl 3 (by decide) (hts (.fieldLink RX3 52 "SaltShares$Town" "openOnes" "I") (List.mem_of_getElem? (i := 1) rfl)) (fun _ h9 => h9) rfl (by decide +kernel) rfl rfl (Nat.le_of_ble_eq_true rfl) dX3_closeBread_17 (fun H locs hP hD hS => ?_)
  have hP : va_P D vwCl (zB_X3 (g 0) h (zU (v_X3_lowerTo T b 0) 3 (fun _ => (((v_X3_lowerTo T b 0) 3 0) &&& (((1 : Int32) <<< ((nI b) &&& 31)) ^^^ (-1)))))) H := hP
  have hD : va_D (zA (zB_X3 (g 0) h T)) (zB_X3 (g 0) h (zU (v_X3_lowerTo T b 0) 3 (fun _ => (((v_X3_lowerTo T b 0) 3 0) &&& (((1 : Int32) <<< ((nI b) &&& 31)) ^^^ (-1)))))) := hD
  exact zretw_v hx hb hr hlocks dX3_closeBread_20 hP hS (congrArg (fun z9 => zB_X3 (g 0) h z9) hq)
def v_X3_dropHold (T : Nat → Nat → Int32) (pe : Nat) (b : Nat) : (Nat → Nat → Int32) := zU (zU T 11 (upd (T 11) pe ((T 11 pe) &&& (((1 : Int32) <<< ((nI b) &&& 31)) ^^^ (-1))))) 12 (upd (T 12) pe ((T 12 pe) &&& (((1 : Int32) <<< ((nI b) &&& 31)) ^^^ (-1))))
set_option maxHeartbeats 400000 in
set_option maxRecDepth 100000 in
theorem c_X3_dropHold (l : Launch) (D : va_G) (g : Nat → ClassId) (h : Nat → Nat) (T : Nat → Nat → Int32) (pe : Nat) (b : Nat) (z0 : pe < 150) (z1 : b < 8) : Wr l D (zT g) yX3_dropHold wsX3_dropHold (rmOf 0 0) [.ref (h 0), .int (nI pe), .int (nI b)] (zB_X3 (g 0) h T) (none) (zB_X3 (g 0) h (v_X3_dropHold T pe b)) := by
  refine Wr.of (cc := cX3_dropHold) (maxL := 3) (ret := none) (by decide) rfl (Nat.le_of_ble_eq_true rfl) ?_
  intro p e s m below meth c ls hx hb hr hml hown hts hlocks hP hD hS hK hl
  have hown : s.vm.findClass RX3 = some m.cls := hown
  have hinX3 : ∀ w ∈ u_ws RX3 TX3 15, w ∈ wsX3_dropHold := fun _ h9 => (List.mem_cons_of_mem _ (List.mem_append_right _ h9))
  obtain ⟨q, hq⟩ : ∃ q : (Nat → Nat → Int32), q = v_X3_dropHold T pe b := ⟨_, rfl⟩
  rw [← hq]
  unfold v_X3_dropHold at hq
  have hl : lv_has ls 3 [(0, .ref (h 0)), (1, .int (nI pe)), (2, .int (nI b))] := hl
  refine lv_aload_n hx hb dX3_dropHold_0 rfl (lv_at hl 0 rfl) ?_
  refine va_get (D := D) (ci := 3) (v := .ref (h 12)) (C := RX3) (T := TX3) (N := 15) hx hb hts hinX3 hown hK.1 hP 0 rfl rfl 11 (by decide) (hts (.fieldLink RX3 30 "SaltShares$Town" "heldIn" "[I") (List.mem_of_getElem? (i := 1) rfl)) (fun _ h9 => h9) rfl dX3_dropHold_1 ?_
  refine lv_iload_n hx hb dX3_dropHold_4 rfl (lv_at hl 1 rfl) ?_
  refine lv_dup2_11 hx hb dX3_dropHold_5 rfl rfl ?_
  refine z_iald (i := pe) hx hb hK hP 7 0 rfl rfl (by omega) (by decide) dX3_dropHold_6 ?_
  refine lv_iconst (v := 1) hx hb dX3_dropHold_7 (by decide) ?_
  refine lv_iload_n hx hb dX3_dropHold_8 rfl (lv_at hl 2 rfl) ?_
  refine lv_ishl hx hb dX3_dropHold_9 ?_
  refine lv_iconst (v := (-1)) hx hb dX3_dropHold_10 (by decide) ?_
  refine lv_ixor hx hb dX3_dropHold_11 ?_
  refine lv_iand hx hb dX3_dropHold_12 ?_
  refine z_iast (i := pe) (x := ((T 11 pe) &&& (((1 : Int32) <<< ((nI b) &&& 31)) ^^^ (-1)))) hx hb hK hP hD hS 7 0 rfl rfl (by omega) (by decide) dX3_dropHold_13 (fun H locs hP hD hS => ?_)
  have hP : va_P D vwCl (zB_X3 (g 0) h (zU T 11 (upd (T 11) pe ((T 11 pe) &&& (((1 : Int32) <<< ((nI b) &&& 31)) ^^^ (-1)))))) H := hP
  have hD : va_D (zA (zB_X3 (g 0) h T)) (zB_X3 (g 0) h (zU T 11 (upd (T 11) pe ((T 11 pe) &&& (((1 : Int32) <<< ((nI b) &&& 31)) ^^^ (-1)))))) := hD
  refine lv_aload_n hx hb dX3_dropHold_14 rfl (lv_at hl 0 rfl) ?_
  refine va_get (D := D) (ci := 3) (v := .ref (h 13)) (C := RX3) (T := TX3) (N := 15) hx hb hts hinX3 hown hK.1 hP 0 rfl rfl 12 (by decide) (hts (.fieldLink RX3 33 "SaltShares$Town" "heldOut" "[I") (List.mem_of_getElem? (i := 2) rfl)) (fun _ h9 => h9) rfl dX3_dropHold_15 ?_
  refine lv_iload_n hx hb dX3_dropHold_18 rfl (lv_at hl 1 rfl) ?_
  refine lv_dup2_11 hx hb dX3_dropHold_19 rfl rfl ?_
  refine z_iald (i := pe) hx hb hK hP 8 0 rfl rfl (by omega) (by decide) dX3_dropHold_20 ?_
  refine lv_iconst (v := 1) hx hb dX3_dropHold_21 (by decide) ?_
  refine lv_iload_n hx hb dX3_dropHold_22 rfl (lv_at hl 2 rfl) ?_
  refine lv_ishl hx hb dX3_dropHold_23 ?_
  refine lv_iconst (v := (-1)) hx hb dX3_dropHold_24 (by decide) ?_
  refine lv_ixor hx hb dX3_dropHold_25 ?_
  refine lv_iand hx hb dX3_dropHold_26 ?_
  refine z_iast (i := pe) (x := ((T 12 pe) &&& (((1 : Int32) <<< ((nI b) &&& 31)) ^^^ (-1)))) hx hb hK hP hD hS 8 0 rfl rfl (by omega) (by decide) dX3_dropHold_27 (fun H locs hP hD hS => ?_)
  have hP : va_P D vwCl (zB_X3 (g 0) h (zU (zU T 11 (upd (T 11) pe ((T 11 pe) &&& (((1 : Int32) <<< ((nI b) &&& 31)) ^^^ (-1))))) 12 (upd (T 12) pe ((T 12 pe) &&& (((1 : Int32) <<< ((nI b) &&& 31)) ^^^ (-1)))))) H := hP
  have hD : va_D (zA (zB_X3 (g 0) h T)) (zB_X3 (g 0) h (zU (zU T 11 (upd (T 11) pe ((T 11 pe) &&& (((1 : Int32) <<< ((nI b) &&& 31)) ^^^ (-1))))) 12 (upd (T 12) pe ((T 12 pe) &&& (((1 : Int32) <<< ((nI b) &&& 31)) ^^^ (-1)))))) := hD
  exact zretw_v hx hb hr hlocks dX3_dropHold_28 hP hS (congrArg (fun z9 => zB_X3 (g 0) h z9) hq)
def v_X3_setHold (T : Nat → Nat → Int32) (pe : Nat) (b : Nat) (isin : Bool) : (Nat → Nat → Int32) := (if isin = true then zU (v_X3_dropHold T pe b) 11 (upd ((v_X3_dropHold T pe b) 11) pe ((((v_X3_dropHold T pe b) 11) pe) ||| ((1 : Int32) <<< ((nI b) &&& 31)))) else zU (v_X3_dropHold T pe b) 12 (upd ((v_X3_dropHold T pe b) 12) pe ((((v_X3_dropHold T pe b) 12) pe) ||| ((1 : Int32) <<< ((nI b) &&& 31)))))
set_option maxHeartbeats 400000 in
set_option maxRecDepth 100000 in
theorem c_X3_setHold (l : Launch) (D : va_G) (g : Nat → ClassId) (h : Nat → Nat) (T : Nat → Nat → Int32) (pe : Nat) (b : Nat) (isin : Bool) (z0 : pe < 150) (z1 : b < 8) : Wr l D (zT g) yX3_setHold wsX3_setHold (rmOf 1 22) [.ref (h 0), .int (nI pe), .int (nI b), .int (bI isin)] (zB_X3 (g 0) h T) (none) (zB_X3 (g 0) h (v_X3_setHold T pe b isin)) := by
  refine Wr.of (cc := cX3_setHold) (maxL := 4) (ret := none) (by decide) rfl (Nat.le_of_ble_eq_true rfl) ?_
  intro p e s m below meth c ls hx hb hr hml hown hts hlocks hP hD hS hK hl
  have hown : s.vm.findClass RX3 = some m.cls := hown
  have hinX3 : ∀ w ∈ u_ws RX3 TX3 15, w ∈ wsX3_setHold := fun _ h9 => (List.mem_cons_of_mem _ (List.mem_append_right _ h9))
  obtain ⟨q, hq⟩ : ∃ q : (Nat → Nat → Int32), q = v_X3_setHold T pe b isin := ⟨_, rfl⟩
  rw [← hq]
  unfold v_X3_setHold at hq
  have hl : lv_has ls 4 [(0, .ref (h 0)), (1, .int (nI pe)), (2, .int (nI b)), (3, .int (bI isin))] := hl
  refine lv_aload_n hx hb dX3_setHold_0 rfl (lv_at hl 0 rfl) ?_
  refine lv_iload_n hx hb dX3_setHold_1 rfl (lv_at hl 1 rfl) ?_
  refine lv_iload_n hx hb dX3_setHold_2 rfl (lv_at hl 2 rfl) ?_
  refine zcVw (ci := 3) (n := 2) (c_X3_dropHold l D g h T pe b (by omega) (by omega)) hx hb hml hown hts gX3_setHold_X3_dropHold rfl ⟨rfl, by decide, by decide, by decide⟩ ⟨Nat.le_of_ble_eq_true rfl, Nat.le_of_ble_eq_true rfl⟩ ⟨rfl, rfl⟩ hK hP hD rfl rfl rfl hS hl.1 rfl rfl (Nat.le_of_ble_eq_true rfl) ⟨Nat.zero_le _, Nat.zero_le _⟩ dX3_setHold_3 (fun H1 locs hP1 hk1 hS => ?_)
  have hD := zD_addr (ws' := zB_X3 (g 0) h (v_X3_dropHold T pe b)) hD rfl; have hP := hP1
  clear hP1 hk1
  have hP : va_P D vwCl (zB_X3 (g 0) h (v_X3_dropHold T pe b)) H1 := hP
  have hD : va_D (zA (zB_X3 (g 0) h T)) (zB_X3 (g 0) h (v_X3_dropHold T pe b)) := hD
  refine lv_iload_n hx hb dX3_setHold_6 rfl (lv_at hl 3 rfl) ?_
  refine zif_eq (tgt := 25) hx hb dX3_setHold_7 (by decide) (fun c_2 => ?_) (fun c_2 => ?_)
  · have hq := hq.trans (zif_f c_2)
    refine lv_aload_n hx hb dX3_setHold_25 rfl (lv_at hl 0 rfl) ?_
    refine va_get (D := D) (ci := 3) (v := .ref (h 13)) (C := RX3) (T := TX3) (N := 15) hx hb hts hinX3 hown hK.1 hP 0 rfl rfl 12 (by decide) (hts (.fieldLink RX3 33 "SaltShares$Town" "heldOut" "[I") (List.mem_of_getElem? (i := 2) rfl)) (fun _ h9 => h9) rfl dX3_setHold_26 ?_
    refine lv_iload_n hx hb dX3_setHold_29 rfl (lv_at hl 1 rfl) ?_
    refine lv_dup2_11 hx hb dX3_setHold_30 rfl rfl ?_
    refine z_iald (i := pe) hx hb hK hP 8 0 rfl rfl (by omega) (by decide) dX3_setHold_31 ?_
    refine lv_iconst (v := 1) hx hb dX3_setHold_32 (by decide) ?_
    refine lv_iload_n hx hb dX3_setHold_33 rfl (lv_at hl 2 rfl) ?_
    refine lv_ishl hx hb dX3_setHold_34 ?_
    refine lv_ior hx hb dX3_setHold_35 ?_
    refine z_iast (i := pe) (x := ((((v_X3_dropHold T pe b) 12) pe) ||| ((1 : Int32) <<< ((nI b) &&& 31)))) hx hb hK hP hD hS 8 0 rfl rfl (by omega) (by decide) dX3_setHold_36 (fun H locs hP hD hS => ?_)
    have hP : va_P D vwCl (zB_X3 (g 0) h (zU (v_X3_dropHold T pe b) 12 (upd ((v_X3_dropHold T pe b) 12) pe ((((v_X3_dropHold T pe b) 12) pe) ||| ((1 : Int32) <<< ((nI b) &&& 31)))))) H := hP
    have hD : va_D (zA (zB_X3 (g 0) h T)) (zB_X3 (g 0) h (zU (v_X3_dropHold T pe b) 12 (upd ((v_X3_dropHold T pe b) 12) pe ((((v_X3_dropHold T pe b) 12) pe) ||| ((1 : Int32) <<< ((nI b) &&& 31)))))) := hD
    exact zretw_v hx hb hr hlocks dX3_setHold_37 hP hS (congrArg (fun z9 => zB_X3 (g 0) h z9) hq)
  · have hq := hq.trans (zif_t c_2)
    refine lv_aload_n hx hb dX3_setHold_10 rfl (lv_at hl 0 rfl) ?_
    refine va_get (D := D) (ci := 3) (v := .ref (h 12)) (C := RX3) (T := TX3) (N := 15) hx hb hts hinX3 hown hK.1 hP 0 rfl rfl 11 (by decide) (hts (.fieldLink RX3 30 "SaltShares$Town" "heldIn" "[I") (List.mem_of_getElem? (i := 1) rfl)) (fun _ h9 => h9) rfl dX3_setHold_11 ?_
    refine lv_iload_n hx hb dX3_setHold_14 rfl (lv_at hl 1 rfl) ?_
    refine lv_dup2_11 hx hb dX3_setHold_15 rfl rfl ?_
    refine z_iald (i := pe) hx hb hK hP 7 0 rfl rfl (by omega) (by decide) dX3_setHold_16 ?_
    refine lv_iconst (v := 1) hx hb dX3_setHold_17 (by decide) ?_
    refine lv_iload_n hx hb dX3_setHold_18 rfl (lv_at hl 2 rfl) ?_
    refine lv_ishl hx hb dX3_setHold_19 ?_
    refine lv_ior hx hb dX3_setHold_20 ?_
    refine z_iast (i := pe) (x := ((((v_X3_dropHold T pe b) 11) pe) ||| ((1 : Int32) <<< ((nI b) &&& 31)))) hx hb hK hP hD hS 7 0 rfl rfl (by omega) (by decide) dX3_setHold_21 (fun H locs hP hD hS => ?_)
    have hP : va_P D vwCl (zB_X3 (g 0) h (zU (v_X3_dropHold T pe b) 11 (upd ((v_X3_dropHold T pe b) 11) pe ((((v_X3_dropHold T pe b) 11) pe) ||| ((1 : Int32) <<< ((nI b) &&& 31)))))) H := hP
    have hD : va_D (zA (zB_X3 (g 0) h T)) (zB_X3 (g 0) h (zU (v_X3_dropHold T pe b) 11 (upd ((v_X3_dropHold T pe b) 11) pe ((((v_X3_dropHold T pe b) 11) pe) ||| ((1 : Int32) <<< ((nI b) &&& 31)))))) := hD
    refine lv_goto (tgt := 37) hx hb dX3_setHold_22 (by decide) ?_
    exact zretw_v hx hb hr hlocks dX3_setHold_37 hP hS (congrArg (fun z9 => zB_X3 (g 0) h z9) hq)
def v_X3_letPass_18 (days : Int32) (pe : Nat) (T1 : Nat → Nat → Int32) : Nat → Nat → (Nat → Nat → Int32) → Nat × (Nat → Nat → Int32)
  | 0, _, _ => (0, (fun _ _ => 0))
  | n + 1, i, T1' => (if 8 ≤ i then (i, T1') else (if (((v_X3_breadsEatenBy T1 pe) >>> ((nI i) &&& 31)) &&& 1) = 0 then v_X3_letPass_18 days pe T1 n (i + 1) T1' else v_X3_letPass_18 days pe T1 n (i + 1) (zU T1' 8 (upd (T1' 8) i ((T1' 8 i) + days)))))
def v_X3_letPass_2 (days : Int32) : Nat → Nat → (Nat → Nat → Int32) → (Nat → Nat → Int32)
  | 0, _, _ => ((fun _ _ => 0))
  | n + 1, pe, T1 => (if 150 ≤ pe then zU T1 1 (fun _ => ((T1 1 0) + days)) else v_X3_letPass_2 days n (pe + 1) (zU (zU (zU ((v_X3_letPass_18 days pe T1 9 0 T1).2) 13 (upd (((v_X3_letPass_18 days pe T1 9 0 T1).2) 13) pe (((((v_X3_letPass_18 days pe T1 9 0 T1).2) 13) pe) ||| (v_X3_breadsEatenBy T1 pe)))) 14 (upd (((v_X3_letPass_18 days pe T1 9 0 T1).2) 14) pe (((((v_X3_letPass_18 days pe T1 9 0 T1).2) 14) pe) + (days * (v_J6_bitCount_0f7a4 (v_X3_breadsEatenBy T1 pe)))))) 2 (fun _ => ((((v_X3_letPass_18 days pe T1 9 0 T1).2) 2 0) + (days * (v_J6_bitCount_0f7a4 (v_X3_breadsEatenBy T1 pe)))))))
def v_X3_letPass (T : Nat → Nat → Int32) (days : Int32) : (Nat → Nat → Int32) := v_X3_letPass_2 days 151 0 T
set_option maxHeartbeats 400000 in
set_option maxRecDepth 100000 in
theorem c_X3_letPass (l : Launch) (D : va_G) (g : Nat → ClassId) (h : Nat → Nat) (T : Nat → Nat → Int32) (days : Int32) : Wr l D (zT g) yX3_letPass wsX3_letPass (rmOf 3 70) [.ref (h 0), .int days] (zB_X3 (g 0) h T) (none) (zB_X3 (g 0) h (v_X3_letPass T days)) := by
  refine Wr.of (cc := cX3_letPass) (maxL := 5) (ret := none) (by decide) rfl (Nat.le_of_ble_eq_true rfl) ?_
  intro p e s m below meth c ls hx hb hr hml hown hts hlocks hP hD hS hK hl
  have hown : s.vm.findClass RX3 = some m.cls := hown
  have hinX3 : ∀ w ∈ u_ws RX3 TX3 15, w ∈ wsX3_letPass := fun _ h9 => (List.mem_cons_of_mem _ (List.mem_append_right _ h9))
  obtain ⟨q, hq⟩ : ∃ q : (Nat → Nat → Int32), q = v_X3_letPass T days := ⟨_, rfl⟩
  rw [← hq]
  unfold v_X3_letPass at hq
  have hl : lv_has ls 5 [(0, .ref (h 0)), (1, .int days)] := hl
  refine lv_iconst (v := 0) hx hb dX3_letPass_0 (by decide) ?_
  refine lv_istore_n (lv' := [(2, .int 0), (0, .ref (h 0)), (1, .int days)]) hx hb dX3_letPass_1 rfl hl (by decide) rfl (fun ls hl => ?_)
  have L2 : ∀ (n : Nat) (pe : Nat) (T1 : Nat → Nat → Int32), (pe ≤ 150) → 150 - pe < n → ∀ (H : Heap) (locs : List Loc), va_P D vwCl (zB_X3 (g 0) h T1) H → va_D (zA (zB_X3 (g 0) h T)) (zB_X3 (g 0) h T1) → va_S (zA (zB_X3 (g 0) h T)) s.heap H locs → ∀ (ls : Array Slot), lv_has ls 5 [(0, .ref (h 0)), (1, .int days), (2, .int (nI pe))] → q = v_X3_letPass_2 days n pe T1 → W p l e (rmOf 3 70) s m [.ref (h 0), .int days].toArray below meth c H locs 0 0 (MQ below (zQw D (zB_X3 (g 0) h T) (none) (zB_X3 (g 0) h q)) [.ref (h 0), .int days].toArray s 0 0 (zA (zB_X3 (g 0) h T))) (F0 m 2 ls []) := by
    intro n
    induction n with
    | zero => intro pe T1 v2_0 hn; exact absurd hn (Nat.not_lt_zero _)
    | succ n ih2 =>
      intro pe T1 v2_0 hn2 H locs hP hD hS ls hl hq
      rw [v_X3_letPass_2] at hq
      refine lv_iload_n hx hb dX3_letPass_2 rfl (lv_at hl 2 rfl) ?_
      refine lv_sipush (v := 150) hx hb dX3_letPass_3 (by decide) ?_
      refine lv_icmp_ge (tgt := 97) hx hb dX3_letPass_6 (by decide) (fun c_1 => ?_) (fun c_1 => ?_)
      · have c_1 : 150 ≤ pe := (nI_leI (a := 150) (b := pe) (by omega) (by omega)).mp c_1
        have hq := hq.trans (if_pos c_1)
        refine lv_aload_n hx hb dX3_letPass_97 rfl (lv_at hl 0 rfl) ?_
        refine lv_dup hx hb dX3_letPass_98 rfl ?_
        refine va_get (D := D) (ci := 3) (v := .int (T1 1 0)) (C := RX3) (T := TX3) (N := 15) hx hb hts hinX3 hown hK.1 hP 0 rfl rfl 1 (by decide) (hts (.fieldLink RX3 46 "SaltShares$Town" "day" "I") (List.mem_of_getElem? (i := 5) rfl)) (fun _ h9 => h9) rfl dX3_letPass_99 ?_
        refine lv_iload_n hx hb dX3_letPass_102 rfl (lv_at hl 1 rfl) ?_
        refine lv_iadd hx hb dX3_letPass_103 ?_
        refine va_put (D := D) (ci := 3) (v := .int ((T1 1 0) + days)) (ty := .int) (C := RX3) (T := TX3) (N := 15) hx hb hts hinX3 tyX3 tyX3_ok nmX3 hown hK.1 hP hD hS 0 rfl rfl 1 (by decide) (hts (.fieldLink RX3 46 "SaltShares$Town" "day" "I") (List.mem_of_getElem? (i := 5) rfl)) (fun _ h9 => h9) rfl (by decide +kernel) rfl rfl (Nat.le_of_ble_eq_true rfl) dX3_letPass_104 (fun H locs hP hD hS => ?_)
        have hP : va_P D vwCl (zB_X3 (g 0) h (zU T1 1 (fun _ => ((T1 1 0) + days)))) H := hP
        have hD : va_D (zA (zB_X3 (g 0) h T)) (zB_X3 (g 0) h (zU T1 1 (fun _ => ((T1 1 0) + days)))) := hD
        exact zretw_v hx hb hr hlocks dX3_letPass_107 hP hS (congrArg (fun z9 => zB_X3 (g 0) h z9) hq)
      · have c_1 : ¬ (150 ≤ pe) := fun h9 => c_1 ((nI_leI (a := 150) (b := pe) (by omega) (by omega)).mpr h9)
        have hq := hq.trans (if_neg c_1)
        refine lv_aload_n hx hb dX3_letPass_9 rfl (lv_at hl 0 rfl) ?_
        refine lv_iload_n hx hb dX3_letPass_10 rfl (lv_at hl 2 rfl) ?_
        refine zcV (ci := 3) (n := 1) (c_X3_breadsEatenBy l D g h T1 pe (by omega)) hx hb hml hown hts gX3_letPass_X3_breadsEatenBy rfl ⟨rfl, by decide, by decide, by decide⟩ ⟨Nat.le_of_ble_eq_true rfl, Nat.le_of_ble_eq_true rfl⟩ ⟨rfl, rfl⟩ hK hP rfl rfl rfl hl.1 rfl rfl (Nat.le_of_ble_eq_true rfl) ⟨Nat.zero_le _, Nat.zero_le _⟩ dX3_letPass_11 ?_
        refine lv_istore_n (lv' := [(3, .int (v_X3_breadsEatenBy T1 pe)), (0, .ref (h 0)), (1, .int days), (2, .int (nI pe))]) hx hb dX3_letPass_14 rfl hl (by decide) rfl (fun ls hl => ?_)
        refine lv_iconst (v := 0) hx hb dX3_letPass_15 (by decide) ?_
        refine lv_istore (lv' := [(4, .int 0), (3, .int (v_X3_breadsEatenBy T1 pe)), (0, .ref (h 0)), (1, .int days), (2, .int (nI pe))]) hx hb dX3_letPass_16 hl (by decide) rfl (fun ls hl => ?_)
        have L18 : ∀ (n : Nat) (i : Nat) (T1' : Nat → Nat → Int32), (i ≤ 8) → 8 - i < n → ∀ (H : Heap) (locs : List Loc), va_P D vwCl (zB_X3 (g 0) h T1') H → va_D (zA (zB_X3 (g 0) h T)) (zB_X3 (g 0) h T1') → va_S (zA (zB_X3 (g 0) h T)) s.heap H locs → ∀ (ls : Array Slot), lv_has ls 5 [(0, .ref (h 0)), (1, .int days), (2, .int (nI pe)), (3, .int (v_X3_breadsEatenBy T1 pe)), (4, .int (nI i))] → ∀ (r18 : Nat × (Nat → Nat → Int32)), r18 = v_X3_letPass_18 days pe T1 n i T1' → (∀ (H : Heap) (locs : List Loc), va_P D vwCl (zB_X3 (g 0) h r18.2) H → va_D (zA (zB_X3 (g 0) h T)) (zB_X3 (g 0) h r18.2) → va_S (zA (zB_X3 (g 0) h T)) s.heap H locs → ∀ (ls : Array Slot), lv_has ls 5 [(0, .ref (h 0)), (1, .int days), (2, .int (nI pe)), (3, .int (v_X3_breadsEatenBy T1 pe)), (4, .int (nI r18.1))] → W p l e (rmOf 3 70) s m [.ref (h 0), .int days].toArray below meth c H locs 0 0 (MQ below (zQw D (zB_X3 (g 0) h T) (none) (zB_X3 (g 0) h q)) [.ref (h 0), .int days].toArray s 0 0 (zA (zB_X3 (g 0) h T))) (F0 m 51 ls [])) → W p l e (rmOf 3 70) s m [.ref (h 0), .int days].toArray below meth c H locs 0 0 (MQ below (zQw D (zB_X3 (g 0) h T) (none) (zB_X3 (g 0) h q)) [.ref (h 0), .int days].toArray s 0 0 (zA (zB_X3 (g 0) h T))) (F0 m 18 ls []) := by
          intro n
          induction n with
          | zero => intro i T1' v18_0 hn; exact absurd hn (Nat.not_lt_zero _)
          | succ n ih18 =>
            intro i T1' v18_0 hn18 H locs hP hD hS ls hl r18 hq kk18
            rw [v_X3_letPass_18] at hq
            refine lv_iload hx hb dX3_letPass_18 (lv_at hl 4 rfl) ?_
            refine lv_bipush (v := 8) hx hb dX3_letPass_20 (by decide) ?_
            refine lv_icmp_ge (tgt := 51) hx hb dX3_letPass_22 (by decide) (fun c_3 => ?_) (fun c_3 => ?_)
            · have c_3 : 8 ≤ i := (nI_leI (a := 8) (b := i) (by omega) (by omega)).mp c_3
              have hq := hq.trans (if_pos c_3)
              subst hq
              exact kk18 _ _ hP hD hS ls (lv_sub hl [0, 1, 2, 3, 4] rfl)
            · have c_3 : ¬ (8 ≤ i) := fun h9 => c_3 ((nI_leI (a := 8) (b := i) (by omega) (by omega)).mpr h9)
              have hq := hq.trans (if_neg c_3)
              refine lv_iload_n hx hb dX3_letPass_25 rfl (lv_at hl 3 rfl) ?_
              refine lv_iload hx hb dX3_letPass_26 (lv_at hl 4 rfl) ?_
              refine lv_ishr hx hb dX3_letPass_28 ?_
              refine lv_iconst (v := 1) hx hb dX3_letPass_29 (by decide) ?_
              refine lv_iand hx hb dX3_letPass_30 ?_
              refine lv_if_eq (tgt := 45) hx hb dX3_letPass_31 (by decide) (fun c_4 => ?_) (fun c_4 => ?_)
              · have c_4 : (((v_X3_breadsEatenBy T1 pe) >>> ((nI i) &&& 31)) &&& 1) = 0 := c_4
                have hq := hq.trans (if_pos c_4)
                refine lv_iinc (v := (nI (i + 1))) (lv' := [(4, .int (nI (i + 1))), (0, .ref (h 0)), (1, .int days), (2, .int (nI pe)), (3, .int (v_X3_breadsEatenBy T1 pe))]) hx hb dX3_letPass_45 hl (k := 4) rfl (nI_add _ 1) (by decide) rfl (fun ls hl => ?_)
                refine lv_goto (tgt := 18) hx hb dX3_letPass_48 (by decide) ?_
                exact ih18 (i + 1) T1' (by omega) (by omega) _ _ hP hD hS ls (lv_sub hl [1, 2, 3, 4, 0] rfl) _ hq kk18
              · have c_4 : ¬ ((((v_X3_breadsEatenBy T1 pe) >>> ((nI i) &&& 31)) &&& 1) = 0) := c_4
                have hq := hq.trans (if_neg c_4)
                refine lv_aload_n hx hb dX3_letPass_34 rfl (lv_at hl 0 rfl) ?_
                refine va_get (D := D) (ci := 3) (v := .ref (h 9)) (C := RX3) (T := TX3) (N := 15) hx hb hts hinX3 hown hK.1 hP 0 rfl rfl 8 (by decide) (hts (.fieldLink RX3 21 "SaltShares$Town" "servingsOf" "[I") (List.mem_of_getElem? (i := 1) rfl)) (fun _ h9 => h9) rfl dX3_letPass_35 ?_
                refine lv_iload hx hb dX3_letPass_38 (lv_at hl 4 rfl) ?_
                refine lv_dup2_11 hx hb dX3_letPass_40 rfl rfl ?_
                refine z_iald (i := i) hx hb hK hP 4 0 rfl rfl (by omega) (by decide) dX3_letPass_41 ?_
                refine lv_iload_n hx hb dX3_letPass_42 rfl (lv_at hl 1 rfl) ?_
                refine lv_iadd hx hb dX3_letPass_43 ?_
                refine z_iast (i := i) (x := ((T1' 8 i) + days)) hx hb hK hP hD hS 4 0 rfl rfl (by omega) (by decide) dX3_letPass_44 (fun H locs hP hD hS => ?_)
                have hP : va_P D vwCl (zB_X3 (g 0) h (zU T1' 8 (upd (T1' 8) i ((T1' 8 i) + days)))) H := hP
                have hD : va_D (zA (zB_X3 (g 0) h T)) (zB_X3 (g 0) h (zU T1' 8 (upd (T1' 8) i ((T1' 8 i) + days)))) := hD
                refine lv_iinc (v := (nI (i + 1))) (lv' := [(4, .int (nI (i + 1))), (0, .ref (h 0)), (1, .int days), (2, .int (nI pe)), (3, .int (v_X3_breadsEatenBy T1 pe))]) hx hb dX3_letPass_45 hl (k := 4) rfl (nI_add _ 1) (by decide) rfl (fun ls hl => ?_)
                refine lv_goto (tgt := 18) hx hb dX3_letPass_48 (by decide) ?_
                exact ih18 (i + 1) (zU T1' 8 (upd (T1' 8) i ((T1' 8 i) + days))) (by omega) (by omega) _ _ hP hD hS ls (lv_sub hl [1, 2, 3, 4, 0] rfl) _ hq kk18
        refine L18 9 0 T1 (by omega) (by omega) _ _ hP hD hS ls (lv_sub hl [2, 3, 4, 1, 0] rfl) _ rfl (fun H locs hP hD hS ls hl => ?_)
        refine lv_aload_n hx hb dX3_letPass_51 rfl (lv_at hl 0 rfl) ?_
        refine va_get (D := D) (ci := 3) (v := .ref (h 14)) (C := RX3) (T := TX3) (N := 15) hx hb hts hinX3 hown hK.1 hP 0 rfl rfl 13 (by decide) (hts (.fieldLink RX3 36 "SaltShares$Town" "ate" "[I") (List.mem_of_getElem? (i := 2) rfl)) (fun _ h9 => h9) rfl dX3_letPass_52 ?_
        refine lv_iload_n hx hb dX3_letPass_55 rfl (lv_at hl 2 rfl) ?_
        refine lv_dup2_11 hx hb dX3_letPass_56 rfl rfl ?_
        refine z_iald (i := pe) hx hb hK hP 9 0 rfl rfl (by omega) (by decide) dX3_letPass_57 ?_
        refine lv_iload_n hx hb dX3_letPass_58 rfl (lv_at hl 3 rfl) ?_
        refine lv_ior hx hb dX3_letPass_59 ?_
        refine z_iast (i := pe) (x := (((((v_X3_letPass_18 days pe T1 9 0 T1).2) 13) pe) ||| (v_X3_breadsEatenBy T1 pe))) hx hb hK hP hD hS 9 0 rfl rfl (by omega) (by decide) dX3_letPass_60 (fun H locs hP hD hS => ?_)
        have hP : va_P D vwCl (zB_X3 (g 0) h (zU ((v_X3_letPass_18 days pe T1 9 0 T1).2) 13 (upd (((v_X3_letPass_18 days pe T1 9 0 T1).2) 13) pe (((((v_X3_letPass_18 days pe T1 9 0 T1).2) 13) pe) ||| (v_X3_breadsEatenBy T1 pe))))) H := hP
        have hD : va_D (zA (zB_X3 (g 0) h T)) (zB_X3 (g 0) h (zU ((v_X3_letPass_18 days pe T1 9 0 T1).2) 13 (upd (((v_X3_letPass_18 days pe T1 9 0 T1).2) 13) pe (((((v_X3_letPass_18 days pe T1 9 0 T1).2) 13) pe) ||| (v_X3_breadsEatenBy T1 pe))))) := hD
        refine lv_iload_n hx hb dX3_letPass_61 rfl (lv_at hl 1 rfl) ?_
        refine lv_iload_n hx hb dX3_letPass_62 rfl (lv_at hl 3 rfl) ?_
        refine zcSO (n := 1) (c_J6_bitCount_0f7a4 l D g (v_X3_breadsEatenBy T1 pe)) hx hb hml hown hts gX3_letPass_J6_bitCount_0f7a4 rfl ⟨by decide, by decide, by decide⟩ ⟨Nat.le_of_ble_eq_true rfl, Nat.le_of_ble_eq_true rfl⟩ ⟨rfl, rfl⟩ hK (hP.sub [] rfl) hl.1 rfl rfl (Nat.le_of_ble_eq_true rfl) ⟨Nat.zero_le _, Nat.zero_le _⟩ dX3_letPass_63 ?_
        refine lv_imul hx hb dX3_letPass_66 ?_
        refine lv_istore (lv' := [(4, .int (days * (v_J6_bitCount_0f7a4 (v_X3_breadsEatenBy T1 pe)))), (0, .ref (h 0)), (1, .int days), (2, .int (nI pe)), (3, .int (v_X3_breadsEatenBy T1 pe))]) hx hb dX3_letPass_67 hl (by decide) rfl (fun ls hl => ?_)
        refine lv_aload_n hx hb dX3_letPass_69 rfl (lv_at hl 1 rfl) ?_
        refine va_get (D := D) (ci := 3) (v := .ref (h 15)) (C := RX3) (T := TX3) (N := 15) hx hb hts hinX3 hown hK.1 hP 0 rfl rfl 14 (by decide) (hts (.fieldLink RX3 39 "SaltShares$Town" "servingsTo" "[I") (List.mem_of_getElem? (i := 3) rfl)) (fun _ h9 => h9) rfl dX3_letPass_70 ?_
        refine lv_iload_n hx hb dX3_letPass_73 rfl (lv_at hl 3 rfl) ?_
        refine lv_dup2_11 hx hb dX3_letPass_74 rfl rfl ?_
        refine z_iald (i := pe) hx hb hK hP 10 0 rfl rfl (by omega) (by decide) dX3_letPass_75 ?_
        refine lv_iload hx hb dX3_letPass_76 (lv_at hl 0 rfl) ?_
        refine lv_iadd hx hb dX3_letPass_78 ?_
        refine z_iast (i := pe) (x := (((((v_X3_letPass_18 days pe T1 9 0 T1).2) 14) pe) + (days * (v_J6_bitCount_0f7a4 (v_X3_breadsEatenBy T1 pe))))) hx hb hK hP hD hS 10 0 rfl rfl (by omega) (by decide) dX3_letPass_79 (fun H locs hP hD hS => ?_)
        have hP : va_P D vwCl (zB_X3 (g 0) h (zU (zU ((v_X3_letPass_18 days pe T1 9 0 T1).2) 13 (upd (((v_X3_letPass_18 days pe T1 9 0 T1).2) 13) pe (((((v_X3_letPass_18 days pe T1 9 0 T1).2) 13) pe) ||| (v_X3_breadsEatenBy T1 pe)))) 14 (upd (((v_X3_letPass_18 days pe T1 9 0 T1).2) 14) pe (((((v_X3_letPass_18 days pe T1 9 0 T1).2) 14) pe) + (days * (v_J6_bitCount_0f7a4 (v_X3_breadsEatenBy T1 pe))))))) H := hP
        have hD : va_D (zA (zB_X3 (g 0) h T)) (zB_X3 (g 0) h (zU (zU ((v_X3_letPass_18 days pe T1 9 0 T1).2) 13 (upd (((v_X3_letPass_18 days pe T1 9 0 T1).2) 13) pe (((((v_X3_letPass_18 days pe T1 9 0 T1).2) 13) pe) ||| (v_X3_breadsEatenBy T1 pe)))) 14 (upd (((v_X3_letPass_18 days pe T1 9 0 T1).2) 14) pe (((((v_X3_letPass_18 days pe T1 9 0 T1).2) 14) pe) + (days * (v_J6_bitCount_0f7a4 (v_X3_breadsEatenBy T1 pe))))))) := hD
        refine lv_aload_n hx hb dX3_letPass_80 rfl (lv_at hl 1 rfl) ?_
        refine lv_dup hx hb dX3_letPass_81 rfl ?_
        refine va_get (D := D) (ci := 3) (v := .int (((v_X3_letPass_18 days pe T1 9 0 T1).2) 2 0)) (C := RX3) (T := TX3) (N := 15) hx hb hts hinX3 hown hK.1 hP 0 rfl rfl 2 (by decide) (hts (.fieldLink RX3 49 "SaltShares$Town" "servings" "I") (List.mem_of_getElem? (i := 4) rfl)) (fun _ h9 => h9) rfl dX3_letPass_82 ?_
        refine lv_iload hx hb dX3_letPass_85 (lv_at hl 0 rfl) ?_
        refine lv_iadd hx hb dX3_letPass_87 ?_
        refine va_put (D := D) (ci := 3) (v := .int ((((v_X3_letPass_18 days pe T1 9 0 T1).2) 2 0) + (days * (v_J6_bitCount_0f7a4 (v_X3_breadsEatenBy T1 pe))))) (ty := .int) (C := RX3) (T := TX3) (N := 15) hx hb hts hinX3 tyX3 tyX3_ok nmX3 hown hK.1 hP hD hS 0 rfl rfl 2 (by decide) (hts (.fieldLink RX3 49 "SaltShares$Town" "servings" "I") (List.mem_of_getElem? (i := 4) rfl)) (fun _ h9 => h9) rfl (by decide +kernel) rfl rfl (Nat.le_of_ble_eq_true rfl) dX3_letPass_88 (fun H locs hP hD hS => ?_)
        have hP : va_P D vwCl (zB_X3 (g 0) h (zU (zU (zU ((v_X3_letPass_18 days pe T1 9 0 T1).2) 13 (upd (((v_X3_letPass_18 days pe T1 9 0 T1).2) 13) pe (((((v_X3_letPass_18 days pe T1 9 0 T1).2) 13) pe) ||| (v_X3_breadsEatenBy T1 pe)))) 14 (upd (((v_X3_letPass_18 days pe T1 9 0 T1).2) 14) pe (((((v_X3_letPass_18 days pe T1 9 0 T1).2) 14) pe) + (days * (v_J6_bitCount_0f7a4 (v_X3_breadsEatenBy T1 pe)))))) 2 (fun _ => ((((v_X3_letPass_18 days pe T1 9 0 T1).2) 2 0) + (days * (v_J6_bitCount_0f7a4 (v_X3_breadsEatenBy T1 pe))))))) H := hP
        have hD : va_D (zA (zB_X3 (g 0) h T)) (zB_X3 (g 0) h (zU (zU (zU ((v_X3_letPass_18 days pe T1 9 0 T1).2) 13 (upd (((v_X3_letPass_18 days pe T1 9 0 T1).2) 13) pe (((((v_X3_letPass_18 days pe T1 9 0 T1).2) 13) pe) ||| (v_X3_breadsEatenBy T1 pe)))) 14 (upd (((v_X3_letPass_18 days pe T1 9 0 T1).2) 14) pe (((((v_X3_letPass_18 days pe T1 9 0 T1).2) 14) pe) + (days * (v_J6_bitCount_0f7a4 (v_X3_breadsEatenBy T1 pe)))))) 2 (fun _ => ((((v_X3_letPass_18 days pe T1 9 0 T1).2) 2 0) + (days * (v_J6_bitCount_0f7a4 (v_X3_breadsEatenBy T1 pe))))))) := hD
        refine lv_iinc (v := (nI (pe + 1))) (lv' := [(2, .int (nI (pe + 1))), (4, .int (days * (v_J6_bitCount_0f7a4 (v_X3_breadsEatenBy T1 pe)))), (0, .ref (h 0)), (1, .int days), (3, .int (v_X3_breadsEatenBy T1 pe))]) hx hb dX3_letPass_91 hl (k := 3) rfl (nI_add _ 1) (by decide) rfl (fun ls hl => ?_)
        refine lv_goto (tgt := 2) hx hb dX3_letPass_94 (by decide) ?_
        exact ih2 (pe + 1) (zU (zU (zU ((v_X3_letPass_18 days pe T1 9 0 T1).2) 13 (upd (((v_X3_letPass_18 days pe T1 9 0 T1).2) 13) pe (((((v_X3_letPass_18 days pe T1 9 0 T1).2) 13) pe) ||| (v_X3_breadsEatenBy T1 pe)))) 14 (upd (((v_X3_letPass_18 days pe T1 9 0 T1).2) 14) pe (((((v_X3_letPass_18 days pe T1 9 0 T1).2) 14) pe) + (days * (v_J6_bitCount_0f7a4 (v_X3_breadsEatenBy T1 pe)))))) 2 (fun _ => ((((v_X3_letPass_18 days pe T1 9 0 T1).2) 2 0) + (days * (v_J6_bitCount_0f7a4 (v_X3_breadsEatenBy T1 pe)))))) (by omega) (by omega) _ _ hP hD hS ls (lv_sub hl [2, 3, 0] rfl) hq
  exact L2 151 0 T (by omega) (by omega) _ _ hP hD hS ls (lv_sub hl [1, 2, 0] rfl) hq
