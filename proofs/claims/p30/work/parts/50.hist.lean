def zsel6 (j : Nat) (t0 t1 t2 t3 t4 t5 : Nat → Nat) : Nat → Nat := if j = 0 then t0 else if j = 1 then t1 else if j = 2 then t2 else if j = 3 then t3 else if j = 4 then t4 else t5
def zB_X1 (cT : ClassId) (u t0 t1 t2 t3 t4 t5 : Nat → Nat) (Z : Nat → Nat → Int32) : va_W := [(u 0, .inr (1, [.int (Z 0 0), .int (Z 1 0), .ref (u 3)])), (u 3, .inl (cT, 6, .inr (.inr (.inr (.inr (fun j => some (zsel6 j t0 t1 t2 t3 t4 t5 0)))))))]
theorem Met_to {l : Launch} {y : MethodName} {ws : List Cond} {rm : Room} {Pc Pc' : Array Value → State → Prop} {Qc Qc' : Array Value → State → Outcome → State → Prop} {mc ms : Nat} {free : Addr → Prop} (h : Met l y ws rm Pc Qc mc ms free) (hp : ∀ a s, Pc' a s → Pc a s) (hq : ∀ a s o t, Pc' a s → Qc a s o t → Qc' a s o t) : Met l y ws rm Pc' Qc' mc ms free := by
  intro p e h1 h2 h3 s m args below h4 h5 h6 h7
  obtain ⟨n, o, k1, k2, k3, k4, k5⟩ := h p e h1 h2 h3 s m args below h4 h5 (hp _ _ h6) h7
  exact ⟨n, o, k1, k2, k3, hq _ _ _ _ h6 k4, k5⟩
theorem zP_cons {D : va_G} {cl : List vw_C} {x : Nat × va_E} {ws : va_W} {H : Heap} : va_P D cl (x :: ws) H ↔ va_at D cl x H ∧ va_P D cl ws H := by
  constructor
  · intro h
    exact ⟨h 0 x rfl, fun k q hk => h (k + 1) q (by simpa using hk)⟩
  · rintro ⟨h1, h2⟩ k q hk
    cases k with
    | zero => cases hk; exact h1
    | succ k => exact h2 k q (by simpa using hk)
theorem zarr {D : va_G} {cl : List vw_C} {a n : Nat} {c : ClassId} {f g : Nat → Int32} {H : Heap} (h : ∀ j, j < n → f j = g j) (hf : va_at D cl (a, .inl (c, n, .inl f)) H) : va_at D cl (a, .inl (c, n, .inl g)) H := by
  have e : (fun j : Fin n => Value.int (f j.val)) = fun j : Fin n => Value.int (g j.val) := funext fun j => by rw [h j.val j.isLt]
  have e2 : vp_cell c (n, .inl f) = vp_cell c (n, .inl g) := by
    rw [vp_cell_i, vp_cell_i]
    unfold arrV
    rw [e]
  show H[a]? = some (vp_cell c (n, .inl g))
  rw [← e2]
  exact hf
theorem zcpy0 {f g : Nat → Int32} {n j : Nat} (h : j < n) : va_cpy f g 0 0 n j = f j := by rw [pk_cpy_in (Nat.zero_le _) (by omega)]; congr 1; omega
def v_X3_copyFrom (S : Nat → Nat → Int32) (T : Nat → Nat → Int32) : (Nat → Nat → Int32) := zU (zU (zU (zU (zU (zU (zU (zU (zU (zU (zU (zU (zU (zU (zU S 0 (fun _ => (T 0 0))) 1 (fun _ => (T 1 0))) 2 (fun _ => (T 2 0))) 3 (fun _ => (T 3 0))) 4 (fun _ => (T 4 0))) 5 (va_cpy (T 5) (S 5) 0 0 8)) 6 (va_cpy (T 6) (S 6) 0 0 8)) 7 (va_cpy (T 7) (S 7) 0 0 8)) 8 (va_cpy (T 8) (S 8) 0 0 8)) 9 (va_cpy (T 9) (S 9) 0 0 3)) 10 (va_cpy (T 10) (S 10) 0 0 300)) 11 (va_cpy (T 11) (S 11) 0 0 150)) 12 (va_cpy (T 12) (S 12) 0 0 150)) 13 (va_cpy (T 13) (S 13) 0 0 150)) 14 (va_cpy (T 14) (S 14) 0 0 150)
set_option maxHeartbeats 400000 in
set_option maxRecDepth 100000 in
theorem c_X3_copyFrom (l : Launch) (D : va_G) (g : Nat → ClassId) (h2 : Nat → Nat) (h : Nat → Nat) (S : Nat → Nat → Int32) (T : Nat → Nat → Int32) : Wr l D (zT g) yX3_copyFrom wsX3_copyFrom (rmOf 1 18) [.ref (h2 0), .ref (h 0)] ((zB_X3 (g 0) h2 S) ++ (zB_X3 (g 0) h T)) (none) ((zB_X3 (g 0) h2 (v_X3_copyFrom S T)) ++ (zB_X3 (g 0) h T)) := by
  refine Wr.of (cc := cX3_copyFrom) (maxL := 2) (ret := none) (by decide) rfl (Nat.le_of_ble_eq_true rfl) ?_
  intro p e s m below meth c ls hx hb hr hml hown hts hlocks hP hD hS hK hl
  have hown : s.vm.findClass RX3 = some m.cls := hown
  have hinX3 : ∀ w ∈ u_ws RX3 TX3 15, w ∈ wsX3_copyFrom := fun _ h9 => (List.mem_cons_of_mem _ (List.mem_append_right _ h9))
  obtain ⟨q, hq⟩ : ∃ q : (Nat → Nat → Int32), q = v_X3_copyFrom S T := ⟨_, rfl⟩
  rw [← hq]
  unfold v_X3_copyFrom at hq
  have hl : lv_has ls 2 [(0, .ref (h2 0)), (1, .ref (h 0))] := hl
  refine lv_aload_n hx hb dX3_copyFrom_0 rfl (lv_at hl 0 rfl) ?_
  refine lv_aload_n hx hb dX3_copyFrom_1 rfl (lv_at hl 1 rfl) ?_
  refine va_get (D := D) (ci := 3) (v := .int (T 0 0)) (C := RX3) (T := TX3) (N := 15) hx hb hts hinX3 hown hK.1 hP 11 rfl rfl 0 (by decide) (hts (.fieldLink RX3 42 "SaltShares$Town" "breads" "I") (List.mem_of_getElem? (i := 1) rfl)) (fun _ h9 => h9) rfl dX3_copyFrom_2 ?_
  refine va_put (D := D) (ci := 3) (v := .int (T 0 0)) (ty := .int) (C := RX3) (T := TX3) (N := 15) hx hb hts hinX3 tyX3 tyX3_ok nmX3 hown hK.1 hP hD hS 0 rfl rfl 0 (by decide) (hts (.fieldLink RX3 42 "SaltShares$Town" "breads" "I") (List.mem_of_getElem? (i := 1) rfl)) (fun _ h9 => h9) rfl (by decide +kernel) rfl rfl (Nat.le_of_ble_eq_true rfl) dX3_copyFrom_5 (fun H locs hP hD hS => ?_)
  have hP : va_P D vwCl ((zB_X3 (g 0) h2 (zU S 0 (fun _ => (T 0 0)))) ++ (zB_X3 (g 0) h T)) H := hP
  have hD : va_D (zA ((zB_X3 (g 0) h2 S) ++ (zB_X3 (g 0) h T))) ((zB_X3 (g 0) h2 (zU S 0 (fun _ => (T 0 0)))) ++ (zB_X3 (g 0) h T)) := hD
  refine lv_aload_n hx hb dX3_copyFrom_8 rfl (lv_at hl 0 rfl) ?_
  refine lv_aload_n hx hb dX3_copyFrom_9 rfl (lv_at hl 1 rfl) ?_
  refine va_get (D := D) (ci := 3) (v := .int (T 1 0)) (C := RX3) (T := TX3) (N := 15) hx hb hts hinX3 hown hK.1 hP 11 rfl rfl 1 (by decide) (hts (.fieldLink RX3 46 "SaltShares$Town" "day" "I") (List.mem_of_getElem? (i := 2) rfl)) (fun _ h9 => h9) rfl dX3_copyFrom_10 ?_
  refine va_put (D := D) (ci := 3) (v := .int (T 1 0)) (ty := .int) (C := RX3) (T := TX3) (N := 15) hx hb hts hinX3 tyX3 tyX3_ok nmX3 hown hK.1 hP hD hS 0 rfl rfl 1 (by decide) (hts (.fieldLink RX3 46 "SaltShares$Town" "day" "I") (List.mem_of_getElem? (i := 2) rfl)) (fun _ h9 => h9) rfl (by decide +kernel) rfl rfl (Nat.le_of_ble_eq_true rfl) dX3_copyFrom_13 (fun H locs hP hD hS => ?_)
  have hP : va_P D vwCl ((zB_X3 (g 0) h2 (zU (zU S 0 (fun _ => (T 0 0))) 1 (fun _ => (T 1 0)))) ++ (zB_X3 (g 0) h T)) H := hP
  have hD : va_D (zA ((zB_X3 (g 0) h2 S) ++ (zB_X3 (g 0) h T))) ((zB_X3 (g 0) h2 (zU (zU S 0 (fun _ => (T 0 0))) 1 (fun _ => (T 1 0)))) ++ (zB_X3 (g 0) h T)) := hD
  refine lv_aload_n hx hb dX3_copyFrom_16 rfl (lv_at hl 0 rfl) ?_
  refine lv_aload_n hx hb dX3_copyFrom_17 rfl (lv_at hl 1 rfl) ?_
  refine va_get (D := D) (ci := 3) (v := .int (T 2 0)) (C := RX3) (T := TX3) (N := 15) hx hb hts hinX3 hown hK.1 hP 11 rfl rfl 2 (by decide) (hts (.fieldLink RX3 49 "SaltShares$Town" "servings" "I") (List.mem_of_getElem? (i := 3) rfl)) (fun _ h9 => h9) rfl dX3_copyFrom_18 ?_
  refine va_put (D := D) (ci := 3) (v := .int (T 2 0)) (ty := .int) (C := RX3) (T := TX3) (N := 15) hx hb hts hinX3 tyX3 tyX3_ok nmX3 hown hK.1 hP hD hS 0 rfl rfl 2 (by decide) (hts (.fieldLink RX3 49 "SaltShares$Town" "servings" "I") (List.mem_of_getElem? (i := 3) rfl)) (fun _ h9 => h9) rfl (by decide +kernel) rfl rfl (Nat.le_of_ble_eq_true rfl) dX3_copyFrom_21 (fun H locs hP hD hS => ?_)
  have hP : va_P D vwCl ((zB_X3 (g 0) h2 (zU (zU (zU S 0 (fun _ => (T 0 0))) 1 (fun _ => (T 1 0))) 2 (fun _ => (T 2 0)))) ++ (zB_X3 (g 0) h T)) H := hP
  have hD : va_D (zA ((zB_X3 (g 0) h2 S) ++ (zB_X3 (g 0) h T))) ((zB_X3 (g 0) h2 (zU (zU (zU S 0 (fun _ => (T 0 0))) 1 (fun _ => (T 1 0))) 2 (fun _ => (T 2 0)))) ++ (zB_X3 (g 0) h T)) := hD
  refine lv_aload_n hx hb dX3_copyFrom_24 rfl (lv_at hl 0 rfl) ?_
  refine lv_aload_n hx hb dX3_copyFrom_25 rfl (lv_at hl 1 rfl) ?_
  refine va_get (D := D) (ci := 3) (v := .int (T 3 0)) (C := RX3) (T := TX3) (N := 15) hx hb hts hinX3 hown hK.1 hP 11 rfl rfl 3 (by decide) (hts (.fieldLink RX3 52 "SaltShares$Town" "openOnes" "I") (List.mem_of_getElem? (i := 4) rfl)) (fun _ h9 => h9) rfl dX3_copyFrom_26 ?_
  refine va_put (D := D) (ci := 3) (v := .int (T 3 0)) (ty := .int) (C := RX3) (T := TX3) (N := 15) hx hb hts hinX3 tyX3 tyX3_ok nmX3 hown hK.1 hP hD hS 0 rfl rfl 3 (by decide) (hts (.fieldLink RX3 52 "SaltShares$Town" "openOnes" "I") (List.mem_of_getElem? (i := 4) rfl)) (fun _ h9 => h9) rfl (by decide +kernel) rfl rfl (Nat.le_of_ble_eq_true rfl) dX3_copyFrom_29 (fun H locs hP hD hS => ?_)
  have hP : va_P D vwCl ((zB_X3 (g 0) h2 (zU (zU (zU (zU S 0 (fun _ => (T 0 0))) 1 (fun _ => (T 1 0))) 2 (fun _ => (T 2 0))) 3 (fun _ => (T 3 0)))) ++ (zB_X3 (g 0) h T)) H := hP
  have hD : va_D (zA ((zB_X3 (g 0) h2 S) ++ (zB_X3 (g 0) h T))) ((zB_X3 (g 0) h2 (zU (zU (zU (zU S 0 (fun _ => (T 0 0))) 1 (fun _ => (T 1 0))) 2 (fun _ => (T 2 0))) 3 (fun _ => (T 3 0)))) ++ (zB_X3 (g 0) h T)) := hD
  refine lv_aload_n hx hb dX3_copyFrom_32 rfl (lv_at hl 0 rfl) ?_
  refine lv_aload_n hx hb dX3_copyFrom_33 rfl (lv_at hl 1 rfl) ?_
  refine va_get (D := D) (ci := 3) (v := .int (T 4 0)) (C := RX3) (T := TX3) (N := 15) hx hb hts hinX3 hown hK.1 hP 11 rfl rfl 4 (by decide) (hts (.fieldLink RX3 55 "SaltShares$Town" "stickyOnes" "I") (List.mem_of_getElem? (i := 5) rfl)) (fun _ h9 => h9) rfl dX3_copyFrom_34 ?_
  refine va_put (D := D) (ci := 3) (v := .int (T 4 0)) (ty := .int) (C := RX3) (T := TX3) (N := 15) hx hb hts hinX3 tyX3 tyX3_ok nmX3 hown hK.1 hP hD hS 0 rfl rfl 4 (by decide) (hts (.fieldLink RX3 55 "SaltShares$Town" "stickyOnes" "I") (List.mem_of_getElem? (i := 5) rfl)) (fun _ h9 => h9) rfl (by decide +kernel) rfl rfl (Nat.le_of_ble_eq_true rfl) dX3_copyFrom_37 (fun H locs hP hD hS => ?_)
  have hP : va_P D vwCl ((zB_X3 (g 0) h2 (zU (zU (zU (zU (zU S 0 (fun _ => (T 0 0))) 1 (fun _ => (T 1 0))) 2 (fun _ => (T 2 0))) 3 (fun _ => (T 3 0))) 4 (fun _ => (T 4 0)))) ++ (zB_X3 (g 0) h T)) H := hP
  have hD : va_D (zA ((zB_X3 (g 0) h2 S) ++ (zB_X3 (g 0) h T))) ((zB_X3 (g 0) h2 (zU (zU (zU (zU (zU S 0 (fun _ => (T 0 0))) 1 (fun _ => (T 1 0))) 2 (fun _ => (T 2 0))) 3 (fun _ => (T 3 0))) 4 (fun _ => (T 4 0)))) ++ (zB_X3 (g 0) h T)) := hD
  refine lv_aload_n hx hb dX3_copyFrom_40 rfl (lv_at hl 1 rfl) ?_
  refine va_get (D := D) (ci := 3) (v := .ref (h 6)) (C := RX3) (T := TX3) (N := 15) hx hb hts hinX3 hown hK.1 hP 11 rfl rfl 5 (by decide) (hts (.fieldLink RX3 9 "SaltShares$Town" "groupOf" "[I") (List.mem_of_getElem? (i := 6) rfl)) (fun _ h9 => h9) rfl dX3_copyFrom_41 ?_
  refine lv_iconst (v := 0) hx hb dX3_copyFrom_44 (by decide) ?_
  refine lv_aload_n hx hb dX3_copyFrom_45 rfl (lv_at hl 0 rfl) ?_
  refine va_get (D := D) (ci := 3) (v := .ref (h2 6)) (C := RX3) (T := TX3) (N := 15) hx hb hts hinX3 hown hK.1 hP 0 rfl rfl 5 (by decide) (hts (.fieldLink RX3 9 "SaltShares$Town" "groupOf" "[I") (List.mem_of_getElem? (i := 6) rfl)) (fun _ h9 => h9) rfl dX3_copyFrom_46 ?_
  refine lv_iconst (v := 0) hx hb dX3_copyFrom_49 (by decide) ?_
  refine lv_bipush (v := 8) hx hb dX3_copyFrom_50 (by decide) ?_
  refine va_copyi (sp := 0) (dp := 0) (n := 8) (ty := .int) hx hb (hml.trans hl.1.symm) hown (hts (.methodLink RX3 58 arraycopyName) (List.mem_of_getElem? (i := 7) rfl)) (hts (.native arraycopyName) (List.mem_of_getElem? (i := 8) rfl)) (hts (.static arraycopyName) (List.mem_of_getElem? (i := 9) rfl)) (hts (.initialized "java/lang/System") (List.mem_of_getElem? (i := 10) rfl)) hK.1 hP hD hS 12 1 0 0 rfl rfl rfl rfl rfl (by decide) (by decide) (by decide) (Nat.le_of_ble_eq_true rfl) (Nat.le_of_ble_eq_true rfl) (fun _ _ => rfl) (Nat.le_of_ble_eq_true rfl) (Nat.le_of_ble_eq_true rfl) dX3_copyFrom_52 (fun H locs hP hD hS => ?_)
  have hP : va_P D vwCl ((zB_X3 (g 0) h2 (zU (zU (zU (zU (zU (zU S 0 (fun _ => (T 0 0))) 1 (fun _ => (T 1 0))) 2 (fun _ => (T 2 0))) 3 (fun _ => (T 3 0))) 4 (fun _ => (T 4 0))) 5 (va_cpy (T 5) (S 5) 0 0 8))) ++ (zB_X3 (g 0) h T)) H := hP
  have hD : va_D (zA ((zB_X3 (g 0) h2 S) ++ (zB_X3 (g 0) h T))) ((zB_X3 (g 0) h2 (zU (zU (zU (zU (zU (zU S 0 (fun _ => (T 0 0))) 1 (fun _ => (T 1 0))) 2 (fun _ => (T 2 0))) 3 (fun _ => (T 3 0))) 4 (fun _ => (T 4 0))) 5 (va_cpy (T 5) (S 5) 0 0 8))) ++ (zB_X3 (g 0) h T)) := hD
  refine lv_aload_n hx hb dX3_copyFrom_55 rfl (lv_at hl 1 rfl) ?_
  refine va_get (D := D) (ci := 3) (v := .ref (h 7)) (C := RX3) (T := TX3) (N := 15) hx hb hts hinX3 hown hK.1 hP 11 rfl rfl 6 (by decide) (hts (.fieldLink RX3 15 "SaltShares$Town" "salt" "[I") (List.mem_of_getElem? (i := 11) rfl)) (fun _ h9 => h9) rfl dX3_copyFrom_56 ?_
  refine lv_iconst (v := 0) hx hb dX3_copyFrom_59 (by decide) ?_
  refine lv_aload_n hx hb dX3_copyFrom_60 rfl (lv_at hl 0 rfl) ?_
  refine va_get (D := D) (ci := 3) (v := .ref (h2 7)) (C := RX3) (T := TX3) (N := 15) hx hb hts hinX3 hown hK.1 hP 0 rfl rfl 6 (by decide) (hts (.fieldLink RX3 15 "SaltShares$Town" "salt" "[I") (List.mem_of_getElem? (i := 11) rfl)) (fun _ h9 => h9) rfl dX3_copyFrom_61 ?_
  refine lv_iconst (v := 0) hx hb dX3_copyFrom_64 (by decide) ?_
  refine lv_bipush (v := 8) hx hb dX3_copyFrom_65 (by decide) ?_
  refine va_copyi (sp := 0) (dp := 0) (n := 8) (ty := .int) hx hb (hml.trans hl.1.symm) hown (hts (.methodLink RX3 58 arraycopyName) (List.mem_of_getElem? (i := 7) rfl)) (hts (.native arraycopyName) (List.mem_of_getElem? (i := 8) rfl)) (hts (.static arraycopyName) (List.mem_of_getElem? (i := 9) rfl)) (hts (.initialized "java/lang/System") (List.mem_of_getElem? (i := 10) rfl)) hK.1 hP hD hS 13 2 0 0 rfl rfl rfl rfl rfl (by decide) (by decide) (by decide) (Nat.le_of_ble_eq_true rfl) (Nat.le_of_ble_eq_true rfl) (fun _ _ => rfl) (Nat.le_of_ble_eq_true rfl) (Nat.le_of_ble_eq_true rfl) dX3_copyFrom_67 (fun H locs hP hD hS => ?_)
  have hP : va_P D vwCl ((zB_X3 (g 0) h2 (zU (zU (zU (zU (zU (zU (zU S 0 (fun _ => (T 0 0))) 1 (fun _ => (T 1 0))) 2 (fun _ => (T 2 0))) 3 (fun _ => (T 3 0))) 4 (fun _ => (T 4 0))) 5 (va_cpy (T 5) (S 5) 0 0 8)) 6 (va_cpy (T 6) (S 6) 0 0 8))) ++ (zB_X3 (g 0) h T)) H := hP
  have hD : va_D (zA ((zB_X3 (g 0) h2 S) ++ (zB_X3 (g 0) h T))) ((zB_X3 (g 0) h2 (zU (zU (zU (zU (zU (zU (zU S 0 (fun _ => (T 0 0))) 1 (fun _ => (T 1 0))) 2 (fun _ => (T 2 0))) 3 (fun _ => (T 3 0))) 4 (fun _ => (T 4 0))) 5 (va_cpy (T 5) (S 5) 0 0 8)) 6 (va_cpy (T 6) (S 6) 0 0 8))) ++ (zB_X3 (g 0) h T)) := hD
  refine lv_aload_n hx hb dX3_copyFrom_70 rfl (lv_at hl 1 rfl) ?_
  refine va_get (D := D) (ci := 3) (v := .ref (h 8)) (C := RX3) (T := TX3) (N := 15) hx hb hts hinX3 hown hK.1 hP 11 rfl rfl 7 (by decide) (hts (.fieldLink RX3 18 "SaltShares$Town" "share" "[I") (List.mem_of_getElem? (i := 12) rfl)) (fun _ h9 => h9) rfl dX3_copyFrom_71 ?_
  refine lv_iconst (v := 0) hx hb dX3_copyFrom_74 (by decide) ?_
  refine lv_aload_n hx hb dX3_copyFrom_75 rfl (lv_at hl 0 rfl) ?_
  refine va_get (D := D) (ci := 3) (v := .ref (h2 8)) (C := RX3) (T := TX3) (N := 15) hx hb hts hinX3 hown hK.1 hP 0 rfl rfl 7 (by decide) (hts (.fieldLink RX3 18 "SaltShares$Town" "share" "[I") (List.mem_of_getElem? (i := 12) rfl)) (fun _ h9 => h9) rfl dX3_copyFrom_76 ?_
  refine lv_iconst (v := 0) hx hb dX3_copyFrom_79 (by decide) ?_
  refine lv_bipush (v := 8) hx hb dX3_copyFrom_80 (by decide) ?_
  refine va_copyi (sp := 0) (dp := 0) (n := 8) (ty := .int) hx hb (hml.trans hl.1.symm) hown (hts (.methodLink RX3 58 arraycopyName) (List.mem_of_getElem? (i := 7) rfl)) (hts (.native arraycopyName) (List.mem_of_getElem? (i := 8) rfl)) (hts (.static arraycopyName) (List.mem_of_getElem? (i := 9) rfl)) (hts (.initialized "java/lang/System") (List.mem_of_getElem? (i := 10) rfl)) hK.1 hP hD hS 14 3 0 0 rfl rfl rfl rfl rfl (by decide) (by decide) (by decide) (Nat.le_of_ble_eq_true rfl) (Nat.le_of_ble_eq_true rfl) (fun _ _ => rfl) (Nat.le_of_ble_eq_true rfl) (Nat.le_of_ble_eq_true rfl) dX3_copyFrom_82 (fun H locs hP hD hS => ?_)
  have hP : va_P D vwCl ((zB_X3 (g 0) h2 (zU (zU (zU (zU (zU (zU (zU (zU S 0 (fun _ => (T 0 0))) 1 (fun _ => (T 1 0))) 2 (fun _ => (T 2 0))) 3 (fun _ => (T 3 0))) 4 (fun _ => (T 4 0))) 5 (va_cpy (T 5) (S 5) 0 0 8)) 6 (va_cpy (T 6) (S 6) 0 0 8)) 7 (va_cpy (T 7) (S 7) 0 0 8))) ++ (zB_X3 (g 0) h T)) H := hP
  have hD : va_D (zA ((zB_X3 (g 0) h2 S) ++ (zB_X3 (g 0) h T))) ((zB_X3 (g 0) h2 (zU (zU (zU (zU (zU (zU (zU (zU S 0 (fun _ => (T 0 0))) 1 (fun _ => (T 1 0))) 2 (fun _ => (T 2 0))) 3 (fun _ => (T 3 0))) 4 (fun _ => (T 4 0))) 5 (va_cpy (T 5) (S 5) 0 0 8)) 6 (va_cpy (T 6) (S 6) 0 0 8)) 7 (va_cpy (T 7) (S 7) 0 0 8))) ++ (zB_X3 (g 0) h T)) := hD
  refine lv_aload_n hx hb dX3_copyFrom_85 rfl (lv_at hl 1 rfl) ?_
  refine va_get (D := D) (ci := 3) (v := .ref (h 9)) (C := RX3) (T := TX3) (N := 15) hx hb hts hinX3 hown hK.1 hP 11 rfl rfl 8 (by decide) (hts (.fieldLink RX3 21 "SaltShares$Town" "servingsOf" "[I") (List.mem_of_getElem? (i := 13) rfl)) (fun _ h9 => h9) rfl dX3_copyFrom_86 ?_
  refine lv_iconst (v := 0) hx hb dX3_copyFrom_89 (by decide) ?_
  refine lv_aload_n hx hb dX3_copyFrom_90 rfl (lv_at hl 0 rfl) ?_
  refine va_get (D := D) (ci := 3) (v := .ref (h2 9)) (C := RX3) (T := TX3) (N := 15) hx hb hts hinX3 hown hK.1 hP 0 rfl rfl 8 (by decide) (hts (.fieldLink RX3 21 "SaltShares$Town" "servingsOf" "[I") (List.mem_of_getElem? (i := 13) rfl)) (fun _ h9 => h9) rfl dX3_copyFrom_91 ?_
  refine lv_iconst (v := 0) hx hb dX3_copyFrom_94 (by decide) ?_
  refine lv_bipush (v := 8) hx hb dX3_copyFrom_95 (by decide) ?_
  refine va_copyi (sp := 0) (dp := 0) (n := 8) (ty := .int) hx hb (hml.trans hl.1.symm) hown (hts (.methodLink RX3 58 arraycopyName) (List.mem_of_getElem? (i := 7) rfl)) (hts (.native arraycopyName) (List.mem_of_getElem? (i := 8) rfl)) (hts (.static arraycopyName) (List.mem_of_getElem? (i := 9) rfl)) (hts (.initialized "java/lang/System") (List.mem_of_getElem? (i := 10) rfl)) hK.1 hP hD hS 15 4 0 0 rfl rfl rfl rfl rfl (by decide) (by decide) (by decide) (Nat.le_of_ble_eq_true rfl) (Nat.le_of_ble_eq_true rfl) (fun _ _ => rfl) (Nat.le_of_ble_eq_true rfl) (Nat.le_of_ble_eq_true rfl) dX3_copyFrom_97 (fun H locs hP hD hS => ?_)
  have hP : va_P D vwCl ((zB_X3 (g 0) h2 (zU (zU (zU (zU (zU (zU (zU (zU (zU S 0 (fun _ => (T 0 0))) 1 (fun _ => (T 1 0))) 2 (fun _ => (T 2 0))) 3 (fun _ => (T 3 0))) 4 (fun _ => (T 4 0))) 5 (va_cpy (T 5) (S 5) 0 0 8)) 6 (va_cpy (T 6) (S 6) 0 0 8)) 7 (va_cpy (T 7) (S 7) 0 0 8)) 8 (va_cpy (T 8) (S 8) 0 0 8))) ++ (zB_X3 (g 0) h T)) H := hP
  have hD : va_D (zA ((zB_X3 (g 0) h2 S) ++ (zB_X3 (g 0) h T))) ((zB_X3 (g 0) h2 (zU (zU (zU (zU (zU (zU (zU (zU (zU S 0 (fun _ => (T 0 0))) 1 (fun _ => (T 1 0))) 2 (fun _ => (T 2 0))) 3 (fun _ => (T 3 0))) 4 (fun _ => (T 4 0))) 5 (va_cpy (T 5) (S 5) 0 0 8)) 6 (va_cpy (T 6) (S 6) 0 0 8)) 7 (va_cpy (T 7) (S 7) 0 0 8)) 8 (va_cpy (T 8) (S 8) 0 0 8))) ++ (zB_X3 (g 0) h T)) := hD
  refine lv_aload_n hx hb dX3_copyFrom_100 rfl (lv_at hl 1 rfl) ?_
  refine va_get (D := D) (ci := 3) (v := .ref (h 10)) (C := RX3) (T := TX3) (N := 15) hx hb hts hinX3 hown hK.1 hP 11 rfl rfl 9 (by decide) (hts (.fieldLink RX3 24 "SaltShares$Town" "groupSalt" "[I") (List.mem_of_getElem? (i := 14) rfl)) (fun _ h9 => h9) rfl dX3_copyFrom_101 ?_
  refine lv_iconst (v := 0) hx hb dX3_copyFrom_104 (by decide) ?_
  refine lv_aload_n hx hb dX3_copyFrom_105 rfl (lv_at hl 0 rfl) ?_
  refine va_get (D := D) (ci := 3) (v := .ref (h2 10)) (C := RX3) (T := TX3) (N := 15) hx hb hts hinX3 hown hK.1 hP 0 rfl rfl 9 (by decide) (hts (.fieldLink RX3 24 "SaltShares$Town" "groupSalt" "[I") (List.mem_of_getElem? (i := 14) rfl)) (fun _ h9 => h9) rfl dX3_copyFrom_106 ?_
  refine lv_iconst (v := 0) hx hb dX3_copyFrom_109 (by decide) ?_
  refine lv_iconst (v := 3) hx hb dX3_copyFrom_110 (by decide) ?_
  refine va_copyi (sp := 0) (dp := 0) (n := 3) (ty := .int) hx hb (hml.trans hl.1.symm) hown (hts (.methodLink RX3 58 arraycopyName) (List.mem_of_getElem? (i := 7) rfl)) (hts (.native arraycopyName) (List.mem_of_getElem? (i := 8) rfl)) (hts (.static arraycopyName) (List.mem_of_getElem? (i := 9) rfl)) (hts (.initialized "java/lang/System") (List.mem_of_getElem? (i := 10) rfl)) hK.1 hP hD hS 16 5 0 0 rfl rfl rfl rfl rfl (by decide) (by decide) (by decide) (Nat.le_of_ble_eq_true rfl) (Nat.le_of_ble_eq_true rfl) (fun _ _ => rfl) (Nat.le_of_ble_eq_true rfl) (Nat.le_of_ble_eq_true rfl) dX3_copyFrom_111 (fun H locs hP hD hS => ?_)
  have hP : va_P D vwCl ((zB_X3 (g 0) h2 (zU (zU (zU (zU (zU (zU (zU (zU (zU (zU S 0 (fun _ => (T 0 0))) 1 (fun _ => (T 1 0))) 2 (fun _ => (T 2 0))) 3 (fun _ => (T 3 0))) 4 (fun _ => (T 4 0))) 5 (va_cpy (T 5) (S 5) 0 0 8)) 6 (va_cpy (T 6) (S 6) 0 0 8)) 7 (va_cpy (T 7) (S 7) 0 0 8)) 8 (va_cpy (T 8) (S 8) 0 0 8)) 9 (va_cpy (T 9) (S 9) 0 0 3))) ++ (zB_X3 (g 0) h T)) H := hP
  have hD : va_D (zA ((zB_X3 (g 0) h2 S) ++ (zB_X3 (g 0) h T))) ((zB_X3 (g 0) h2 (zU (zU (zU (zU (zU (zU (zU (zU (zU (zU S 0 (fun _ => (T 0 0))) 1 (fun _ => (T 1 0))) 2 (fun _ => (T 2 0))) 3 (fun _ => (T 3 0))) 4 (fun _ => (T 4 0))) 5 (va_cpy (T 5) (S 5) 0 0 8)) 6 (va_cpy (T 6) (S 6) 0 0 8)) 7 (va_cpy (T 7) (S 7) 0 0 8)) 8 (va_cpy (T 8) (S 8) 0 0 8)) 9 (va_cpy (T 9) (S 9) 0 0 3))) ++ (zB_X3 (g 0) h T)) := hD
  refine lv_aload_n hx hb dX3_copyFrom_114 rfl (lv_at hl 1 rfl) ?_
  refine va_get (D := D) (ci := 3) (v := .ref (h 11)) (C := RX3) (T := TX3) (N := 15) hx hb hts hinX3 hown hK.1 hP 11 rfl rfl 10 (by decide) (hts (.fieldLink RX3 27 "SaltShares$Town" "ownerOf" "[I") (List.mem_of_getElem? (i := 15) rfl)) (fun _ h9 => h9) rfl dX3_copyFrom_115 ?_
  refine lv_iconst (v := 0) hx hb dX3_copyFrom_118 (by decide) ?_
  refine lv_aload_n hx hb dX3_copyFrom_119 rfl (lv_at hl 0 rfl) ?_
  refine va_get (D := D) (ci := 3) (v := .ref (h2 11)) (C := RX3) (T := TX3) (N := 15) hx hb hts hinX3 hown hK.1 hP 0 rfl rfl 10 (by decide) (hts (.fieldLink RX3 27 "SaltShares$Town" "ownerOf" "[I") (List.mem_of_getElem? (i := 15) rfl)) (fun _ h9 => h9) rfl dX3_copyFrom_120 ?_
  refine lv_iconst (v := 0) hx hb dX3_copyFrom_123 (by decide) ?_
  refine lv_sipush (v := 300) hx hb dX3_copyFrom_124 (by decide) ?_
  refine va_copyi (sp := 0) (dp := 0) (n := 300) (ty := .int) hx hb (hml.trans hl.1.symm) hown (hts (.methodLink RX3 58 arraycopyName) (List.mem_of_getElem? (i := 7) rfl)) (hts (.native arraycopyName) (List.mem_of_getElem? (i := 8) rfl)) (hts (.static arraycopyName) (List.mem_of_getElem? (i := 9) rfl)) (hts (.initialized "java/lang/System") (List.mem_of_getElem? (i := 10) rfl)) hK.1 hP hD hS 17 6 0 0 rfl rfl rfl rfl rfl (by decide) (by decide) (by decide) (Nat.le_of_ble_eq_true rfl) (Nat.le_of_ble_eq_true rfl) (fun _ _ => rfl) (Nat.le_of_ble_eq_true rfl) (Nat.le_of_ble_eq_true rfl) dX3_copyFrom_127 (fun H locs hP hD hS => ?_)
  have hP : va_P D vwCl ((zB_X3 (g 0) h2 (zU (zU (zU (zU (zU (zU (zU (zU (zU (zU (zU S 0 (fun _ => (T 0 0))) 1 (fun _ => (T 1 0))) 2 (fun _ => (T 2 0))) 3 (fun _ => (T 3 0))) 4 (fun _ => (T 4 0))) 5 (va_cpy (T 5) (S 5) 0 0 8)) 6 (va_cpy (T 6) (S 6) 0 0 8)) 7 (va_cpy (T 7) (S 7) 0 0 8)) 8 (va_cpy (T 8) (S 8) 0 0 8)) 9 (va_cpy (T 9) (S 9) 0 0 3)) 10 (va_cpy (T 10) (S 10) 0 0 300))) ++ (zB_X3 (g 0) h T)) H := hP
  have hD : va_D (zA ((zB_X3 (g 0) h2 S) ++ (zB_X3 (g 0) h T))) ((zB_X3 (g 0) h2 (zU (zU (zU (zU (zU (zU (zU (zU (zU (zU (zU S 0 (fun _ => (T 0 0))) 1 (fun _ => (T 1 0))) 2 (fun _ => (T 2 0))) 3 (fun _ => (T 3 0))) 4 (fun _ => (T 4 0))) 5 (va_cpy (T 5) (S 5) 0 0 8)) 6 (va_cpy (T 6) (S 6) 0 0 8)) 7 (va_cpy (T 7) (S 7) 0 0 8)) 8 (va_cpy (T 8) (S 8) 0 0 8)) 9 (va_cpy (T 9) (S 9) 0 0 3)) 10 (va_cpy (T 10) (S 10) 0 0 300))) ++ (zB_X3 (g 0) h T)) := hD
  refine lv_aload_n hx hb dX3_copyFrom_130 rfl (lv_at hl 1 rfl) ?_
  refine va_get (D := D) (ci := 3) (v := .ref (h 12)) (C := RX3) (T := TX3) (N := 15) hx hb hts hinX3 hown hK.1 hP 11 rfl rfl 11 (by decide) (hts (.fieldLink RX3 30 "SaltShares$Town" "heldIn" "[I") (List.mem_of_getElem? (i := 16) rfl)) (fun _ h9 => h9) rfl dX3_copyFrom_131 ?_
  refine lv_iconst (v := 0) hx hb dX3_copyFrom_134 (by decide) ?_
  refine lv_aload_n hx hb dX3_copyFrom_135 rfl (lv_at hl 0 rfl) ?_
  refine va_get (D := D) (ci := 3) (v := .ref (h2 12)) (C := RX3) (T := TX3) (N := 15) hx hb hts hinX3 hown hK.1 hP 0 rfl rfl 11 (by decide) (hts (.fieldLink RX3 30 "SaltShares$Town" "heldIn" "[I") (List.mem_of_getElem? (i := 16) rfl)) (fun _ h9 => h9) rfl dX3_copyFrom_136 ?_
  refine lv_iconst (v := 0) hx hb dX3_copyFrom_139 (by decide) ?_
  refine lv_sipush (v := 150) hx hb dX3_copyFrom_140 (by decide) ?_
  refine va_copyi (sp := 0) (dp := 0) (n := 150) (ty := .int) hx hb (hml.trans hl.1.symm) hown (hts (.methodLink RX3 58 arraycopyName) (List.mem_of_getElem? (i := 7) rfl)) (hts (.native arraycopyName) (List.mem_of_getElem? (i := 8) rfl)) (hts (.static arraycopyName) (List.mem_of_getElem? (i := 9) rfl)) (hts (.initialized "java/lang/System") (List.mem_of_getElem? (i := 10) rfl)) hK.1 hP hD hS 18 7 0 0 rfl rfl rfl rfl rfl (by decide) (by decide) (by decide) (Nat.le_of_ble_eq_true rfl) (Nat.le_of_ble_eq_true rfl) (fun _ _ => rfl) (Nat.le_of_ble_eq_true rfl) (Nat.le_of_ble_eq_true rfl) dX3_copyFrom_143 (fun H locs hP hD hS => ?_)
  have hP : va_P D vwCl ((zB_X3 (g 0) h2 (zU (zU (zU (zU (zU (zU (zU (zU (zU (zU (zU (zU S 0 (fun _ => (T 0 0))) 1 (fun _ => (T 1 0))) 2 (fun _ => (T 2 0))) 3 (fun _ => (T 3 0))) 4 (fun _ => (T 4 0))) 5 (va_cpy (T 5) (S 5) 0 0 8)) 6 (va_cpy (T 6) (S 6) 0 0 8)) 7 (va_cpy (T 7) (S 7) 0 0 8)) 8 (va_cpy (T 8) (S 8) 0 0 8)) 9 (va_cpy (T 9) (S 9) 0 0 3)) 10 (va_cpy (T 10) (S 10) 0 0 300)) 11 (va_cpy (T 11) (S 11) 0 0 150))) ++ (zB_X3 (g 0) h T)) H := hP
  have hD : va_D (zA ((zB_X3 (g 0) h2 S) ++ (zB_X3 (g 0) h T))) ((zB_X3 (g 0) h2 (zU (zU (zU (zU (zU (zU (zU (zU (zU (zU (zU (zU S 0 (fun _ => (T 0 0))) 1 (fun _ => (T 1 0))) 2 (fun _ => (T 2 0))) 3 (fun _ => (T 3 0))) 4 (fun _ => (T 4 0))) 5 (va_cpy (T 5) (S 5) 0 0 8)) 6 (va_cpy (T 6) (S 6) 0 0 8)) 7 (va_cpy (T 7) (S 7) 0 0 8)) 8 (va_cpy (T 8) (S 8) 0 0 8)) 9 (va_cpy (T 9) (S 9) 0 0 3)) 10 (va_cpy (T 10) (S 10) 0 0 300)) 11 (va_cpy (T 11) (S 11) 0 0 150))) ++ (zB_X3 (g 0) h T)) := hD
  refine lv_aload_n hx hb dX3_copyFrom_146 rfl (lv_at hl 1 rfl) ?_
  refine va_get (D := D) (ci := 3) (v := .ref (h 13)) (C := RX3) (T := TX3) (N := 15) hx hb hts hinX3 hown hK.1 hP 11 rfl rfl 12 (by decide) (hts (.fieldLink RX3 33 "SaltShares$Town" "heldOut" "[I") (List.mem_of_getElem? (i := 17) rfl)) (fun _ h9 => h9) rfl dX3_copyFrom_147 ?_
  refine lv_iconst (v := 0) hx hb dX3_copyFrom_150 (by decide) ?_
  refine lv_aload_n hx hb dX3_copyFrom_151 rfl (lv_at hl 0 rfl) ?_
  refine va_get (D := D) (ci := 3) (v := .ref (h2 13)) (C := RX3) (T := TX3) (N := 15) hx hb hts hinX3 hown hK.1 hP 0 rfl rfl 12 (by decide) (hts (.fieldLink RX3 33 "SaltShares$Town" "heldOut" "[I") (List.mem_of_getElem? (i := 17) rfl)) (fun _ h9 => h9) rfl dX3_copyFrom_152 ?_
  refine lv_iconst (v := 0) hx hb dX3_copyFrom_155 (by decide) ?_
  refine lv_sipush (v := 150) hx hb dX3_copyFrom_156 (by decide) ?_
  refine va_copyi (sp := 0) (dp := 0) (n := 150) (ty := .int) hx hb (hml.trans hl.1.symm) hown (hts (.methodLink RX3 58 arraycopyName) (List.mem_of_getElem? (i := 7) rfl)) (hts (.native arraycopyName) (List.mem_of_getElem? (i := 8) rfl)) (hts (.static arraycopyName) (List.mem_of_getElem? (i := 9) rfl)) (hts (.initialized "java/lang/System") (List.mem_of_getElem? (i := 10) rfl)) hK.1 hP hD hS 19 8 0 0 rfl rfl rfl rfl rfl (by decide) (by decide) (by decide) (Nat.le_of_ble_eq_true rfl) (Nat.le_of_ble_eq_true rfl) (fun _ _ => rfl) (Nat.le_of_ble_eq_true rfl) (Nat.le_of_ble_eq_true rfl) dX3_copyFrom_159 (fun H locs hP hD hS => ?_)
  have hP : va_P D vwCl ((zB_X3 (g 0) h2 (zU (zU (zU (zU (zU (zU (zU (zU (zU (zU (zU (zU (zU S 0 (fun _ => (T 0 0))) 1 (fun _ => (T 1 0))) 2 (fun _ => (T 2 0))) 3 (fun _ => (T 3 0))) 4 (fun _ => (T 4 0))) 5 (va_cpy (T 5) (S 5) 0 0 8)) 6 (va_cpy (T 6) (S 6) 0 0 8)) 7 (va_cpy (T 7) (S 7) 0 0 8)) 8 (va_cpy (T 8) (S 8) 0 0 8)) 9 (va_cpy (T 9) (S 9) 0 0 3)) 10 (va_cpy (T 10) (S 10) 0 0 300)) 11 (va_cpy (T 11) (S 11) 0 0 150)) 12 (va_cpy (T 12) (S 12) 0 0 150))) ++ (zB_X3 (g 0) h T)) H := hP
  have hD : va_D (zA ((zB_X3 (g 0) h2 S) ++ (zB_X3 (g 0) h T))) ((zB_X3 (g 0) h2 (zU (zU (zU (zU (zU (zU (zU (zU (zU (zU (zU (zU (zU S 0 (fun _ => (T 0 0))) 1 (fun _ => (T 1 0))) 2 (fun _ => (T 2 0))) 3 (fun _ => (T 3 0))) 4 (fun _ => (T 4 0))) 5 (va_cpy (T 5) (S 5) 0 0 8)) 6 (va_cpy (T 6) (S 6) 0 0 8)) 7 (va_cpy (T 7) (S 7) 0 0 8)) 8 (va_cpy (T 8) (S 8) 0 0 8)) 9 (va_cpy (T 9) (S 9) 0 0 3)) 10 (va_cpy (T 10) (S 10) 0 0 300)) 11 (va_cpy (T 11) (S 11) 0 0 150)) 12 (va_cpy (T 12) (S 12) 0 0 150))) ++ (zB_X3 (g 0) h T)) := hD
  refine lv_aload_n hx hb dX3_copyFrom_162 rfl (lv_at hl 1 rfl) ?_
  refine va_get (D := D) (ci := 3) (v := .ref (h 14)) (C := RX3) (T := TX3) (N := 15) hx hb hts hinX3 hown hK.1 hP 11 rfl rfl 13 (by decide) (hts (.fieldLink RX3 36 "SaltShares$Town" "ate" "[I") (List.mem_of_getElem? (i := 18) rfl)) (fun _ h9 => h9) rfl dX3_copyFrom_163 ?_
  refine lv_iconst (v := 0) hx hb dX3_copyFrom_166 (by decide) ?_
  refine lv_aload_n hx hb dX3_copyFrom_167 rfl (lv_at hl 0 rfl) ?_
  refine va_get (D := D) (ci := 3) (v := .ref (h2 14)) (C := RX3) (T := TX3) (N := 15) hx hb hts hinX3 hown hK.1 hP 0 rfl rfl 13 (by decide) (hts (.fieldLink RX3 36 "SaltShares$Town" "ate" "[I") (List.mem_of_getElem? (i := 18) rfl)) (fun _ h9 => h9) rfl dX3_copyFrom_168 ?_
  refine lv_iconst (v := 0) hx hb dX3_copyFrom_171 (by decide) ?_
  refine lv_sipush (v := 150) hx hb dX3_copyFrom_172 (by decide) ?_
  refine va_copyi (sp := 0) (dp := 0) (n := 150) (ty := .int) hx hb (hml.trans hl.1.symm) hown (hts (.methodLink RX3 58 arraycopyName) (List.mem_of_getElem? (i := 7) rfl)) (hts (.native arraycopyName) (List.mem_of_getElem? (i := 8) rfl)) (hts (.static arraycopyName) (List.mem_of_getElem? (i := 9) rfl)) (hts (.initialized "java/lang/System") (List.mem_of_getElem? (i := 10) rfl)) hK.1 hP hD hS 20 9 0 0 rfl rfl rfl rfl rfl (by decide) (by decide) (by decide) (Nat.le_of_ble_eq_true rfl) (Nat.le_of_ble_eq_true rfl) (fun _ _ => rfl) (Nat.le_of_ble_eq_true rfl) (Nat.le_of_ble_eq_true rfl) dX3_copyFrom_175 (fun H locs hP hD hS => ?_)
  have hP : va_P D vwCl ((zB_X3 (g 0) h2 (zU (zU (zU (zU (zU (zU (zU (zU (zU (zU (zU (zU (zU (zU S 0 (fun _ => (T 0 0))) 1 (fun _ => (T 1 0))) 2 (fun _ => (T 2 0))) 3 (fun _ => (T 3 0))) 4 (fun _ => (T 4 0))) 5 (va_cpy (T 5) (S 5) 0 0 8)) 6 (va_cpy (T 6) (S 6) 0 0 8)) 7 (va_cpy (T 7) (S 7) 0 0 8)) 8 (va_cpy (T 8) (S 8) 0 0 8)) 9 (va_cpy (T 9) (S 9) 0 0 3)) 10 (va_cpy (T 10) (S 10) 0 0 300)) 11 (va_cpy (T 11) (S 11) 0 0 150)) 12 (va_cpy (T 12) (S 12) 0 0 150)) 13 (va_cpy (T 13) (S 13) 0 0 150))) ++ (zB_X3 (g 0) h T)) H := hP
  have hD : va_D (zA ((zB_X3 (g 0) h2 S) ++ (zB_X3 (g 0) h T))) ((zB_X3 (g 0) h2 (zU (zU (zU (zU (zU (zU (zU (zU (zU (zU (zU (zU (zU (zU S 0 (fun _ => (T 0 0))) 1 (fun _ => (T 1 0))) 2 (fun _ => (T 2 0))) 3 (fun _ => (T 3 0))) 4 (fun _ => (T 4 0))) 5 (va_cpy (T 5) (S 5) 0 0 8)) 6 (va_cpy (T 6) (S 6) 0 0 8)) 7 (va_cpy (T 7) (S 7) 0 0 8)) 8 (va_cpy (T 8) (S 8) 0 0 8)) 9 (va_cpy (T 9) (S 9) 0 0 3)) 10 (va_cpy (T 10) (S 10) 0 0 300)) 11 (va_cpy (T 11) (S 11) 0 0 150)) 12 (va_cpy (T 12) (S 12) 0 0 150)) 13 (va_cpy (T 13) (S 13) 0 0 150))) ++ (zB_X3 (g 0) h T)) := hD
  refine lv_aload_n hx hb dX3_copyFrom_178 rfl (lv_at hl 1 rfl) ?_
  refine va_get (D := D) (ci := 3) (v := .ref (h 15)) (C := RX3) (T := TX3) (N := 15) hx hb hts hinX3 hown hK.1 hP 11 rfl rfl 14 (by decide) (hts (.fieldLink RX3 39 "SaltShares$Town" "servingsTo" "[I") (List.mem_of_getElem? (i := 19) rfl)) (fun _ h9 => h9) rfl dX3_copyFrom_179 ?_
  refine lv_iconst (v := 0) hx hb dX3_copyFrom_182 (by decide) ?_
  refine lv_aload_n hx hb dX3_copyFrom_183 rfl (lv_at hl 0 rfl) ?_
  refine va_get (D := D) (ci := 3) (v := .ref (h2 15)) (C := RX3) (T := TX3) (N := 15) hx hb hts hinX3 hown hK.1 hP 0 rfl rfl 14 (by decide) (hts (.fieldLink RX3 39 "SaltShares$Town" "servingsTo" "[I") (List.mem_of_getElem? (i := 19) rfl)) (fun _ h9 => h9) rfl dX3_copyFrom_184 ?_
  refine lv_iconst (v := 0) hx hb dX3_copyFrom_187 (by decide) ?_
  refine lv_sipush (v := 150) hx hb dX3_copyFrom_188 (by decide) ?_
  refine va_copyi (sp := 0) (dp := 0) (n := 150) (ty := .int) hx hb (hml.trans hl.1.symm) hown (hts (.methodLink RX3 58 arraycopyName) (List.mem_of_getElem? (i := 7) rfl)) (hts (.native arraycopyName) (List.mem_of_getElem? (i := 8) rfl)) (hts (.static arraycopyName) (List.mem_of_getElem? (i := 9) rfl)) (hts (.initialized "java/lang/System") (List.mem_of_getElem? (i := 10) rfl)) hK.1 hP hD hS 21 10 0 0 rfl rfl rfl rfl rfl (by decide) (by decide) (by decide) (Nat.le_of_ble_eq_true rfl) (Nat.le_of_ble_eq_true rfl) (fun _ _ => rfl) (Nat.le_of_ble_eq_true rfl) (Nat.le_of_ble_eq_true rfl) dX3_copyFrom_191 (fun H locs hP hD hS => ?_)
  have hP : va_P D vwCl ((zB_X3 (g 0) h2 (zU (zU (zU (zU (zU (zU (zU (zU (zU (zU (zU (zU (zU (zU (zU S 0 (fun _ => (T 0 0))) 1 (fun _ => (T 1 0))) 2 (fun _ => (T 2 0))) 3 (fun _ => (T 3 0))) 4 (fun _ => (T 4 0))) 5 (va_cpy (T 5) (S 5) 0 0 8)) 6 (va_cpy (T 6) (S 6) 0 0 8)) 7 (va_cpy (T 7) (S 7) 0 0 8)) 8 (va_cpy (T 8) (S 8) 0 0 8)) 9 (va_cpy (T 9) (S 9) 0 0 3)) 10 (va_cpy (T 10) (S 10) 0 0 300)) 11 (va_cpy (T 11) (S 11) 0 0 150)) 12 (va_cpy (T 12) (S 12) 0 0 150)) 13 (va_cpy (T 13) (S 13) 0 0 150)) 14 (va_cpy (T 14) (S 14) 0 0 150))) ++ (zB_X3 (g 0) h T)) H := hP
  have hD : va_D (zA ((zB_X3 (g 0) h2 S) ++ (zB_X3 (g 0) h T))) ((zB_X3 (g 0) h2 (zU (zU (zU (zU (zU (zU (zU (zU (zU (zU (zU (zU (zU (zU (zU S 0 (fun _ => (T 0 0))) 1 (fun _ => (T 1 0))) 2 (fun _ => (T 2 0))) 3 (fun _ => (T 3 0))) 4 (fun _ => (T 4 0))) 5 (va_cpy (T 5) (S 5) 0 0 8)) 6 (va_cpy (T 6) (S 6) 0 0 8)) 7 (va_cpy (T 7) (S 7) 0 0 8)) 8 (va_cpy (T 8) (S 8) 0 0 8)) 9 (va_cpy (T 9) (S 9) 0 0 3)) 10 (va_cpy (T 10) (S 10) 0 0 300)) 11 (va_cpy (T 11) (S 11) 0 0 150)) 12 (va_cpy (T 12) (S 12) 0 0 150)) 13 (va_cpy (T 13) (S 13) 0 0 150)) 14 (va_cpy (T 14) (S 14) 0 0 150))) ++ (zB_X3 (g 0) h T)) := hD
  exact zretw_v hx hb hr hlocks dX3_copyFrom_194 hP hS (congrArg (fun z9 => (zB_X3 (g 0) h2 z9) ++ (zB_X3 (g 0) h T)) hq)
def v_X3_copy (S : Nat → Nat → Int32) (T : Nat → Nat → Int32) : Nat → Nat → Int32 := T
theorem zcopy {D : va_G} {cI : ClassId} {h : Nat → Nat} {S T : Nat → Nat → Int32} {R : va_W} {H : Heap} (hP : va_P D vwCl (zB_X3 cI h (v_X3_copyFrom S T) ++ R) H) : va_P D vwCl (zB_X3 cI h T ++ R) H := by
  obtain ⟨a0, hP⟩ := zP_cons.mp hP
  obtain ⟨a1, hP⟩ := zP_cons.mp hP
  obtain ⟨a2, hP⟩ := zP_cons.mp hP
  obtain ⟨a3, hP⟩ := zP_cons.mp hP
  obtain ⟨a4, hP⟩ := zP_cons.mp hP
  obtain ⟨a5, hP⟩ := zP_cons.mp hP
  obtain ⟨a6, hP⟩ := zP_cons.mp hP
  obtain ⟨a7, hP⟩ := zP_cons.mp hP
  obtain ⟨a8, hP⟩ := zP_cons.mp hP
  obtain ⟨a9, hP⟩ := zP_cons.mp hP
  obtain ⟨a10, hP⟩ := zP_cons.mp hP
  refine zP_cons.mpr ⟨a0, ?_⟩
  refine zP_cons.mpr ⟨zarr (n := 8) (fun j hj => zcpy0 hj) a1, ?_⟩
  refine zP_cons.mpr ⟨zarr (n := 8) (fun j hj => zcpy0 hj) a2, ?_⟩
  refine zP_cons.mpr ⟨zarr (n := 8) (fun j hj => zcpy0 hj) a3, ?_⟩
  refine zP_cons.mpr ⟨zarr (n := 8) (fun j hj => zcpy0 hj) a4, ?_⟩
  refine zP_cons.mpr ⟨zarr (n := 3) (fun j hj => zcpy0 hj) a5, ?_⟩
  refine zP_cons.mpr ⟨zarr (n := 300) (fun j hj => zcpy0 hj) a6, ?_⟩
  refine zP_cons.mpr ⟨zarr (n := 150) (fun j hj => zcpy0 hj) a7, ?_⟩
  refine zP_cons.mpr ⟨zarr (n := 150) (fun j hj => zcpy0 hj) a8, ?_⟩
  refine zP_cons.mpr ⟨zarr (n := 150) (fun j hj => zcpy0 hj) a9, ?_⟩
  exact zP_cons.mpr ⟨zarr (n := 150) (fun j hj => zcpy0 hj) a10, hP⟩
theorem c_X3_copy (l : Launch) (D : va_G) (g : Nat → ClassId) (h2 h : Nat → Nat) (S T : Nat → Nat → Int32) : Wr l D (zT g) yX3_copyFrom wsX3_copyFrom (rmOf 1 18) [.ref (h2 0), .ref (h 0)] ((zB_X3 (g 0) h2 S) ++ (zB_X3 (g 0) h T)) (none) ((zB_X3 (g 0) h2 (v_X3_copy S T)) ++ (zB_X3 (g 0) h T)) :=
  Met_to (c_X3_copyFrom l D g h2 h S T) (fun _ _ q => q) (fun _ _ _ _ _ q => ⟨q.1, zcopy q.2.1, q.2.2⟩)
section ZS
variable {p : Program} {l : Launch} {e : Env} {R : Room} {s : State} {m : MethodId} {args : Array Value} {below : List Frame} {meth : Method} {c : Code} {H : Heap} {locs : List Loc} {cells slots : Nat} {Q : State → Prop} {pc : Nat} {ls : Array Slot} {rest : List Value} {cc : ByteArray}
theorem z_aald {D : va_G} {tys : List (ClassId × FieldType)} {ws : va_W} {a : Nat} (hexec : p.tables.exec = Jvm.exec) (hb : c.code = cc) (hK : zK D tys s) (hP : va_P D vwCl ws H) (q0 t0 : Nat) {cA : ClassId} {C : String} {n i w : Nat} {f : Nat → Option Nat} (ha : ws[q0]? = some (a, .inl (cA, n, .inr (.inr (.inr (.inr f)))))) (ht : tys[t0]? = some (cA, .object C)) (hin : i < n) (hn : n < 2 ^ 31) (hf : f i = some w) (hdg : decode cc pc = .ok (.aaload, 1))
    (kk : W p l e R s m args below meth c H locs cells slots Q (F0 m (pc + 1) ls (.ref w :: rest))) : W p l e R s m args below meth c H locs cells slots Q (F0 m pc ls (.int (nI i) :: .ref a :: rest)) := by
  refine va_aldq hexec hb hK.1 hP q0 t0 ha ht (vp_in_nI hin hn) hdg ?_
  rw [nI_clamp (by omega), hf]
  exact kk
theorem zret_r {x v : Nat} {C : String} (hexec : p.tables.exec = Jvm.exec) (hb : c.code = cc) (hr : meth.sig.returnType = some (.object C)) (hlocks : meth.locks = false) (hdg : decode cc pc = .ok (.areturn, 1)) (h : v = x) :
    W p l e R s m args below meth c s.heap [] 0 0 (MQ below (zQ (.ref v)) args s 0 0 (fun _ => False)) (F0 m pc ls [.ref x]) := by
  subst h
  exact W.aret hexec hb hr (Or.inl ⟨C, rfl⟩) (Or.inr ⟨v, rfl⟩) (fun t ht _ => ⟨rfl, ht⟩) (fun q h => by cases h) hdg hlocks
end ZS
theorem zst6 {x : Int32} (h : vp_in x 7) (c : ¬ x = 6) : vp_in x 6 := by
  obtain ⟨j, hj, rfl⟩ := vp_in_of h (by decide)
  have h2 : j ≠ 6 := fun e => c (by rw [e]; rfl)
  exact vp_in_nI (by omega) (by decide)
def v_X1_latestAfter (Z : Nat → Nat → Int32) (mm : Nat) : Nat := (Int32.toNatClampNeg (Z 1 0) + mm) % 6
set_option maxHeartbeats 400000 in
set_option maxRecDepth 100000 in
theorem c_X1_latestAfter (l : Launch) (D : va_G) (g : Nat → ClassId) (u : Nat → Nat) (t0 : Nat → Nat) (t1 : Nat → Nat) (t2 : Nat → Nat) (t3 : Nat → Nat) (t4 : Nat → Nat) (t5 : Nat → Nat) (Z : Nat → Nat → Int32) (mm : Nat) (z0 : mm < 6) (z1 : vp_in (Z 1 0) 6) : Rd l D (zT g) yX1_latestAfter wsX1_latestAfter (rmOf 0 0) [.ref (u 0), .int (nI mm)] (zB_X1 (g 1) u t0 t1 t2 t3 t4 t5 Z) (.ref (zsel6 (v_X1_latestAfter Z mm) t0 t1 t2 t3 t4 t5 0)) := by
  refine Rd.of (cc := cX1_latestAfter) (maxL := 3) (ret := (some (.object "SaltShares$Town"))) (by decide) rfl (Nat.le_of_ble_eq_true rfl) ?_
  intro p e s m below meth c ls hx hb hr hml hown hts hlocks hP hK hl
  have hown : s.vm.findClass RX1 = some m.cls := hown
  have hinX1 : ∀ w ∈ u_ws RX1 TX1 3, w ∈ wsX1_latestAfter := fun _ h9 => (List.mem_cons_of_mem _ (List.mem_append_right _ h9))
  obtain ⟨q, hq⟩ : ∃ q : Nat, q = v_X1_latestAfter Z mm := ⟨_, rfl⟩
  rw [← hq]
  unfold v_X1_latestAfter at hq
  have hl : lv_has ls 3 [(0, .ref (u 0)), (1, .int (nI mm))] := hl
  refine lv_aload_n hx hb dX1_latestAfter_0 rfl (lv_at hl 0 rfl) ?_
  refine va_get (D := D) (ci := 1) (v := .int (Z 1 0)) (C := RX1) (T := TX1) (N := 3) hx hb hts hinX1 hown hK.1 hP 0 rfl rfl 1 (by decide) (hts (.fieldLink RX1 22 "SaltShares$History" "oldest" "I") (List.mem_of_getElem? (i := 1) rfl)) (fun _ h9 => h9) rfl dX1_latestAfter_1 ?_
  have w_1 := znat z1
  have w_1b := w_1.2
  refine lv_is w_1.1 ?_
  refine lv_iload_n hx hb dX1_latestAfter_4 rfl (lv_at hl 1 rfl) ?_
  refine lv_iadd hx hb dX1_latestAfter_5 ?_
  refine lv_is (show (nI (Int32.toNatClampNeg (Z 1 0))) + (nI mm) = (nI (Int32.toNatClampNeg (Z 1 0) + mm)) from nI_add (Int32.toNatClampNeg (Z 1 0)) mm) ?_
  refine lv_bipush (v := 6) hx hb dX1_latestAfter_6 (by decide) ?_
  refine lv_irem hx hb dX1_latestAfter_8 (by decide) ?_
  refine lv_is (show (nI (Int32.toNatClampNeg (Z 1 0) + mm)) - (nI (Int32.toNatClampNeg (Z 1 0) + mm)) / 6 * 6 = (nI ((Int32.toNatClampNeg (Z 1 0) + mm) % 6)) from (pk_rem (by omega) (by decide) (by decide))) ?_
  refine lv_istore_n (lv' := [(2, .int (nI ((Int32.toNatClampNeg (Z 1 0) + mm) % 6))), (0, .ref (u 0)), (1, .int (nI mm))]) hx hb dX1_latestAfter_9 rfl hl (by decide) rfl (fun ls hl => ?_)
  refine lv_iload_n hx hb dX1_latestAfter_10 rfl (lv_at hl 0 rfl) ?_
  refine lv_if_lt (tgt := 32) hx hb dX1_latestAfter_11 (by decide) (fun c_2 => ?_) (fun c_2 => ?_)
  · have c_2 : (Int32.toNatClampNeg (Z 1 0) + mm) % 6 < 0 := (nI_ltI (a := (Int32.toNatClampNeg (Z 1 0) + mm) % 6) (b := 0) (by omega) (by omega)).mp c_2
    exact absurd c_2 (Nat.not_lt_zero _)
  · have c_2 : ¬ ((Int32.toNatClampNeg (Z 1 0) + mm) % 6 < 0) := fun h9 => c_2 ((nI_ltI (a := (Int32.toNatClampNeg (Z 1 0) + mm) % 6) (b := 0) (by omega) (by omega)).mpr h9)
    refine lv_iload_n hx hb dX1_latestAfter_14 rfl (lv_at hl 0 rfl) ?_
    refine lv_aload_n hx hb dX1_latestAfter_15 rfl (lv_at hl 1 rfl) ?_
    refine va_get (D := D) (ci := 1) (v := .ref (u 3)) (C := RX1) (T := TX1) (N := 3) hx hb hts hinX1 hown hK.1 hP 0 rfl rfl 2 (by decide) (hts (.fieldLink RX1 11 "SaltShares$History" "towns" "[LSaltShares$Town;") (List.mem_of_getElem? (i := 2) rfl)) (fun _ h9 => h9) rfl dX1_latestAfter_16 ?_
    refine va_alen (v := 6) (ty := .object "SaltShares$Town") hx hb hK.1 hP 1 1 rfl rfl rfl dX1_latestAfter_19 ?_
    refine lv_icmp_ge (tgt := 32) hx hb dX1_latestAfter_20 (by decide) (fun c_3 => ?_) (fun c_3 => ?_)
    · have c_3 : 6 ≤ (Int32.toNatClampNeg (Z 1 0) + mm) % 6 := (nI_leI (a := 6) (b := (Int32.toNatClampNeg (Z 1 0) + mm) % 6) (by omega) (by omega)).mp c_3
      exact absurd c_3 (by omega)
    · have c_3 : ¬ (6 ≤ (Int32.toNatClampNeg (Z 1 0) + mm) % 6) := fun h9 => c_3 ((nI_leI (a := 6) (b := (Int32.toNatClampNeg (Z 1 0) + mm) % 6) (by omega) (by omega)).mpr h9)
      refine lv_aload_n hx hb dX1_latestAfter_23 rfl (lv_at hl 1 rfl) ?_
      refine va_get (D := D) (ci := 1) (v := .ref (u 3)) (C := RX1) (T := TX1) (N := 3) hx hb hts hinX1 hown hK.1 hP 0 rfl rfl 2 (by decide) (hts (.fieldLink RX1 11 "SaltShares$History" "towns" "[LSaltShares$Town;") (List.mem_of_getElem? (i := 2) rfl)) (fun _ h9 => h9) rfl dX1_latestAfter_24 ?_
      refine lv_iload_n hx hb dX1_latestAfter_27 rfl (lv_at hl 0 rfl) ?_
      refine z_aald (i := (Int32.toNatClampNeg (Z 1 0) + mm) % 6) hx hb hK hP 1 1 rfl rfl (by omega) (by decide) rfl dX1_latestAfter_28 ?_
      refine lv_goto (tgt := 33) hx hb dX1_latestAfter_29 (by decide) ?_
      exact zret_r hx hb hr hlocks dX1_latestAfter_33 (congrArg (fun z9 => zsel6 z9 t0 t1 t2 t3 t4 t5 0) hq)
theorem v_X1_latestAfter_lt (Z : Nat → Nat → Int32) (mm : Nat) : v_X1_latestAfter Z mm < 6 := Nat.mod_lt _ (by decide)
