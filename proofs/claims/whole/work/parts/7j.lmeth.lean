set_option maxHeartbeats 400000 in
set_option maxRecDepth 100000 in
theorem c_L_run (l : Launch) (D : va_G) (g : Nat → ClassId) (hp : Nat) (f : Nat → Nat) (h : Nat → Nat) (u : Nat → Nat) (o : Nat → Nat) (x : Nat → Nat) (t0 : Nat → Nat) (t1 : Nat → Nat) (t2 : Nat → Nat) (t3 : Nat → Nat) (t4 : Nat → Nat) (t5 : Nat → Nat) (y : Nat → Nat) (Z : Nat → Nat → Int32) (T0 : Nat → Nat → Int32) (T1 : Nat → Nat → Int32) (T2 : Nat → Nat → Int32) (T3 : Nat → Nat → Int32) (T4 : Nat → Nat → Int32) (T5 : Nat → Nat → Int32) (T : Nat → Nat → Int32) (X : Nat → Nat → Int32) (J : Nat → Int64) (z0 : vp_in (Z 0 0) 7) (z1 : vp_in (Z 1 0) 6) (he : e_X4_run Z T0 T1 T2 T3 T4 T5 T X = none) : Lw l D (zT g) hp yL_run wsL_run (rmX 7 156) [.ref (f 0), .ref (y 0)] (zF [zB_X4 f h u o x, zB_X1 (g 1) u t0 t1 t2 t3 t4 t5 Z, zB_X3 (g 0) t0 T0, zB_X3 (g 0) t1 T1, zB_X3 (g 0) t2 T2, zB_X3 (g 0) t3 T3, zB_X3 (g 0) t4 T4, zB_X3 (g 0) t5 T5, zB_X3 (g 0) h T, zB_X0 (g 0) x X, zB_XJ (g 2) y J]) 0 (zF [zB_X4 f h u o x, zB_X1 (g 1) u t0 t1 t2 t3 t4 t5 ((v_X4_run Z T0 T1 T2 T3 T4 T5 T X).2.1), zB_X3 (g 0) t0 ((v_X4_run Z T0 T1 T2 T3 T4 T5 T X).2.2.1), zB_X3 (g 0) t1 ((v_X4_run Z T0 T1 T2 T3 T4 T5 T X).2.2.2.1), zB_X3 (g 0) t2 ((v_X4_run Z T0 T1 T2 T3 T4 T5 T X).2.2.2.2.1), zB_X3 (g 0) t3 ((v_X4_run Z T0 T1 T2 T3 T4 T5 T X).2.2.2.2.2.1), zB_X3 (g 0) t4 ((v_X4_run Z T0 T1 T2 T3 T4 T5 T X).2.2.2.2.2.2.1), zB_X3 (g 0) t5 ((v_X4_run Z T0 T1 T2 T3 T4 T5 T X).2.2.2.2.2.2.2.1), zB_X3 (g 0) h ((v_X4_run Z T0 T1 T2 T3 T4 T5 T X).2.2.2.2.2.2.2.2.1), zB_X0 (g 0) x ((v_X4_run Z T0 T1 T2 T3 T4 T5 T X).2.2.2.2.2.2.2.2.2), zB_XJ (g 2) y (vp_updL J 0 (Int32.toInt64 ((v_X4_run Z T0 T1 T2 T3 T4 T5 T X).1)))]) := by
  refine Lw.of (cc := cL_run) (maxL := 3) (ret := some .int) (hh := [(0, 8, 11, 13)]) (by decide) rfl (Nat.le_of_ble_eq_true rfl) ?_
  intro p e s m below meth c ls hx hb hr hml hown hts hlocks htab hP hD hDp hS hK hE hl
  have hown : s.vm.findClass RL = some m.cls := hown
  have hl : lv_has ls 3 [(0, .ref (f 0)), (1, .ref (y 0))] := hl
  refine lv_aload_n hx hb dL_run_0 rfl (lv_at hl 1 rfl) ?_
  refine lv_iconst (v := 0) hx hb dL_run_1 (by decide) ?_
  refine lv_aload_n hx hb dL_run_2 rfl (lv_at hl 0 rfl) ?_
  refine zcVw (ci := 4) (n := 0) (c_X4_run l D g f h u o x t0 t1 t2 t3 t4 t5 Z T0 T1 T2 T3 T4 T5 T X z0 z1 he) hx hb hml hown hts gL_run_X4_run rfl ⟨rfl, by decide, by decide, by decide⟩ ⟨Nat.le_of_ble_eq_true rfl, Nat.le_of_ble_eq_true rfl⟩ ⟨rfl, rfl⟩ hK (zsubB (cs := [zB_X4 f h u o x, zB_X1 (g 1) u t0 t1 t2 t3 t4 t5 Z, zB_X3 (g 0) t0 T0, zB_X3 (g 0) t1 T1, zB_X3 (g 0) t2 T2, zB_X3 (g 0) t3 T3, zB_X3 (g 0) t4 T4, zB_X3 (g 0) t5 T5, zB_X3 (g 0) h T, zB_X0 (g 0) x X]) hP [0, 1, 2, 3, 4, 5, 6, 7, 8, 9] rfl rfl) (zDsubB (cs := [zB_X4 f h u o x, zB_X1 (g 1) u t0 t1 t2 t3 t4 t5 Z, zB_X3 (g 0) t0 T0, zB_X3 (g 0) t1 T1, zB_X3 (g 0) t2 T2, zB_X3 (g 0) t3 T3, zB_X3 (g 0) t4 T4, zB_X3 (g 0) t5 T5, zB_X3 (g 0) h T, zB_X0 (g 0) x X]) hD [0, 1, 2, 3, 4, 5, 6, 7, 8, 9] (by decide) rfl rfl) rfl rfl rfl hS hl.1 rfl rfl (Nat.le_of_ble_eq_true rfl) ⟨Nat.zero_le _, Nat.zero_le _⟩ dL_run_3 (fun H1 locs hP1 hk1 hS => ?_)
  obtain ⟨hP, hD⟩ := zjoinB (cs := [zB_X4 f h u o x, zB_X1 (g 1) u t0 t1 t2 t3 t4 t5 Z, zB_X3 (g 0) t0 T0, zB_X3 (g 0) t1 T1, zB_X3 (g 0) t2 T2, zB_X3 (g 0) t3 T3, zB_X3 (g 0) t4 T4, zB_X3 (g 0) t5 T5, zB_X3 (g 0) h T, zB_X0 (g 0) x X]) (cs' := [zB_X4 f h u o x, zB_X1 (g 1) u t0 t1 t2 t3 t4 t5 ((v_X4_run Z T0 T1 T2 T3 T4 T5 T X).2.1), zB_X3 (g 0) t0 ((v_X4_run Z T0 T1 T2 T3 T4 T5 T X).2.2.1), zB_X3 (g 0) t1 ((v_X4_run Z T0 T1 T2 T3 T4 T5 T X).2.2.2.1), zB_X3 (g 0) t2 ((v_X4_run Z T0 T1 T2 T3 T4 T5 T X).2.2.2.2.1), zB_X3 (g 0) t3 ((v_X4_run Z T0 T1 T2 T3 T4 T5 T X).2.2.2.2.2.1), zB_X3 (g 0) t4 ((v_X4_run Z T0 T1 T2 T3 T4 T5 T X).2.2.2.2.2.2.1), zB_X3 (g 0) t5 ((v_X4_run Z T0 T1 T2 T3 T4 T5 T X).2.2.2.2.2.2.2.1), zB_X3 (g 0) h ((v_X4_run Z T0 T1 T2 T3 T4 T5 T X).2.2.2.2.2.2.2.2.1), zB_X0 (g 0) x ((v_X4_run Z T0 T1 T2 T3 T4 T5 T X).2.2.2.2.2.2.2.2.2)]) hP hD [0, 1, 2, 3, 4, 5, 6, 7, 8, 9] (by decide) rfl (by simp only [zF, List.flatten_cons, List.flatten_nil, List.append_nil, List.map_append, List.map_cons, List.map_nil, zad_X0, zad_X1, zad_X2, zad_X3, zad_X4, zad_X5, zad_XJ, zad_XD]) rfl rfl hk1 hP1
  clear hP1 hk1
  have hP : va_P D vwCl (zF [zB_X4 f h u o x, zB_X1 (g 1) u t0 t1 t2 t3 t4 t5 ((v_X4_run Z T0 T1 T2 T3 T4 T5 T X).2.1), zB_X3 (g 0) t0 ((v_X4_run Z T0 T1 T2 T3 T4 T5 T X).2.2.1), zB_X3 (g 0) t1 ((v_X4_run Z T0 T1 T2 T3 T4 T5 T X).2.2.2.1), zB_X3 (g 0) t2 ((v_X4_run Z T0 T1 T2 T3 T4 T5 T X).2.2.2.2.1), zB_X3 (g 0) t3 ((v_X4_run Z T0 T1 T2 T3 T4 T5 T X).2.2.2.2.2.1), zB_X3 (g 0) t4 ((v_X4_run Z T0 T1 T2 T3 T4 T5 T X).2.2.2.2.2.2.1), zB_X3 (g 0) t5 ((v_X4_run Z T0 T1 T2 T3 T4 T5 T X).2.2.2.2.2.2.2.1), zB_X3 (g 0) h ((v_X4_run Z T0 T1 T2 T3 T4 T5 T X).2.2.2.2.2.2.2.2.1), zB_X0 (g 0) x ((v_X4_run Z T0 T1 T2 T3 T4 T5 T X).2.2.2.2.2.2.2.2.2), zB_XJ (g 2) y J]) H1 := hP
  have hD : va_D (zA (zF [zB_X4 f h u o x, zB_X1 (g 1) u t0 t1 t2 t3 t4 t5 Z, zB_X3 (g 0) t0 T0, zB_X3 (g 0) t1 T1, zB_X3 (g 0) t2 T2, zB_X3 (g 0) t3 T3, zB_X3 (g 0) t4 T4, zB_X3 (g 0) t5 T5, zB_X3 (g 0) h T, zB_X0 (g 0) x X, zB_XJ (g 2) y J])) (zF [zB_X4 f h u o x, zB_X1 (g 1) u t0 t1 t2 t3 t4 t5 ((v_X4_run Z T0 T1 T2 T3 T4 T5 T X).2.1), zB_X3 (g 0) t0 ((v_X4_run Z T0 T1 T2 T3 T4 T5 T X).2.2.1), zB_X3 (g 0) t1 ((v_X4_run Z T0 T1 T2 T3 T4 T5 T X).2.2.2.1), zB_X3 (g 0) t2 ((v_X4_run Z T0 T1 T2 T3 T4 T5 T X).2.2.2.2.1), zB_X3 (g 0) t3 ((v_X4_run Z T0 T1 T2 T3 T4 T5 T X).2.2.2.2.2.1), zB_X3 (g 0) t4 ((v_X4_run Z T0 T1 T2 T3 T4 T5 T X).2.2.2.2.2.2.1), zB_X3 (g 0) t5 ((v_X4_run Z T0 T1 T2 T3 T4 T5 T X).2.2.2.2.2.2.2.1), zB_X3 (g 0) h ((v_X4_run Z T0 T1 T2 T3 T4 T5 T X).2.2.2.2.2.2.2.2.1), zB_X0 (g 0) x ((v_X4_run Z T0 T1 T2 T3 T4 T5 T X).2.2.2.2.2.2.2.2.2), zB_XJ (g 2) y J]) := hD
  refine lv_i2l hx hb dL_run_6 rfl ?_
  refine va_last (i := 0) (x := Int32.toInt64 ((v_X4_run Z T0 T1 T2 T3 T4 T5 T X).1)) hx hb hK.1 hP hD hS 82 2 rfl rfl (vp_in_nI (n := 0) (N := 1) (by decide) (by decide)) dL_run_7 (fun H locs hP hD hS => ?_)
  have hP : va_P D vwCl (zF [zB_X4 f h u o x, zB_X1 (g 1) u t0 t1 t2 t3 t4 t5 ((v_X4_run Z T0 T1 T2 T3 T4 T5 T X).2.1), zB_X3 (g 0) t0 ((v_X4_run Z T0 T1 T2 T3 T4 T5 T X).2.2.1), zB_X3 (g 0) t1 ((v_X4_run Z T0 T1 T2 T3 T4 T5 T X).2.2.2.1), zB_X3 (g 0) t2 ((v_X4_run Z T0 T1 T2 T3 T4 T5 T X).2.2.2.2.1), zB_X3 (g 0) t3 ((v_X4_run Z T0 T1 T2 T3 T4 T5 T X).2.2.2.2.2.1), zB_X3 (g 0) t4 ((v_X4_run Z T0 T1 T2 T3 T4 T5 T X).2.2.2.2.2.2.1), zB_X3 (g 0) t5 ((v_X4_run Z T0 T1 T2 T3 T4 T5 T X).2.2.2.2.2.2.2.1), zB_X3 (g 0) h ((v_X4_run Z T0 T1 T2 T3 T4 T5 T X).2.2.2.2.2.2.2.2.1), zB_X0 (g 0) x ((v_X4_run Z T0 T1 T2 T3 T4 T5 T X).2.2.2.2.2.2.2.2.2), zB_XJ (g 2) y (vp_updL J 0 (Int32.toInt64 ((v_X4_run Z T0 T1 T2 T3 T4 T5 T X).1)))]) H := hP
  have hD : va_D (zA (zF [zB_X4 f h u o x, zB_X1 (g 1) u t0 t1 t2 t3 t4 t5 Z, zB_X3 (g 0) t0 T0, zB_X3 (g 0) t1 T1, zB_X3 (g 0) t2 T2, zB_X3 (g 0) t3 T3, zB_X3 (g 0) t4 T4, zB_X3 (g 0) t5 T5, zB_X3 (g 0) h T, zB_X0 (g 0) x X, zB_XJ (g 2) y J])) (zF [zB_X4 f h u o x, zB_X1 (g 1) u t0 t1 t2 t3 t4 t5 ((v_X4_run Z T0 T1 T2 T3 T4 T5 T X).2.1), zB_X3 (g 0) t0 ((v_X4_run Z T0 T1 T2 T3 T4 T5 T X).2.2.1), zB_X3 (g 0) t1 ((v_X4_run Z T0 T1 T2 T3 T4 T5 T X).2.2.2.1), zB_X3 (g 0) t2 ((v_X4_run Z T0 T1 T2 T3 T4 T5 T X).2.2.2.2.1), zB_X3 (g 0) t3 ((v_X4_run Z T0 T1 T2 T3 T4 T5 T X).2.2.2.2.2.1), zB_X3 (g 0) t4 ((v_X4_run Z T0 T1 T2 T3 T4 T5 T X).2.2.2.2.2.2.1), zB_X3 (g 0) t5 ((v_X4_run Z T0 T1 T2 T3 T4 T5 T X).2.2.2.2.2.2.2.1), zB_X3 (g 0) h ((v_X4_run Z T0 T1 T2 T3 T4 T5 T X).2.2.2.2.2.2.2.2.1), zB_X0 (g 0) x ((v_X4_run Z T0 T1 T2 T3 T4 T5 T X).2.2.2.2.2.2.2.2.2), zB_XJ (g 2) y (vp_updL J 0 (Int32.toInt64 ((v_X4_run Z T0 T1 T2 T3 T4 T5 T X).1)))]) := hD
  refine lv_goto (tgt := 14) hx hb dL_run_8 (by decide) ?_
  refine lv_iconst (v := 0) hx hb dL_run_14 (by decide) ?_
  refine W.widen (k := 1) (n := 6) (Nat.zero_le _) (Nat.zero_le _) ?_
  exact zretL hx hb hr hlocks dL_run_15 hP hS rfl rfl
set_option maxHeartbeats 400000 in
set_option maxRecDepth 100000 in
theorem c_L_undo (l : Launch) (D : va_G) (g : Nat → ClassId) (hp : Nat) (f : Nat → Nat) (h : Nat → Nat) (u : Nat → Nat) (o : Nat → Nat) (x : Nat → Nat) (t0 : Nat → Nat) (t1 : Nat → Nat) (t2 : Nat → Nat) (t3 : Nat → Nat) (t4 : Nat → Nat) (t5 : Nat → Nat) (y : Nat → Nat) (Z : Nat → Nat → Int32) (T0 : Nat → Nat → Int32) (T1 : Nat → Nat → Int32) (T2 : Nat → Nat → Int32) (T3 : Nat → Nat → Int32) (T4 : Nat → Nat → Int32) (T5 : Nat → Nat → Int32) (T : Nat → Nat → Int32) (J : Nat → Int64) (z0 : vp_in (Z 0 0) 7) (z1 : vp_in (Z 1 0) 6) (he : e_X4_undo Z T0 T1 T2 T3 T4 T5 T = none) : Lw l D (zT g) hp yL_undo wsL_undo (rmX 7 102) [.ref (f 0), .ref (y 0)] (zF [zB_X4 f h u o x, zB_X1 (g 1) u t0 t1 t2 t3 t4 t5 Z, zB_X3 (g 0) t0 T0, zB_X3 (g 0) t1 T1, zB_X3 (g 0) t2 T2, zB_X3 (g 0) t3 T3, zB_X3 (g 0) t4 T4, zB_X3 (g 0) t5 T5, zB_X3 (g 0) h T, zB_XJ (g 2) y J]) 0 (zF [zB_X4 f h u o x, zB_X1 (g 1) u t0 t1 t2 t3 t4 t5 ((v_X4_undo Z T0 T1 T2 T3 T4 T5 T).2.1), zB_X3 (g 0) t0 T0, zB_X3 (g 0) t1 T1, zB_X3 (g 0) t2 T2, zB_X3 (g 0) t3 T3, zB_X3 (g 0) t4 T4, zB_X3 (g 0) t5 T5, zB_X3 (g 0) h ((v_X4_undo Z T0 T1 T2 T3 T4 T5 T).2.2), zB_XJ (g 2) y (vp_updL J 0 (Int32.toInt64 ((v_X4_undo Z T0 T1 T2 T3 T4 T5 T).1)))]) := by
  refine Lw.of (cc := cL_undo) (maxL := 3) (ret := some .int) (hh := [(0, 8, 11, 15)]) (by decide) rfl (Nat.le_of_ble_eq_true rfl) ?_
  intro p e s m below meth c ls hx hb hr hml hown hts hlocks htab hP hD hDp hS hK hE hl
  have hown : s.vm.findClass RL = some m.cls := hown
  have hl : lv_has ls 3 [(0, .ref (f 0)), (1, .ref (y 0))] := hl
  refine lv_aload_n hx hb dL_undo_0 rfl (lv_at hl 1 rfl) ?_
  refine lv_iconst (v := 0) hx hb dL_undo_1 (by decide) ?_
  refine lv_aload_n hx hb dL_undo_2 rfl (lv_at hl 0 rfl) ?_
  refine zcVw (ci := 4) (n := 0) (c_X4_undo l D g f h u o x t0 t1 t2 t3 t4 t5 Z T0 T1 T2 T3 T4 T5 T z0 z1 he) hx hb hml hown hts gL_undo_X4_undo rfl ⟨rfl, by decide, by decide, by decide⟩ ⟨Nat.le_of_ble_eq_true rfl, Nat.le_of_ble_eq_true rfl⟩ ⟨rfl, rfl⟩ hK (zsubB (cs := [zB_X4 f h u o x, zB_X1 (g 1) u t0 t1 t2 t3 t4 t5 Z, zB_X3 (g 0) t0 T0, zB_X3 (g 0) t1 T1, zB_X3 (g 0) t2 T2, zB_X3 (g 0) t3 T3, zB_X3 (g 0) t4 T4, zB_X3 (g 0) t5 T5, zB_X3 (g 0) h T]) hP [0, 1, 2, 3, 4, 5, 6, 7, 8] rfl rfl) (zDsubB (cs := [zB_X4 f h u o x, zB_X1 (g 1) u t0 t1 t2 t3 t4 t5 Z, zB_X3 (g 0) t0 T0, zB_X3 (g 0) t1 T1, zB_X3 (g 0) t2 T2, zB_X3 (g 0) t3 T3, zB_X3 (g 0) t4 T4, zB_X3 (g 0) t5 T5, zB_X3 (g 0) h T]) hD [0, 1, 2, 3, 4, 5, 6, 7, 8] (by decide) rfl rfl) rfl rfl rfl hS hl.1 rfl rfl (Nat.le_of_ble_eq_true rfl) ⟨Nat.zero_le _, Nat.zero_le _⟩ dL_undo_3 (fun H1 locs hP1 hk1 hS => ?_)
  obtain ⟨hP, hD⟩ := zjoinB (cs := [zB_X4 f h u o x, zB_X1 (g 1) u t0 t1 t2 t3 t4 t5 Z, zB_X3 (g 0) t0 T0, zB_X3 (g 0) t1 T1, zB_X3 (g 0) t2 T2, zB_X3 (g 0) t3 T3, zB_X3 (g 0) t4 T4, zB_X3 (g 0) t5 T5, zB_X3 (g 0) h T]) (cs' := [zB_X4 f h u o x, zB_X1 (g 1) u t0 t1 t2 t3 t4 t5 ((v_X4_undo Z T0 T1 T2 T3 T4 T5 T).2.1), zB_X3 (g 0) t0 T0, zB_X3 (g 0) t1 T1, zB_X3 (g 0) t2 T2, zB_X3 (g 0) t3 T3, zB_X3 (g 0) t4 T4, zB_X3 (g 0) t5 T5, zB_X3 (g 0) h ((v_X4_undo Z T0 T1 T2 T3 T4 T5 T).2.2)]) hP hD [0, 1, 2, 3, 4, 5, 6, 7, 8] (by decide) rfl (by simp only [zF, List.flatten_cons, List.flatten_nil, List.append_nil, List.map_append, List.map_cons, List.map_nil, zad_X0, zad_X1, zad_X2, zad_X3, zad_X4, zad_X5, zad_XJ, zad_XD]) rfl rfl hk1 hP1
  clear hP1 hk1
  have hP : va_P D vwCl (zF [zB_X4 f h u o x, zB_X1 (g 1) u t0 t1 t2 t3 t4 t5 ((v_X4_undo Z T0 T1 T2 T3 T4 T5 T).2.1), zB_X3 (g 0) t0 T0, zB_X3 (g 0) t1 T1, zB_X3 (g 0) t2 T2, zB_X3 (g 0) t3 T3, zB_X3 (g 0) t4 T4, zB_X3 (g 0) t5 T5, zB_X3 (g 0) h ((v_X4_undo Z T0 T1 T2 T3 T4 T5 T).2.2), zB_XJ (g 2) y J]) H1 := hP
  have hD : va_D (zA (zF [zB_X4 f h u o x, zB_X1 (g 1) u t0 t1 t2 t3 t4 t5 Z, zB_X3 (g 0) t0 T0, zB_X3 (g 0) t1 T1, zB_X3 (g 0) t2 T2, zB_X3 (g 0) t3 T3, zB_X3 (g 0) t4 T4, zB_X3 (g 0) t5 T5, zB_X3 (g 0) h T, zB_XJ (g 2) y J])) (zF [zB_X4 f h u o x, zB_X1 (g 1) u t0 t1 t2 t3 t4 t5 ((v_X4_undo Z T0 T1 T2 T3 T4 T5 T).2.1), zB_X3 (g 0) t0 T0, zB_X3 (g 0) t1 T1, zB_X3 (g 0) t2 T2, zB_X3 (g 0) t3 T3, zB_X3 (g 0) t4 T4, zB_X3 (g 0) t5 T5, zB_X3 (g 0) h ((v_X4_undo Z T0 T1 T2 T3 T4 T5 T).2.2), zB_XJ (g 2) y J]) := hD
  refine lv_i2l hx hb dL_undo_6 rfl ?_
  refine va_last (i := 0) (x := Int32.toInt64 ((v_X4_undo Z T0 T1 T2 T3 T4 T5 T).1)) hx hb hK.1 hP hD hS 80 2 rfl rfl (vp_in_nI (n := 0) (N := 1) (by decide) (by decide)) dL_undo_7 (fun H locs hP hD hS => ?_)
  have hP : va_P D vwCl (zF [zB_X4 f h u o x, zB_X1 (g 1) u t0 t1 t2 t3 t4 t5 ((v_X4_undo Z T0 T1 T2 T3 T4 T5 T).2.1), zB_X3 (g 0) t0 T0, zB_X3 (g 0) t1 T1, zB_X3 (g 0) t2 T2, zB_X3 (g 0) t3 T3, zB_X3 (g 0) t4 T4, zB_X3 (g 0) t5 T5, zB_X3 (g 0) h ((v_X4_undo Z T0 T1 T2 T3 T4 T5 T).2.2), zB_XJ (g 2) y (vp_updL J 0 (Int32.toInt64 ((v_X4_undo Z T0 T1 T2 T3 T4 T5 T).1)))]) H := hP
  have hD : va_D (zA (zF [zB_X4 f h u o x, zB_X1 (g 1) u t0 t1 t2 t3 t4 t5 Z, zB_X3 (g 0) t0 T0, zB_X3 (g 0) t1 T1, zB_X3 (g 0) t2 T2, zB_X3 (g 0) t3 T3, zB_X3 (g 0) t4 T4, zB_X3 (g 0) t5 T5, zB_X3 (g 0) h T, zB_XJ (g 2) y J])) (zF [zB_X4 f h u o x, zB_X1 (g 1) u t0 t1 t2 t3 t4 t5 ((v_X4_undo Z T0 T1 T2 T3 T4 T5 T).2.1), zB_X3 (g 0) t0 T0, zB_X3 (g 0) t1 T1, zB_X3 (g 0) t2 T2, zB_X3 (g 0) t3 T3, zB_X3 (g 0) t4 T4, zB_X3 (g 0) t5 T5, zB_X3 (g 0) h ((v_X4_undo Z T0 T1 T2 T3 T4 T5 T).2.2), zB_XJ (g 2) y (vp_updL J 0 (Int32.toInt64 ((v_X4_undo Z T0 T1 T2 T3 T4 T5 T).1)))]) := hD
  refine lv_goto (tgt := 14) hx hb dL_undo_8 (by decide) ?_
  refine lv_iconst (v := 0) hx hb dL_undo_14 (by decide) ?_
  refine W.widen (k := 1) (n := 6) (Nat.zero_le _) (Nat.zero_le _) ?_
  exact zretL hx hb hr hlocks dL_undo_15 hP hS rfl rfl
set_option maxHeartbeats 400000 in
set_option maxRecDepth 100000 in
theorem t_L_undo_0 (l : Launch) (D : va_G) (g : Nat → ClassId) (hp : Nat) (f : Nat → Nat) (h : Nat → Nat) (u : Nat → Nat) (o : Nat → Nat) (x : Nat → Nat) (t0 : Nat → Nat) (t1 : Nat → Nat) (t2 : Nat → Nat) (t3 : Nat → Nat) (t4 : Nat → Nat) (t5 : Nat → Nat) (y : Nat → Nat) (Z : Nat → Nat → Int32) (T0 : Nat → Nat → Int32) (T1 : Nat → Nat → Int32) (T2 : Nat → Nat → Int32) (T3 : Nat → Nat → Int32) (T4 : Nat → Nat → Int32) (T5 : Nat → Nat → Int32) (T : Nat → Nat → Int32) (J : Nat → Int64) (z0 : vp_in (Z 0 0) 7) (z1 : vp_in (Z 1 0) 6) (hst : l.stackTraces = false) (he : e_X4_undo Z T0 T1 T2 T3 T4 T5 T = some "java/lang/IllegalStateException") : Lw l D (zT g) hp yL_undo wsL_undo (rmX 7 102) [.ref (f 0), .ref (y 0)] (zF [zB_X4 f h u o x, zB_X1 (g 1) u t0 t1 t2 t3 t4 t5 Z, zB_X3 (g 0) t0 T0, zB_X3 (g 0) t1 T1, zB_X3 (g 0) t2 T2, zB_X3 (g 0) t3 T3, zB_X3 (g 0) t4 T4, zB_X3 (g 0) t5 T5, zB_X3 (g 0) h T, zB_XJ (g 2) y J]) 1 (zF [zB_X4 f h u o x, zB_X1 (g 1) u t0 t1 t2 t3 t4 t5 Z, zB_X3 (g 0) t0 T0, zB_X3 (g 0) t1 T1, zB_X3 (g 0) t2 T2, zB_X3 (g 0) t3 T3, zB_X3 (g 0) t4 T4, zB_X3 (g 0) t5 T5, zB_X3 (g 0) h T, zB_XJ (g 2) y J]) := by
  refine Lw.of (cc := cL_undo) (maxL := 3) (ret := some .int) (hh := [(0, 8, 11, 15)]) (by decide) rfl (Nat.le_of_ble_eq_true rfl) ?_
  intro p e s m below meth c ls hx hb hr hml hown hts hlocks htab hP hD hDp hS hK hE hl
  have hown : s.vm.findClass RL = some m.cls := hown
  have hl : lv_has ls 3 [(0, .ref (f 0)), (1, .ref (y 0))] := hl
  refine lv_aload_n hx hb dL_undo_0 rfl (lv_at hl 1 rfl) ?_
  refine lv_iconst (v := 0) hx hb dL_undo_1 (by decide) ?_
  refine lv_aload_n hx hb dL_undo_2 rfl (lv_at hl 0 rfl) ?_
  refine zcatV (tgt := 11) (ci := 4) (n := 0) (t_X4_undo l D g f h u o x t0 t1 t2 t3 t4 t5 Z T0 T1 T2 T3 T4 T5 T z0 z1 hst hp _ he) hx hb hml hown hts gL_undo_X4_undo rfl ⟨rfl, by decide, by decide, by decide⟩ ⟨Nat.le_of_ble_eq_true rfl, Nat.le_of_ble_eq_true rfl⟩ ⟨rfl, rfl⟩ hK (zsubB (cs := [zB_X4 f h u o x, zB_X1 (g 1) u t0 t1 t2 t3 t4 t5 Z, zB_X3 (g 0) t0 T0, zB_X3 (g 0) t1 T1, zB_X3 (g 0) t2 T2, zB_X3 (g 0) t3 T3, zB_X3 (g 0) t4 T4, zB_X3 (g 0) t5 T5, zB_X3 (g 0) h T]) hP [0, 1, 2, 3, 4, 5, 6, 7, 8] rfl rfl) (zDsubB (cs := [zB_X4 f h u o x, zB_X1 (g 1) u t0 t1 t2 t3 t4 t5 Z, zB_X3 (g 0) t0 T0, zB_X3 (g 0) t1 T1, zB_X3 (g 0) t2 T2, zB_X3 (g 0) t3 T3, zB_X3 (g 0) t4 T4, zB_X3 (g 0) t5 T5, zB_X3 (g 0) h T]) hDp [0, 1, 2, 3, 4, 5, 6, 7, 8] (by decide) rfl rfl) hE rfl rfl rfl hl.1 rfl rfl (Nat.le_of_ble_eq_true rfl) ⟨Nat.le_of_ble_eq_true rfl, Nat.le_of_ble_eq_true rfl⟩ dL_undo_3 [] (0, 8, 11, 15) [] htab rfl (show ∀ z ∈ ([] : List ExceptionTableEntry), _ from (fun _ h9 => nomatch h9)) (show ∀ z ∈ ([⟨0, 8, 11, 15⟩] : List ExceptionTableEntry), _ from (List.forall_mem_cons.mpr ⟨⟨by decide, by decide, (List.mem_of_getElem? (i := 1) rfl), rfl⟩, fun _ h9 => nomatch h9⟩)) (by decide +kernel) (fun q9 H1 hz hk1 => ?_)
  have hP : va_P D vwCl (zF [zB_X4 f h u o x, zB_X1 (g 1) u t0 t1 t2 t3 t4 t5 Z, zB_X3 (g 0) t0 T0, zB_X3 (g 0) t1 T1, zB_X3 (g 0) t2 T2, zB_X3 (g 0) t3 T3, zB_X3 (g 0) t4 T4, zB_X3 (g 0) t5 T5, zB_X3 (g 0) h T, zB_XJ (g 2) y J]) H1 := fun k q h9 => (hP k q h9).kept (hk1 q.1 (hP k q h9).lt)
  have hS : va_S (zA (zF [zB_X4 f h u o x, zB_X1 (g 1) u t0 t1 t2 t3 t4 t5 Z, zB_X3 (g 0) t0 T0, zB_X3 (g 0) t1 T1, zB_X3 (g 0) t2 T2, zB_X3 (g 0) t3 T3, zB_X3 (g 0) t4 T4, zB_X3 (g 0) t5 T5, zB_X3 (g 0) h T, zB_XJ (g 2) y J])) s.heap H1 [] := ⟨hz, fun q h1 _ => hk1 q h1, fun _ h9 => nomatch h9⟩
  refine lv_astore_n (lv' := [(2, .ref q9), (0, .ref (f 0)), (1, .ref (y 0))]) hx hb dL_undo_11 rfl hl (by decide) rfl (fun ls hl => ?_)
  refine lv_iconst (v := 1) hx hb dL_undo_12 (by decide) ?_
  exact zretL hx hb hr hlocks dL_undo_13 hP hS rfl rfl
set_option maxHeartbeats 400000 in
set_option maxRecDepth 100000 in
theorem c_L_eats (l : Launch) (D : va_G) (g : Nat → ClassId) (hp : Nat) (f : Nat → Nat) (h : Nat → Nat) (u : Nat → Nat) (o : Nat → Nat) (x : Nat → Nat) (y : Nat → Nat) (T : Nat → Nat → Int32) (J : Nat → Int64) (pe : Int32) (xb : Int32) (he : e_X4_eats T pe xb = none) : Lw l D (zT g) hp yL_eats wsL_eats (rmX 8 125) [.ref (f 0), .int pe, .int xb, .ref (y 0)] (zF [zB_X4 f h u o x, zB_X3 (g 0) h T, zB_XJ (g 2) y J]) 0 (zF [zB_X4 f h u o x, zB_X3 (g 0) h T, zB_XJ (g 2) y (vp_updL J 0 (Int32.toInt64 (v_X4_eats T pe xb)))]) := by
  refine Lw.of (cc := cL_eats) (maxL := 5) (ret := some .int) (hh := [(0, 10, 13, 21)]) (by decide) rfl (Nat.le_of_ble_eq_true rfl) ?_
  intro p e s m below meth c ls hx hb hr hml hown hts hlocks htab hP hD hDp hS hK hE hl
  have hown : s.vm.findClass RL = some m.cls := hown
  have hl : lv_has ls 5 [(0, .ref (f 0)), (1, .int pe), (2, .int xb), (3, .ref (y 0))] := hl
  refine lv_aload_n hx hb dL_eats_0 rfl (lv_at hl 3 rfl) ?_
  refine lv_iconst (v := 0) hx hb dL_eats_1 (by decide) ?_
  refine lv_aload_n hx hb dL_eats_2 rfl (lv_at hl 0 rfl) ?_
  refine lv_iload_n hx hb dL_eats_3 rfl (lv_at hl 1 rfl) ?_
  refine lv_iload_n hx hb dL_eats_4 rfl (lv_at hl 2 rfl) ?_
  refine zcV (ci := 4) (n := 2) (c_X4_eats l D g f h u o x T pe xb he) hx hb hml hown hts gL_eats_X4_eats rfl ⟨rfl, by decide, by decide, by decide⟩ ⟨Nat.le_of_ble_eq_true rfl, Nat.le_of_ble_eq_true rfl⟩ ⟨rfl, rfl⟩ hK (zsubB (cs := [zB_X4 f h u o x, zB_X3 (g 0) h T]) hP [0, 1] rfl (zF2 _ _)) rfl rfl rfl hl.1 rfl rfl (Nat.le_of_ble_eq_true rfl) ⟨Nat.zero_le _, Nat.zero_le _⟩ dL_eats_5 ?_
  refine lv_i2l hx hb dL_eats_8 rfl ?_
  refine va_last (i := 0) (x := Int32.toInt64 (v_X4_eats T pe xb)) hx hb hK.1 hP hD hS 12 2 rfl rfl (vp_in_nI (n := 0) (N := 1) (by decide) (by decide)) dL_eats_9 (fun H locs hP hD hS => ?_)
  have hP : va_P D vwCl (zF [zB_X4 f h u o x, zB_X3 (g 0) h T, zB_XJ (g 2) y (vp_updL J 0 (Int32.toInt64 (v_X4_eats T pe xb)))]) H := hP
  have hD : va_D (zA (zF [zB_X4 f h u o x, zB_X3 (g 0) h T, zB_XJ (g 2) y J])) (zF [zB_X4 f h u o x, zB_X3 (g 0) h T, zB_XJ (g 2) y (vp_updL J 0 (Int32.toInt64 (v_X4_eats T pe xb)))]) := hD
  refine lv_goto (tgt := 17) hx hb dL_eats_10 (by decide) ?_
  refine lv_iconst (v := 0) hx hb dL_eats_17 (by decide) ?_
  refine W.widen (k := 1) (n := 6) (Nat.zero_le _) (Nat.zero_le _) ?_
  exact zretL hx hb hr hlocks dL_eats_18 hP hS rfl rfl
set_option maxHeartbeats 400000 in
set_option maxRecDepth 100000 in
theorem t_L_eats_0 (l : Launch) (D : va_G) (g : Nat → ClassId) (hp : Nat) (f : Nat → Nat) (h : Nat → Nat) (u : Nat → Nat) (o : Nat → Nat) (x : Nat → Nat) (y : Nat → Nat) (T : Nat → Nat → Int32) (J : Nat → Int64) (pe : Int32) (xb : Int32) (hst : l.stackTraces = false) (he : e_X4_eats T pe xb = some "java/lang/IndexOutOfBoundsException") : Lw l D (zT g) hp yL_eats wsL_eats (rmX 8 125) [.ref (f 0), .int pe, .int xb, .ref (y 0)] (zF [zB_X4 f h u o x, zB_X3 (g 0) h T, zB_XJ (g 2) y J]) 1 (zF [zB_X4 f h u o x, zB_X3 (g 0) h T, zB_XJ (g 2) y J]) := by
  refine Lw.of (cc := cL_eats) (maxL := 5) (ret := some .int) (hh := [(0, 10, 13, 21)]) (by decide) rfl (Nat.le_of_ble_eq_true rfl) ?_
  intro p e s m below meth c ls hx hb hr hml hown hts hlocks htab hP hD hDp hS hK hE hl
  have hown : s.vm.findClass RL = some m.cls := hown
  have hl : lv_has ls 5 [(0, .ref (f 0)), (1, .int pe), (2, .int xb), (3, .ref (y 0))] := hl
  refine lv_aload_n hx hb dL_eats_0 rfl (lv_at hl 3 rfl) ?_
  refine lv_iconst (v := 0) hx hb dL_eats_1 (by decide) ?_
  refine lv_aload_n hx hb dL_eats_2 rfl (lv_at hl 0 rfl) ?_
  refine lv_iload_n hx hb dL_eats_3 rfl (lv_at hl 1 rfl) ?_
  refine lv_iload_n hx hb dL_eats_4 rfl (lv_at hl 2 rfl) ?_
  refine zcatV (tgt := 13) (ci := 4) (n := 2) (t_X4_eats l D g f h u o x T pe xb hst hp _ he) hx hb hml hown hts gL_eats_X4_eats rfl ⟨rfl, by decide, by decide, by decide⟩ ⟨Nat.le_of_ble_eq_true rfl, Nat.le_of_ble_eq_true rfl⟩ ⟨rfl, rfl⟩ hK (zsubB (cs := [zB_X4 f h u o x, zB_X3 (g 0) h T]) hP [0, 1] rfl (zF2 _ _)) (zDsubB (cs := [zB_X4 f h u o x, zB_X3 (g 0) h T]) hDp [0, 1] (by decide) rfl (zF2 _ _)) hE rfl rfl rfl hl.1 rfl rfl (Nat.le_of_ble_eq_true rfl) ⟨Nat.le_of_ble_eq_true rfl, Nat.le_of_ble_eq_true rfl⟩ dL_eats_5 [] (0, 10, 13, 21) [] htab rfl (show ∀ z ∈ ([] : List ExceptionTableEntry), _ from (fun _ h9 => nomatch h9)) (show ∀ z ∈ ([⟨0, 10, 13, 21⟩] : List ExceptionTableEntry), _ from (List.forall_mem_cons.mpr ⟨⟨by decide, by decide, (List.mem_of_getElem? (i := 1) rfl), rfl⟩, fun _ h9 => nomatch h9⟩)) (by decide +kernel) (fun q9 H1 hz hk1 => ?_)
  have hP : va_P D vwCl (zF [zB_X4 f h u o x, zB_X3 (g 0) h T, zB_XJ (g 2) y J]) H1 := fun k q h9 => (hP k q h9).kept (hk1 q.1 (hP k q h9).lt)
  have hS : va_S (zA (zF [zB_X4 f h u o x, zB_X3 (g 0) h T, zB_XJ (g 2) y J])) s.heap H1 [] := ⟨hz, fun q h1 _ => hk1 q h1, fun _ h9 => nomatch h9⟩
  refine lv_astore (lv' := [(4, .ref q9), (0, .ref (f 0)), (1, .int pe), (2, .int xb), (3, .ref (y 0))]) hx hb dL_eats_13 hl (by decide) rfl (fun ls hl => ?_)
  refine lv_iconst (v := 1) hx hb dL_eats_15 (by decide) ?_
  exact zretL hx hb hr hlocks dL_eats_16 hP hS rfl rfl
set_option maxHeartbeats 400000 in
set_option maxRecDepth 100000 in
theorem c_L_bucket (l : Launch) (D : va_G) (g : Nat → ClassId) (hp : Nat) (f : Nat → Nat) (h : Nat → Nat) (u : Nat → Nat) (o : Nat → Nat) (x : Nat → Nat) (y : Nat → Nat) (T : Nat → Nat → Int32) (J : Nat → Int64) (pe : Int32) (xb : Int32) (he : e_X4_bucket T pe xb = none) : Lw l D (zT g) hp yL_bucket wsL_bucket (rmX 8 125) [.ref (f 0), .int pe, .int xb, .ref (y 0)] (zF [zB_X4 f h u o x, zB_X3 (g 0) h T, zB_XJ (g 2) y J]) 0 (zF [zB_X4 f h u o x, zB_X3 (g 0) h T, zB_XJ (g 2) y (vp_updL J 0 (Int32.toInt64 (nI (v_X4_bucket T pe xb))))]) := by
  refine Lw.of (cc := cL_bucket) (maxL := 5) (ret := some .int) (hh := [(0, 10, 13, 21)]) (by decide) rfl (Nat.le_of_ble_eq_true rfl) ?_
  intro p e s m below meth c ls hx hb hr hml hown hts hlocks htab hP hD hDp hS hK hE hl
  have hown : s.vm.findClass RL = some m.cls := hown
  have hl : lv_has ls 5 [(0, .ref (f 0)), (1, .int pe), (2, .int xb), (3, .ref (y 0))] := hl
  refine lv_aload_n hx hb dL_bucket_0 rfl (lv_at hl 3 rfl) ?_
  refine lv_iconst (v := 0) hx hb dL_bucket_1 (by decide) ?_
  refine lv_aload_n hx hb dL_bucket_2 rfl (lv_at hl 0 rfl) ?_
  refine lv_iload_n hx hb dL_bucket_3 rfl (lv_at hl 1 rfl) ?_
  refine lv_iload_n hx hb dL_bucket_4 rfl (lv_at hl 2 rfl) ?_
  refine zcV (ci := 4) (n := 2) (c_X4_bucket l D g f h u o x T pe xb he) hx hb hml hown hts gL_bucket_X4_bucket rfl ⟨rfl, by decide, by decide, by decide⟩ ⟨Nat.le_of_ble_eq_true rfl, Nat.le_of_ble_eq_true rfl⟩ ⟨rfl, rfl⟩ hK (zsubB (cs := [zB_X4 f h u o x, zB_X3 (g 0) h T]) hP [0, 1] rfl (zF2 _ _)) rfl rfl rfl hl.1 rfl rfl (Nat.le_of_ble_eq_true rfl) ⟨Nat.zero_le _, Nat.zero_le _⟩ dL_bucket_5 ?_
  refine lv_i2l hx hb dL_bucket_8 rfl ?_
  refine va_last (i := 0) (x := Int32.toInt64 (nI (v_X4_bucket T pe xb))) hx hb hK.1 hP hD hS 12 2 rfl rfl (vp_in_nI (n := 0) (N := 1) (by decide) (by decide)) dL_bucket_9 (fun H locs hP hD hS => ?_)
  have hP : va_P D vwCl (zF [zB_X4 f h u o x, zB_X3 (g 0) h T, zB_XJ (g 2) y (vp_updL J 0 (Int32.toInt64 (nI (v_X4_bucket T pe xb))))]) H := hP
  have hD : va_D (zA (zF [zB_X4 f h u o x, zB_X3 (g 0) h T, zB_XJ (g 2) y J])) (zF [zB_X4 f h u o x, zB_X3 (g 0) h T, zB_XJ (g 2) y (vp_updL J 0 (Int32.toInt64 (nI (v_X4_bucket T pe xb))))]) := hD
  refine lv_goto (tgt := 17) hx hb dL_bucket_10 (by decide) ?_
  refine lv_iconst (v := 0) hx hb dL_bucket_17 (by decide) ?_
  refine W.widen (k := 1) (n := 6) (Nat.zero_le _) (Nat.zero_le _) ?_
  exact zretL hx hb hr hlocks dL_bucket_18 hP hS rfl rfl
set_option maxHeartbeats 400000 in
set_option maxRecDepth 100000 in
theorem t_L_bucket_0 (l : Launch) (D : va_G) (g : Nat → ClassId) (hp : Nat) (f : Nat → Nat) (h : Nat → Nat) (u : Nat → Nat) (o : Nat → Nat) (x : Nat → Nat) (y : Nat → Nat) (T : Nat → Nat → Int32) (J : Nat → Int64) (pe : Int32) (xb : Int32) (hst : l.stackTraces = false) (he : e_X4_bucket T pe xb = some "java/lang/IndexOutOfBoundsException") : Lw l D (zT g) hp yL_bucket wsL_bucket (rmX 8 125) [.ref (f 0), .int pe, .int xb, .ref (y 0)] (zF [zB_X4 f h u o x, zB_X3 (g 0) h T, zB_XJ (g 2) y J]) 1 (zF [zB_X4 f h u o x, zB_X3 (g 0) h T, zB_XJ (g 2) y J]) := by
  refine Lw.of (cc := cL_bucket) (maxL := 5) (ret := some .int) (hh := [(0, 10, 13, 21)]) (by decide) rfl (Nat.le_of_ble_eq_true rfl) ?_
  intro p e s m below meth c ls hx hb hr hml hown hts hlocks htab hP hD hDp hS hK hE hl
  have hown : s.vm.findClass RL = some m.cls := hown
  have hl : lv_has ls 5 [(0, .ref (f 0)), (1, .int pe), (2, .int xb), (3, .ref (y 0))] := hl
  refine lv_aload_n hx hb dL_bucket_0 rfl (lv_at hl 3 rfl) ?_
  refine lv_iconst (v := 0) hx hb dL_bucket_1 (by decide) ?_
  refine lv_aload_n hx hb dL_bucket_2 rfl (lv_at hl 0 rfl) ?_
  refine lv_iload_n hx hb dL_bucket_3 rfl (lv_at hl 1 rfl) ?_
  refine lv_iload_n hx hb dL_bucket_4 rfl (lv_at hl 2 rfl) ?_
  refine zcatV (tgt := 13) (ci := 4) (n := 2) (t_X4_bucket l D g f h u o x T pe xb hst hp _ he) hx hb hml hown hts gL_bucket_X4_bucket rfl ⟨rfl, by decide, by decide, by decide⟩ ⟨Nat.le_of_ble_eq_true rfl, Nat.le_of_ble_eq_true rfl⟩ ⟨rfl, rfl⟩ hK (zsubB (cs := [zB_X4 f h u o x, zB_X3 (g 0) h T]) hP [0, 1] rfl (zF2 _ _)) (zDsubB (cs := [zB_X4 f h u o x, zB_X3 (g 0) h T]) hDp [0, 1] (by decide) rfl (zF2 _ _)) hE rfl rfl rfl hl.1 rfl rfl (Nat.le_of_ble_eq_true rfl) ⟨Nat.le_of_ble_eq_true rfl, Nat.le_of_ble_eq_true rfl⟩ dL_bucket_5 [] (0, 10, 13, 21) [] htab rfl (show ∀ z ∈ ([] : List ExceptionTableEntry), _ from (fun _ h9 => nomatch h9)) (show ∀ z ∈ ([⟨0, 10, 13, 21⟩] : List ExceptionTableEntry), _ from (List.forall_mem_cons.mpr ⟨⟨by decide, by decide, (List.mem_of_getElem? (i := 1) rfl), rfl⟩, fun _ h9 => nomatch h9⟩)) (by decide +kernel) (fun q9 H1 hz hk1 => ?_)
  have hP : va_P D vwCl (zF [zB_X4 f h u o x, zB_X3 (g 0) h T, zB_XJ (g 2) y J]) H1 := fun k q h9 => (hP k q h9).kept (hk1 q.1 (hP k q h9).lt)
  have hS : va_S (zA (zF [zB_X4 f h u o x, zB_X3 (g 0) h T, zB_XJ (g 2) y J])) s.heap H1 [] := ⟨hz, fun q h1 _ => hk1 q h1, fun _ h9 => nomatch h9⟩
  refine lv_astore (lv' := [(4, .ref q9), (0, .ref (f 0)), (1, .int pe), (2, .int xb), (3, .ref (y 0))]) hx hb dL_bucket_13 hl (by decide) rfl (fun ls hl => ?_)
  refine lv_iconst (v := 1) hx hb dL_bucket_15 (by decide) ?_
  exact zretL hx hb hr hlocks dL_bucket_16 hP hS rfl rfl
set_option maxHeartbeats 400000 in
set_option maxRecDepth 100000 in
theorem c_L_bread (l : Launch) (D : va_G) (g : Nat → ClassId) (hp : Nat) (f : Nat → Nat) (h : Nat → Nat) (u : Nat → Nat) (o : Nat → Nat) (x : Nat → Nat) (y : Nat → Nat) (T : Nat → Nat → Int32) (J : Nat → Int64) (xb : Int32) (wh : Int32) (he : e_X4_bread T xb wh = none) : Lw l D (zT g) hp yL_bread wsL_bread (rmX 8 136) [.ref (f 0), .int xb, .int wh, .ref (y 0)] (zF [zB_X4 f h u o x, zB_X3 (g 0) h T, zB_XJ (g 2) y J]) 0 (zF [zB_X4 f h u o x, zB_X3 (g 0) h T, zB_XJ (g 2) y (vp_updL J 0 (Int32.toInt64 (v_X4_bread T xb wh)))]) := by
  refine Lw.of (cc := cL_bread) (maxL := 5) (ret := some .int) (hh := [(0, 10, 13, 21), (0, 10, 17, 13)]) (by decide) rfl (Nat.le_of_ble_eq_true rfl) ?_
  intro p e s m below meth c ls hx hb hr hml hown hts hlocks htab hP hD hDp hS hK hE hl
  have hown : s.vm.findClass RL = some m.cls := hown
  have hl : lv_has ls 5 [(0, .ref (f 0)), (1, .int xb), (2, .int wh), (3, .ref (y 0))] := hl
  refine lv_aload_n hx hb dL_bread_0 rfl (lv_at hl 3 rfl) ?_
  refine lv_iconst (v := 0) hx hb dL_bread_1 (by decide) ?_
  refine lv_aload_n hx hb dL_bread_2 rfl (lv_at hl 0 rfl) ?_
  refine lv_iload_n hx hb dL_bread_3 rfl (lv_at hl 1 rfl) ?_
  refine lv_iload_n hx hb dL_bread_4 rfl (lv_at hl 2 rfl) ?_
  refine zcV (ci := 4) (n := 2) (c_X4_bread l D g f h u o x T xb wh he) hx hb hml hown hts gL_bread_X4_bread rfl ⟨rfl, by decide, by decide, by decide⟩ ⟨Nat.le_of_ble_eq_true rfl, Nat.le_of_ble_eq_true rfl⟩ ⟨rfl, rfl⟩ hK (zsubB (cs := [zB_X4 f h u o x, zB_X3 (g 0) h T]) hP [0, 1] rfl (zF2 _ _)) rfl rfl rfl hl.1 rfl rfl (Nat.le_of_ble_eq_true rfl) ⟨Nat.zero_le _, Nat.zero_le _⟩ dL_bread_5 ?_
  refine lv_i2l hx hb dL_bread_8 rfl ?_
  refine va_last (i := 0) (x := Int32.toInt64 (v_X4_bread T xb wh)) hx hb hK.1 hP hD hS 12 2 rfl rfl (vp_in_nI (n := 0) (N := 1) (by decide) (by decide)) dL_bread_9 (fun H locs hP hD hS => ?_)
  have hP : va_P D vwCl (zF [zB_X4 f h u o x, zB_X3 (g 0) h T, zB_XJ (g 2) y (vp_updL J 0 (Int32.toInt64 (v_X4_bread T xb wh)))]) H := hP
  have hD : va_D (zA (zF [zB_X4 f h u o x, zB_X3 (g 0) h T, zB_XJ (g 2) y J])) (zF [zB_X4 f h u o x, zB_X3 (g 0) h T, zB_XJ (g 2) y (vp_updL J 0 (Int32.toInt64 (v_X4_bread T xb wh)))]) := hD
  refine lv_goto (tgt := 21) hx hb dL_bread_10 (by decide) ?_
  refine lv_iconst (v := 0) hx hb dL_bread_21 (by decide) ?_
  refine W.widen (k := 1) (n := 6) (Nat.zero_le _) (Nat.zero_le _) ?_
  exact zretL hx hb hr hlocks dL_bread_22 hP hS rfl rfl
set_option maxHeartbeats 400000 in
set_option maxRecDepth 100000 in
theorem t_L_bread_0 (l : Launch) (D : va_G) (g : Nat → ClassId) (hp : Nat) (f : Nat → Nat) (h : Nat → Nat) (u : Nat → Nat) (o : Nat → Nat) (x : Nat → Nat) (y : Nat → Nat) (T : Nat → Nat → Int32) (J : Nat → Int64) (xb : Int32) (wh : Int32) (hst : l.stackTraces = false) (he : e_X4_bread T xb wh = some "java/lang/IndexOutOfBoundsException") : Lw l D (zT g) hp yL_bread wsL_bread (rmX 8 136) [.ref (f 0), .int xb, .int wh, .ref (y 0)] (zF [zB_X4 f h u o x, zB_X3 (g 0) h T, zB_XJ (g 2) y J]) 1 (zF [zB_X4 f h u o x, zB_X3 (g 0) h T, zB_XJ (g 2) y J]) := by
  refine Lw.of (cc := cL_bread) (maxL := 5) (ret := some .int) (hh := [(0, 10, 13, 21), (0, 10, 17, 13)]) (by decide) rfl (Nat.le_of_ble_eq_true rfl) ?_
  intro p e s m below meth c ls hx hb hr hml hown hts hlocks htab hP hD hDp hS hK hE hl
  have hown : s.vm.findClass RL = some m.cls := hown
  have hl : lv_has ls 5 [(0, .ref (f 0)), (1, .int xb), (2, .int wh), (3, .ref (y 0))] := hl
  refine lv_aload_n hx hb dL_bread_0 rfl (lv_at hl 3 rfl) ?_
  refine lv_iconst (v := 0) hx hb dL_bread_1 (by decide) ?_
  refine lv_aload_n hx hb dL_bread_2 rfl (lv_at hl 0 rfl) ?_
  refine lv_iload_n hx hb dL_bread_3 rfl (lv_at hl 1 rfl) ?_
  refine lv_iload_n hx hb dL_bread_4 rfl (lv_at hl 2 rfl) ?_
  refine zcatV (tgt := 13) (ci := 4) (n := 2) (t_X4_bread l D g f h u o x T xb wh hst hp _ he) hx hb hml hown hts gL_bread_X4_bread rfl ⟨rfl, by decide, by decide, by decide⟩ ⟨Nat.le_of_ble_eq_true rfl, Nat.le_of_ble_eq_true rfl⟩ ⟨rfl, rfl⟩ hK (zsubB (cs := [zB_X4 f h u o x, zB_X3 (g 0) h T]) hP [0, 1] rfl (zF2 _ _)) (zDsubB (cs := [zB_X4 f h u o x, zB_X3 (g 0) h T]) hDp [0, 1] (by decide) rfl (zF2 _ _)) hE rfl rfl rfl hl.1 rfl rfl (Nat.le_of_ble_eq_true rfl) ⟨Nat.le_of_ble_eq_true rfl, Nat.le_of_ble_eq_true rfl⟩ dL_bread_5 [] (0, 10, 13, 21) [(0, 10, 17, 13)] htab rfl (show ∀ z ∈ ([] : List ExceptionTableEntry), _ from (fun _ h9 => nomatch h9)) (show ∀ z ∈ ([⟨0, 10, 13, 21⟩] : List ExceptionTableEntry), _ from (List.forall_mem_cons.mpr ⟨⟨by decide, by decide, (List.mem_of_getElem? (i := 1) rfl), rfl⟩, fun _ h9 => nomatch h9⟩)) (by decide +kernel) (fun q9 H1 hz hk1 => ?_)
  have hP : va_P D vwCl (zF [zB_X4 f h u o x, zB_X3 (g 0) h T, zB_XJ (g 2) y J]) H1 := fun k q h9 => (hP k q h9).kept (hk1 q.1 (hP k q h9).lt)
  have hS : va_S (zA (zF [zB_X4 f h u o x, zB_X3 (g 0) h T, zB_XJ (g 2) y J])) s.heap H1 [] := ⟨hz, fun q h1 _ => hk1 q h1, fun _ h9 => nomatch h9⟩
  refine lv_astore (lv' := [(4, .ref q9), (0, .ref (f 0)), (1, .int xb), (2, .int wh), (3, .ref (y 0))]) hx hb dL_bread_13 hl (by decide) rfl (fun ls hl => ?_)
  refine lv_iconst (v := 1) hx hb dL_bread_15 (by decide) ?_
  exact zretL hx hb hr hlocks dL_bread_16 hP hS rfl rfl
set_option maxHeartbeats 400000 in
set_option maxRecDepth 100000 in
theorem t_L_bread_1 (l : Launch) (D : va_G) (g : Nat → ClassId) (hp : Nat) (f : Nat → Nat) (h : Nat → Nat) (u : Nat → Nat) (o : Nat → Nat) (x : Nat → Nat) (y : Nat → Nat) (T : Nat → Nat → Int32) (J : Nat → Int64) (xb : Int32) (wh : Int32) (hst : l.stackTraces = false) (he : e_X4_bread T xb wh = some "java/lang/IllegalArgumentException") : Lw l D (zT g) hp yL_bread wsL_bread (rmX 8 136) [.ref (f 0), .int xb, .int wh, .ref (y 0)] (zF [zB_X4 f h u o x, zB_X3 (g 0) h T, zB_XJ (g 2) y J]) 2 (zF [zB_X4 f h u o x, zB_X3 (g 0) h T, zB_XJ (g 2) y J]) := by
  refine Lw.of (cc := cL_bread) (maxL := 5) (ret := some .int) (hh := [(0, 10, 13, 21), (0, 10, 17, 13)]) (by decide) rfl (Nat.le_of_ble_eq_true rfl) ?_
  intro p e s m below meth c ls hx hb hr hml hown hts hlocks htab hP hD hDp hS hK hE hl
  have hown : s.vm.findClass RL = some m.cls := hown
  have hl : lv_has ls 5 [(0, .ref (f 0)), (1, .int xb), (2, .int wh), (3, .ref (y 0))] := hl
  refine lv_aload_n hx hb dL_bread_0 rfl (lv_at hl 3 rfl) ?_
  refine lv_iconst (v := 0) hx hb dL_bread_1 (by decide) ?_
  refine lv_aload_n hx hb dL_bread_2 rfl (lv_at hl 0 rfl) ?_
  refine lv_iload_n hx hb dL_bread_3 rfl (lv_at hl 1 rfl) ?_
  refine lv_iload_n hx hb dL_bread_4 rfl (lv_at hl 2 rfl) ?_
  refine zcatV (tgt := 17) (ci := 4) (n := 2) (t_X4_bread l D g f h u o x T xb wh hst hp _ he) hx hb hml hown hts gL_bread_X4_bread rfl ⟨rfl, by decide, by decide, by decide⟩ ⟨Nat.le_of_ble_eq_true rfl, Nat.le_of_ble_eq_true rfl⟩ ⟨rfl, rfl⟩ hK (zsubB (cs := [zB_X4 f h u o x, zB_X3 (g 0) h T]) hP [0, 1] rfl (zF2 _ _)) (zDsubB (cs := [zB_X4 f h u o x, zB_X3 (g 0) h T]) hDp [0, 1] (by decide) rfl (zF2 _ _)) hE rfl rfl rfl hl.1 rfl rfl (Nat.le_of_ble_eq_true rfl) ⟨Nat.le_of_ble_eq_true rfl, Nat.le_of_ble_eq_true rfl⟩ dL_bread_5 [(0, 10, 13, 21)] (0, 10, 17, 13) [] htab rfl (show ∀ z ∈ ([⟨0, 10, 13, 21⟩] : List ExceptionTableEntry), _ from (List.forall_mem_cons.mpr ⟨Or.inr ⟨by decide, "java/lang/IndexOutOfBoundsException", (List.mem_of_getElem? (i := 1) rfl), by decide⟩, (fun _ h9 => nomatch h9)⟩)) (show ∀ z ∈ ([⟨0, 10, 17, 13⟩] : List ExceptionTableEntry), _ from (List.forall_mem_cons.mpr ⟨⟨by decide, by decide, (List.mem_of_getElem? (i := 2) rfl), rfl⟩, fun _ h9 => nomatch h9⟩)) (by decide +kernel) (fun q9 H1 hz hk1 => ?_)
  have hP : va_P D vwCl (zF [zB_X4 f h u o x, zB_X3 (g 0) h T, zB_XJ (g 2) y J]) H1 := fun k q h9 => (hP k q h9).kept (hk1 q.1 (hP k q h9).lt)
  have hS : va_S (zA (zF [zB_X4 f h u o x, zB_X3 (g 0) h T, zB_XJ (g 2) y J])) s.heap H1 [] := ⟨hz, fun q h1 _ => hk1 q h1, fun _ h9 => nomatch h9⟩
  refine lv_astore (lv' := [(4, .ref q9), (0, .ref (f 0)), (1, .int xb), (2, .int wh), (3, .ref (y 0))]) hx hb dL_bread_17 hl (by decide) rfl (fun ls hl => ?_)
  refine lv_iconst (v := 2) hx hb dL_bread_19 (by decide) ?_
  exact zretL hx hb hr hlocks dL_bread_20 hP hS rfl rfl
set_option maxHeartbeats 400000 in
set_option maxRecDepth 100000 in
theorem c_L_person (l : Launch) (D : va_G) (g : Nat → ClassId) (hp : Nat) (f : Nat → Nat) (h : Nat → Nat) (u : Nat → Nat) (o : Nat → Nat) (x : Nat → Nat) (y : Nat → Nat) (T : Nat → Nat → Int32) (J : Nat → Int64) (pe : Int32) (wh : Int32) (he : e_X4_person T pe wh = none) : Lw l D (zT g) hp yL_person wsL_person (rmX 8 124) [.ref (f 0), .int pe, .int wh, .ref (y 0)] (zF [zB_X4 f h u o x, zB_X3 (g 0) h T, zB_XJ (g 2) y J]) 0 (zF [zB_X4 f h u o x, zB_X3 (g 0) h T, zB_XJ (g 2) y (vp_updL J 0 (Int32.toInt64 (v_X4_person T pe wh)))]) := by
  refine Lw.of (cc := cL_person) (maxL := 5) (ret := some .int) (hh := [(0, 10, 13, 21), (0, 10, 17, 13)]) (by decide) rfl (Nat.le_of_ble_eq_true rfl) ?_
  intro p e s m below meth c ls hx hb hr hml hown hts hlocks htab hP hD hDp hS hK hE hl
  have hown : s.vm.findClass RL = some m.cls := hown
  have hl : lv_has ls 5 [(0, .ref (f 0)), (1, .int pe), (2, .int wh), (3, .ref (y 0))] := hl
  refine lv_aload_n hx hb dL_person_0 rfl (lv_at hl 3 rfl) ?_
  refine lv_iconst (v := 0) hx hb dL_person_1 (by decide) ?_
  refine lv_aload_n hx hb dL_person_2 rfl (lv_at hl 0 rfl) ?_
  refine lv_iload_n hx hb dL_person_3 rfl (lv_at hl 1 rfl) ?_
  refine lv_iload_n hx hb dL_person_4 rfl (lv_at hl 2 rfl) ?_
  refine zcV (ci := 4) (n := 2) (c_X4_person l D g f h u o x T pe wh he) hx hb hml hown hts gL_person_X4_person rfl ⟨rfl, by decide, by decide, by decide⟩ ⟨Nat.le_of_ble_eq_true rfl, Nat.le_of_ble_eq_true rfl⟩ ⟨rfl, rfl⟩ hK (zsubB (cs := [zB_X4 f h u o x, zB_X3 (g 0) h T]) hP [0, 1] rfl (zF2 _ _)) rfl rfl rfl hl.1 rfl rfl (Nat.le_of_ble_eq_true rfl) ⟨Nat.zero_le _, Nat.zero_le _⟩ dL_person_5 ?_
  refine lv_i2l hx hb dL_person_8 rfl ?_
  refine va_last (i := 0) (x := Int32.toInt64 (v_X4_person T pe wh)) hx hb hK.1 hP hD hS 12 2 rfl rfl (vp_in_nI (n := 0) (N := 1) (by decide) (by decide)) dL_person_9 (fun H locs hP hD hS => ?_)
  have hP : va_P D vwCl (zF [zB_X4 f h u o x, zB_X3 (g 0) h T, zB_XJ (g 2) y (vp_updL J 0 (Int32.toInt64 (v_X4_person T pe wh)))]) H := hP
  have hD : va_D (zA (zF [zB_X4 f h u o x, zB_X3 (g 0) h T, zB_XJ (g 2) y J])) (zF [zB_X4 f h u o x, zB_X3 (g 0) h T, zB_XJ (g 2) y (vp_updL J 0 (Int32.toInt64 (v_X4_person T pe wh)))]) := hD
  refine lv_goto (tgt := 21) hx hb dL_person_10 (by decide) ?_
  refine lv_iconst (v := 0) hx hb dL_person_21 (by decide) ?_
  refine W.widen (k := 1) (n := 6) (Nat.zero_le _) (Nat.zero_le _) ?_
  exact zretL hx hb hr hlocks dL_person_22 hP hS rfl rfl
set_option maxHeartbeats 400000 in
set_option maxRecDepth 100000 in
theorem t_L_person_0 (l : Launch) (D : va_G) (g : Nat → ClassId) (hp : Nat) (f : Nat → Nat) (h : Nat → Nat) (u : Nat → Nat) (o : Nat → Nat) (x : Nat → Nat) (y : Nat → Nat) (T : Nat → Nat → Int32) (J : Nat → Int64) (pe : Int32) (wh : Int32) (hst : l.stackTraces = false) (he : e_X4_person T pe wh = some "java/lang/IndexOutOfBoundsException") : Lw l D (zT g) hp yL_person wsL_person (rmX 8 124) [.ref (f 0), .int pe, .int wh, .ref (y 0)] (zF [zB_X4 f h u o x, zB_X3 (g 0) h T, zB_XJ (g 2) y J]) 1 (zF [zB_X4 f h u o x, zB_X3 (g 0) h T, zB_XJ (g 2) y J]) := by
  refine Lw.of (cc := cL_person) (maxL := 5) (ret := some .int) (hh := [(0, 10, 13, 21), (0, 10, 17, 13)]) (by decide) rfl (Nat.le_of_ble_eq_true rfl) ?_
  intro p e s m below meth c ls hx hb hr hml hown hts hlocks htab hP hD hDp hS hK hE hl
  have hown : s.vm.findClass RL = some m.cls := hown
  have hl : lv_has ls 5 [(0, .ref (f 0)), (1, .int pe), (2, .int wh), (3, .ref (y 0))] := hl
  refine lv_aload_n hx hb dL_person_0 rfl (lv_at hl 3 rfl) ?_
  refine lv_iconst (v := 0) hx hb dL_person_1 (by decide) ?_
  refine lv_aload_n hx hb dL_person_2 rfl (lv_at hl 0 rfl) ?_
  refine lv_iload_n hx hb dL_person_3 rfl (lv_at hl 1 rfl) ?_
  refine lv_iload_n hx hb dL_person_4 rfl (lv_at hl 2 rfl) ?_
  refine zcatV (tgt := 13) (ci := 4) (n := 2) (t_X4_person l D g f h u o x T pe wh hst hp _ he) hx hb hml hown hts gL_person_X4_person rfl ⟨rfl, by decide, by decide, by decide⟩ ⟨Nat.le_of_ble_eq_true rfl, Nat.le_of_ble_eq_true rfl⟩ ⟨rfl, rfl⟩ hK (zsubB (cs := [zB_X4 f h u o x, zB_X3 (g 0) h T]) hP [0, 1] rfl (zF2 _ _)) (zDsubB (cs := [zB_X4 f h u o x, zB_X3 (g 0) h T]) hDp [0, 1] (by decide) rfl (zF2 _ _)) hE rfl rfl rfl hl.1 rfl rfl (Nat.le_of_ble_eq_true rfl) ⟨Nat.le_of_ble_eq_true rfl, Nat.le_of_ble_eq_true rfl⟩ dL_person_5 [] (0, 10, 13, 21) [(0, 10, 17, 13)] htab rfl (show ∀ z ∈ ([] : List ExceptionTableEntry), _ from (fun _ h9 => nomatch h9)) (show ∀ z ∈ ([⟨0, 10, 13, 21⟩] : List ExceptionTableEntry), _ from (List.forall_mem_cons.mpr ⟨⟨by decide, by decide, (List.mem_of_getElem? (i := 1) rfl), rfl⟩, fun _ h9 => nomatch h9⟩)) (by decide +kernel) (fun q9 H1 hz hk1 => ?_)
  have hP : va_P D vwCl (zF [zB_X4 f h u o x, zB_X3 (g 0) h T, zB_XJ (g 2) y J]) H1 := fun k q h9 => (hP k q h9).kept (hk1 q.1 (hP k q h9).lt)
  have hS : va_S (zA (zF [zB_X4 f h u o x, zB_X3 (g 0) h T, zB_XJ (g 2) y J])) s.heap H1 [] := ⟨hz, fun q h1 _ => hk1 q h1, fun _ h9 => nomatch h9⟩
  refine lv_astore (lv' := [(4, .ref q9), (0, .ref (f 0)), (1, .int pe), (2, .int wh), (3, .ref (y 0))]) hx hb dL_person_13 hl (by decide) rfl (fun ls hl => ?_)
  refine lv_iconst (v := 1) hx hb dL_person_15 (by decide) ?_
  exact zretL hx hb hr hlocks dL_person_16 hP hS rfl rfl
set_option maxHeartbeats 400000 in
set_option maxRecDepth 100000 in
theorem t_L_person_1 (l : Launch) (D : va_G) (g : Nat → ClassId) (hp : Nat) (f : Nat → Nat) (h : Nat → Nat) (u : Nat → Nat) (o : Nat → Nat) (x : Nat → Nat) (y : Nat → Nat) (T : Nat → Nat → Int32) (J : Nat → Int64) (pe : Int32) (wh : Int32) (hst : l.stackTraces = false) (he : e_X4_person T pe wh = some "java/lang/IllegalArgumentException") : Lw l D (zT g) hp yL_person wsL_person (rmX 8 124) [.ref (f 0), .int pe, .int wh, .ref (y 0)] (zF [zB_X4 f h u o x, zB_X3 (g 0) h T, zB_XJ (g 2) y J]) 2 (zF [zB_X4 f h u o x, zB_X3 (g 0) h T, zB_XJ (g 2) y J]) := by
  refine Lw.of (cc := cL_person) (maxL := 5) (ret := some .int) (hh := [(0, 10, 13, 21), (0, 10, 17, 13)]) (by decide) rfl (Nat.le_of_ble_eq_true rfl) ?_
  intro p e s m below meth c ls hx hb hr hml hown hts hlocks htab hP hD hDp hS hK hE hl
  have hown : s.vm.findClass RL = some m.cls := hown
  have hl : lv_has ls 5 [(0, .ref (f 0)), (1, .int pe), (2, .int wh), (3, .ref (y 0))] := hl
  refine lv_aload_n hx hb dL_person_0 rfl (lv_at hl 3 rfl) ?_
  refine lv_iconst (v := 0) hx hb dL_person_1 (by decide) ?_
  refine lv_aload_n hx hb dL_person_2 rfl (lv_at hl 0 rfl) ?_
  refine lv_iload_n hx hb dL_person_3 rfl (lv_at hl 1 rfl) ?_
  refine lv_iload_n hx hb dL_person_4 rfl (lv_at hl 2 rfl) ?_
  refine zcatV (tgt := 17) (ci := 4) (n := 2) (t_X4_person l D g f h u o x T pe wh hst hp _ he) hx hb hml hown hts gL_person_X4_person rfl ⟨rfl, by decide, by decide, by decide⟩ ⟨Nat.le_of_ble_eq_true rfl, Nat.le_of_ble_eq_true rfl⟩ ⟨rfl, rfl⟩ hK (zsubB (cs := [zB_X4 f h u o x, zB_X3 (g 0) h T]) hP [0, 1] rfl (zF2 _ _)) (zDsubB (cs := [zB_X4 f h u o x, zB_X3 (g 0) h T]) hDp [0, 1] (by decide) rfl (zF2 _ _)) hE rfl rfl rfl hl.1 rfl rfl (Nat.le_of_ble_eq_true rfl) ⟨Nat.le_of_ble_eq_true rfl, Nat.le_of_ble_eq_true rfl⟩ dL_person_5 [(0, 10, 13, 21)] (0, 10, 17, 13) [] htab rfl (show ∀ z ∈ ([⟨0, 10, 13, 21⟩] : List ExceptionTableEntry), _ from (List.forall_mem_cons.mpr ⟨Or.inr ⟨by decide, "java/lang/IndexOutOfBoundsException", (List.mem_of_getElem? (i := 1) rfl), by decide⟩, (fun _ h9 => nomatch h9)⟩)) (show ∀ z ∈ ([⟨0, 10, 17, 13⟩] : List ExceptionTableEntry), _ from (List.forall_mem_cons.mpr ⟨⟨by decide, by decide, (List.mem_of_getElem? (i := 2) rfl), rfl⟩, fun _ h9 => nomatch h9⟩)) (by decide +kernel) (fun q9 H1 hz hk1 => ?_)
  have hP : va_P D vwCl (zF [zB_X4 f h u o x, zB_X3 (g 0) h T, zB_XJ (g 2) y J]) H1 := fun k q h9 => (hP k q h9).kept (hk1 q.1 (hP k q h9).lt)
  have hS : va_S (zA (zF [zB_X4 f h u o x, zB_X3 (g 0) h T, zB_XJ (g 2) y J])) s.heap H1 [] := ⟨hz, fun q h1 _ => hk1 q h1, fun _ h9 => nomatch h9⟩
  refine lv_astore (lv' := [(4, .ref q9), (0, .ref (f 0)), (1, .int pe), (2, .int wh), (3, .ref (y 0))]) hx hb dL_person_17 hl (by decide) rfl (fun ls hl => ?_)
  refine lv_iconst (v := 2) hx hb dL_person_19 (by decide) ?_
  exact zretL hx hb hr hlocks dL_person_20 hP hS rfl rfl
set_option maxHeartbeats 400000 in
set_option maxRecDepth 100000 in
theorem c_L_owner (l : Launch) (D : va_G) (g : Nat → ClassId) (hp : Nat) (f : Nat → Nat) (h : Nat → Nat) (u : Nat → Nat) (o : Nat → Nat) (x : Nat → Nat) (y : Nat → Nat) (T : Nat → Nat → Int32) (J : Nat → Int64) (gr : Int32) (bu : Int32) (he : e_X4_owner T gr bu = none) : Lw l D (zT g) hp yL_owner wsL_owner (rmX 8 124) [.ref (f 0), .int gr, .int bu, .ref (y 0)] (zF [zB_X4 f h u o x, zB_X3 (g 0) h T, zB_XJ (g 2) y J]) 0 (zF [zB_X4 f h u o x, zB_X3 (g 0) h T, zB_XJ (g 2) y (vp_updL J 0 (Int32.toInt64 (v_X4_owner T gr bu)))]) := by
  refine Lw.of (cc := cL_owner) (maxL := 5) (ret := some .int) (hh := [(0, 10, 13, 21)]) (by decide) rfl (Nat.le_of_ble_eq_true rfl) ?_
  intro p e s m below meth c ls hx hb hr hml hown hts hlocks htab hP hD hDp hS hK hE hl
  have hown : s.vm.findClass RL = some m.cls := hown
  have hl : lv_has ls 5 [(0, .ref (f 0)), (1, .int gr), (2, .int bu), (3, .ref (y 0))] := hl
  refine lv_aload_n hx hb dL_owner_0 rfl (lv_at hl 3 rfl) ?_
  refine lv_iconst (v := 0) hx hb dL_owner_1 (by decide) ?_
  refine lv_aload_n hx hb dL_owner_2 rfl (lv_at hl 0 rfl) ?_
  refine lv_iload_n hx hb dL_owner_3 rfl (lv_at hl 1 rfl) ?_
  refine lv_iload_n hx hb dL_owner_4 rfl (lv_at hl 2 rfl) ?_
  refine zcV (ci := 4) (n := 2) (c_X4_owner l D g f h u o x T gr bu he) hx hb hml hown hts gL_owner_X4_owner rfl ⟨rfl, by decide, by decide, by decide⟩ ⟨Nat.le_of_ble_eq_true rfl, Nat.le_of_ble_eq_true rfl⟩ ⟨rfl, rfl⟩ hK (zsubB (cs := [zB_X4 f h u o x, zB_X3 (g 0) h T]) hP [0, 1] rfl (zF2 _ _)) rfl rfl rfl hl.1 rfl rfl (Nat.le_of_ble_eq_true rfl) ⟨Nat.zero_le _, Nat.zero_le _⟩ dL_owner_5 ?_
  refine lv_i2l hx hb dL_owner_8 rfl ?_
  refine va_last (i := 0) (x := Int32.toInt64 (v_X4_owner T gr bu)) hx hb hK.1 hP hD hS 12 2 rfl rfl (vp_in_nI (n := 0) (N := 1) (by decide) (by decide)) dL_owner_9 (fun H locs hP hD hS => ?_)
  have hP : va_P D vwCl (zF [zB_X4 f h u o x, zB_X3 (g 0) h T, zB_XJ (g 2) y (vp_updL J 0 (Int32.toInt64 (v_X4_owner T gr bu)))]) H := hP
  have hD : va_D (zA (zF [zB_X4 f h u o x, zB_X3 (g 0) h T, zB_XJ (g 2) y J])) (zF [zB_X4 f h u o x, zB_X3 (g 0) h T, zB_XJ (g 2) y (vp_updL J 0 (Int32.toInt64 (v_X4_owner T gr bu)))]) := hD
  refine lv_goto (tgt := 17) hx hb dL_owner_10 (by decide) ?_
  refine lv_iconst (v := 0) hx hb dL_owner_17 (by decide) ?_
  refine W.widen (k := 1) (n := 6) (Nat.zero_le _) (Nat.zero_le _) ?_
  exact zretL hx hb hr hlocks dL_owner_18 hP hS rfl rfl
set_option maxHeartbeats 400000 in
set_option maxRecDepth 100000 in
theorem t_L_owner_0 (l : Launch) (D : va_G) (g : Nat → ClassId) (hp : Nat) (f : Nat → Nat) (h : Nat → Nat) (u : Nat → Nat) (o : Nat → Nat) (x : Nat → Nat) (y : Nat → Nat) (T : Nat → Nat → Int32) (J : Nat → Int64) (gr : Int32) (bu : Int32) (hst : l.stackTraces = false) (he : e_X4_owner T gr bu = some "java/lang/IndexOutOfBoundsException") : Lw l D (zT g) hp yL_owner wsL_owner (rmX 8 124) [.ref (f 0), .int gr, .int bu, .ref (y 0)] (zF [zB_X4 f h u o x, zB_X3 (g 0) h T, zB_XJ (g 2) y J]) 1 (zF [zB_X4 f h u o x, zB_X3 (g 0) h T, zB_XJ (g 2) y J]) := by
  refine Lw.of (cc := cL_owner) (maxL := 5) (ret := some .int) (hh := [(0, 10, 13, 21)]) (by decide) rfl (Nat.le_of_ble_eq_true rfl) ?_
  intro p e s m below meth c ls hx hb hr hml hown hts hlocks htab hP hD hDp hS hK hE hl
  have hown : s.vm.findClass RL = some m.cls := hown
  have hl : lv_has ls 5 [(0, .ref (f 0)), (1, .int gr), (2, .int bu), (3, .ref (y 0))] := hl
  refine lv_aload_n hx hb dL_owner_0 rfl (lv_at hl 3 rfl) ?_
  refine lv_iconst (v := 0) hx hb dL_owner_1 (by decide) ?_
  refine lv_aload_n hx hb dL_owner_2 rfl (lv_at hl 0 rfl) ?_
  refine lv_iload_n hx hb dL_owner_3 rfl (lv_at hl 1 rfl) ?_
  refine lv_iload_n hx hb dL_owner_4 rfl (lv_at hl 2 rfl) ?_
  refine zcatV (tgt := 13) (ci := 4) (n := 2) (t_X4_owner l D g f h u o x T gr bu hst hp _ he) hx hb hml hown hts gL_owner_X4_owner rfl ⟨rfl, by decide, by decide, by decide⟩ ⟨Nat.le_of_ble_eq_true rfl, Nat.le_of_ble_eq_true rfl⟩ ⟨rfl, rfl⟩ hK (zsubB (cs := [zB_X4 f h u o x, zB_X3 (g 0) h T]) hP [0, 1] rfl (zF2 _ _)) (zDsubB (cs := [zB_X4 f h u o x, zB_X3 (g 0) h T]) hDp [0, 1] (by decide) rfl (zF2 _ _)) hE rfl rfl rfl hl.1 rfl rfl (Nat.le_of_ble_eq_true rfl) ⟨Nat.le_of_ble_eq_true rfl, Nat.le_of_ble_eq_true rfl⟩ dL_owner_5 [] (0, 10, 13, 21) [] htab rfl (show ∀ z ∈ ([] : List ExceptionTableEntry), _ from (fun _ h9 => nomatch h9)) (show ∀ z ∈ ([⟨0, 10, 13, 21⟩] : List ExceptionTableEntry), _ from (List.forall_mem_cons.mpr ⟨⟨by decide, by decide, (List.mem_of_getElem? (i := 1) rfl), rfl⟩, fun _ h9 => nomatch h9⟩)) (by decide +kernel) (fun q9 H1 hz hk1 => ?_)
  have hP : va_P D vwCl (zF [zB_X4 f h u o x, zB_X3 (g 0) h T, zB_XJ (g 2) y J]) H1 := fun k q h9 => (hP k q h9).kept (hk1 q.1 (hP k q h9).lt)
  have hS : va_S (zA (zF [zB_X4 f h u o x, zB_X3 (g 0) h T, zB_XJ (g 2) y J])) s.heap H1 [] := ⟨hz, fun q h1 _ => hk1 q h1, fun _ h9 => nomatch h9⟩
  refine lv_astore (lv' := [(4, .ref q9), (0, .ref (f 0)), (1, .int gr), (2, .int bu), (3, .ref (y 0))]) hx hb dL_owner_13 hl (by decide) rfl (fun ls hl => ?_)
  refine lv_iconst (v := 1) hx hb dL_owner_15 (by decide) ?_
  exact zretL hx hb hr hlocks dL_owner_16 hP hS rfl rfl
set_option maxHeartbeats 400000 in
set_option maxRecDepth 100000 in
theorem c_L_count (l : Launch) (D : va_G) (g : Nat → ClassId) (hp : Nat) (f : Nat → Nat) (h : Nat → Nat) (u : Nat → Nat) (o : Nat → Nat) (x : Nat → Nat) (t0 : Nat → Nat) (t1 : Nat → Nat) (t2 : Nat → Nat) (t3 : Nat → Nat) (t4 : Nat → Nat) (t5 : Nat → Nat) (y : Nat → Nat) (Z : Nat → Nat → Int32) (T : Nat → Nat → Int32) (J : Nat → Int64) (wh : Int32) (he : e_X4_count Z T wh = none) : Lw l D (zT g) hp yL_count wsL_count (rmX 7 155) [.ref (f 0), .int wh, .ref (y 0)] (zF [zB_X4 f h u o x, zB_X1 (g 1) u t0 t1 t2 t3 t4 t5 Z, zB_X3 (g 0) h T, zB_XJ (g 2) y J]) 0 (zF [zB_X4 f h u o x, zB_X1 (g 1) u t0 t1 t2 t3 t4 t5 Z, zB_X3 (g 0) h T, zB_XJ (g 2) y (vp_updL J 0 (Int32.toInt64 (v_X4_count Z T wh)))]) := by
  refine Lw.of (cc := cL_count) (maxL := 4) (ret := some .int) (hh := [(0, 9, 12, 13)]) (by decide) rfl (Nat.le_of_ble_eq_true rfl) ?_
  intro p e s m below meth c ls hx hb hr hml hown hts hlocks htab hP hD hDp hS hK hE hl
  have hown : s.vm.findClass RL = some m.cls := hown
  have hl : lv_has ls 4 [(0, .ref (f 0)), (1, .int wh), (2, .ref (y 0))] := hl
  refine lv_aload_n hx hb dL_count_0 rfl (lv_at hl 2 rfl) ?_
  refine lv_iconst (v := 0) hx hb dL_count_1 (by decide) ?_
  refine lv_aload_n hx hb dL_count_2 rfl (lv_at hl 0 rfl) ?_
  refine lv_iload_n hx hb dL_count_3 rfl (lv_at hl 1 rfl) ?_
  refine zcV (ci := 4) (n := 1) (c_X4_count l D g f h u o x t0 t1 t2 t3 t4 t5 Z T wh he) hx hb hml hown hts gL_count_X4_count rfl ⟨rfl, by decide, by decide, by decide⟩ ⟨Nat.le_of_ble_eq_true rfl, Nat.le_of_ble_eq_true rfl⟩ ⟨rfl, rfl⟩ hK (zsubB (cs := [zB_X4 f h u o x, zB_X1 (g 1) u t0 t1 t2 t3 t4 t5 Z, zB_X3 (g 0) h T]) hP [0, 1, 2] rfl rfl) rfl rfl rfl hl.1 rfl rfl (Nat.le_of_ble_eq_true rfl) ⟨Nat.zero_le _, Nat.zero_le _⟩ dL_count_4 ?_
  refine lv_i2l hx hb dL_count_7 rfl ?_
  refine va_last (i := 0) (x := Int32.toInt64 (v_X4_count Z T wh)) hx hb hK.1 hP hD hS 14 2 rfl rfl (vp_in_nI (n := 0) (N := 1) (by decide) (by decide)) dL_count_8 (fun H locs hP hD hS => ?_)
  have hP : va_P D vwCl (zF [zB_X4 f h u o x, zB_X1 (g 1) u t0 t1 t2 t3 t4 t5 Z, zB_X3 (g 0) h T, zB_XJ (g 2) y (vp_updL J 0 (Int32.toInt64 (v_X4_count Z T wh)))]) H := hP
  have hD : va_D (zA (zF [zB_X4 f h u o x, zB_X1 (g 1) u t0 t1 t2 t3 t4 t5 Z, zB_X3 (g 0) h T, zB_XJ (g 2) y J])) (zF [zB_X4 f h u o x, zB_X1 (g 1) u t0 t1 t2 t3 t4 t5 Z, zB_X3 (g 0) h T, zB_XJ (g 2) y (vp_updL J 0 (Int32.toInt64 (v_X4_count Z T wh)))]) := hD
  refine lv_goto (tgt := 15) hx hb dL_count_9 (by decide) ?_
  refine lv_iconst (v := 0) hx hb dL_count_15 (by decide) ?_
  refine W.widen (k := 1) (n := 6) (Nat.zero_le _) (Nat.zero_le _) ?_
  exact zretL hx hb hr hlocks dL_count_16 hP hS rfl rfl
set_option maxHeartbeats 400000 in
set_option maxRecDepth 100000 in
theorem t_L_count_0 (l : Launch) (D : va_G) (g : Nat → ClassId) (hp : Nat) (f : Nat → Nat) (h : Nat → Nat) (u : Nat → Nat) (o : Nat → Nat) (x : Nat → Nat) (t0 : Nat → Nat) (t1 : Nat → Nat) (t2 : Nat → Nat) (t3 : Nat → Nat) (t4 : Nat → Nat) (t5 : Nat → Nat) (y : Nat → Nat) (Z : Nat → Nat → Int32) (T : Nat → Nat → Int32) (J : Nat → Int64) (wh : Int32) (hst : l.stackTraces = false) (he : e_X4_count Z T wh = some "java/lang/IllegalArgumentException") : Lw l D (zT g) hp yL_count wsL_count (rmX 7 155) [.ref (f 0), .int wh, .ref (y 0)] (zF [zB_X4 f h u o x, zB_X1 (g 1) u t0 t1 t2 t3 t4 t5 Z, zB_X3 (g 0) h T, zB_XJ (g 2) y J]) 1 (zF [zB_X4 f h u o x, zB_X1 (g 1) u t0 t1 t2 t3 t4 t5 Z, zB_X3 (g 0) h T, zB_XJ (g 2) y J]) := by
  refine Lw.of (cc := cL_count) (maxL := 4) (ret := some .int) (hh := [(0, 9, 12, 13)]) (by decide) rfl (Nat.le_of_ble_eq_true rfl) ?_
  intro p e s m below meth c ls hx hb hr hml hown hts hlocks htab hP hD hDp hS hK hE hl
  have hown : s.vm.findClass RL = some m.cls := hown
  have hl : lv_has ls 4 [(0, .ref (f 0)), (1, .int wh), (2, .ref (y 0))] := hl
  refine lv_aload_n hx hb dL_count_0 rfl (lv_at hl 2 rfl) ?_
  refine lv_iconst (v := 0) hx hb dL_count_1 (by decide) ?_
  refine lv_aload_n hx hb dL_count_2 rfl (lv_at hl 0 rfl) ?_
  refine lv_iload_n hx hb dL_count_3 rfl (lv_at hl 1 rfl) ?_
  refine zcatV (tgt := 12) (ci := 4) (n := 1) (t_X4_count l D g f h u o x t0 t1 t2 t3 t4 t5 Z T wh hst hp _ he) hx hb hml hown hts gL_count_X4_count rfl ⟨rfl, by decide, by decide, by decide⟩ ⟨Nat.le_of_ble_eq_true rfl, Nat.le_of_ble_eq_true rfl⟩ ⟨rfl, rfl⟩ hK (zsubB (cs := [zB_X4 f h u o x, zB_X1 (g 1) u t0 t1 t2 t3 t4 t5 Z, zB_X3 (g 0) h T]) hP [0, 1, 2] rfl rfl) (zDsubB (cs := [zB_X4 f h u o x, zB_X1 (g 1) u t0 t1 t2 t3 t4 t5 Z, zB_X3 (g 0) h T]) hDp [0, 1, 2] (by decide) rfl rfl) hE rfl rfl rfl hl.1 rfl rfl (Nat.le_of_ble_eq_true rfl) ⟨Nat.le_of_ble_eq_true rfl, Nat.le_of_ble_eq_true rfl⟩ dL_count_4 [] (0, 9, 12, 13) [] htab rfl (show ∀ z ∈ ([] : List ExceptionTableEntry), _ from (fun _ h9 => nomatch h9)) (show ∀ z ∈ ([⟨0, 9, 12, 13⟩] : List ExceptionTableEntry), _ from (List.forall_mem_cons.mpr ⟨⟨by decide, by decide, (List.mem_of_getElem? (i := 1) rfl), rfl⟩, fun _ h9 => nomatch h9⟩)) (by decide +kernel) (fun q9 H1 hz hk1 => ?_)
  have hP : va_P D vwCl (zF [zB_X4 f h u o x, zB_X1 (g 1) u t0 t1 t2 t3 t4 t5 Z, zB_X3 (g 0) h T, zB_XJ (g 2) y J]) H1 := fun k q h9 => (hP k q h9).kept (hk1 q.1 (hP k q h9).lt)
  have hS : va_S (zA (zF [zB_X4 f h u o x, zB_X1 (g 1) u t0 t1 t2 t3 t4 t5 Z, zB_X3 (g 0) h T, zB_XJ (g 2) y J])) s.heap H1 [] := ⟨hz, fun q h1 _ => hk1 q h1, fun _ h9 => nomatch h9⟩
  refine lv_astore_n (lv' := [(3, .ref q9), (0, .ref (f 0)), (1, .int wh), (2, .ref (y 0))]) hx hb dL_count_12 rfl hl (by decide) rfl (fun ls hl => ?_)
  refine lv_iconst (v := 1) hx hb dL_count_13 (by decide) ?_
  exact zretL hx hb hr hlocks dL_count_14 hP hS rfl rfl
set_option maxHeartbeats 400000 in
set_option maxRecDepth 100000 in
theorem c_L_overlap (l : Launch) (D : va_G) (g : Nat → ClassId) (hp : Nat) (f : Nat → Nat) (h : Nat → Nat) (u : Nat → Nat) (o : Nat → Nat) (x : Nat → Nat) (y : Nat → Nat) (T : Nat → Nat → Int32) (J : Nat → Int64) (xa : Int32) (xb : Int32) (he : e_X4_overlap T xa xb = none) : Lw l D (zT g) hp yL_overlap wsL_overlap (rmX 8 125) [.ref (f 0), .int xa, .int xb, .ref (y 0)] (zF [zB_X4 f h u o x, zB_X3 (g 0) h T, zB_XJ (g 2) y J]) 0 (zF [zB_X4 f h u o x, zB_X3 (g 0) h T, zB_XJ (g 2) y (vp_updL J 0 (Int32.toInt64 (nI (v_X4_overlap T xa xb))))]) := by
  refine Lw.of (cc := cL_overlap) (maxL := 5) (ret := some .int) (hh := [(0, 10, 13, 21)]) (by decide) rfl (Nat.le_of_ble_eq_true rfl) ?_
  intro p e s m below meth c ls hx hb hr hml hown hts hlocks htab hP hD hDp hS hK hE hl
  have hown : s.vm.findClass RL = some m.cls := hown
  have hl : lv_has ls 5 [(0, .ref (f 0)), (1, .int xa), (2, .int xb), (3, .ref (y 0))] := hl
  refine lv_aload_n hx hb dL_overlap_0 rfl (lv_at hl 3 rfl) ?_
  refine lv_iconst (v := 0) hx hb dL_overlap_1 (by decide) ?_
  refine lv_aload_n hx hb dL_overlap_2 rfl (lv_at hl 0 rfl) ?_
  refine lv_iload_n hx hb dL_overlap_3 rfl (lv_at hl 1 rfl) ?_
  refine lv_iload_n hx hb dL_overlap_4 rfl (lv_at hl 2 rfl) ?_
  refine zcV (ci := 4) (n := 2) (c_X4_overlap l D g f h u o x T xa xb he) hx hb hml hown hts gL_overlap_X4_overlap rfl ⟨rfl, by decide, by decide, by decide⟩ ⟨Nat.le_of_ble_eq_true rfl, Nat.le_of_ble_eq_true rfl⟩ ⟨rfl, rfl⟩ hK (zsubB (cs := [zB_X4 f h u o x, zB_X3 (g 0) h T]) hP [0, 1] rfl (zF2 _ _)) rfl rfl rfl hl.1 rfl rfl (Nat.le_of_ble_eq_true rfl) ⟨Nat.zero_le _, Nat.zero_le _⟩ dL_overlap_5 ?_
  refine lv_i2l hx hb dL_overlap_8 rfl ?_
  refine va_last (i := 0) (x := Int32.toInt64 (nI (v_X4_overlap T xa xb))) hx hb hK.1 hP hD hS 12 2 rfl rfl (vp_in_nI (n := 0) (N := 1) (by decide) (by decide)) dL_overlap_9 (fun H locs hP hD hS => ?_)
  have hP : va_P D vwCl (zF [zB_X4 f h u o x, zB_X3 (g 0) h T, zB_XJ (g 2) y (vp_updL J 0 (Int32.toInt64 (nI (v_X4_overlap T xa xb))))]) H := hP
  have hD : va_D (zA (zF [zB_X4 f h u o x, zB_X3 (g 0) h T, zB_XJ (g 2) y J])) (zF [zB_X4 f h u o x, zB_X3 (g 0) h T, zB_XJ (g 2) y (vp_updL J 0 (Int32.toInt64 (nI (v_X4_overlap T xa xb))))]) := hD
  refine lv_goto (tgt := 17) hx hb dL_overlap_10 (by decide) ?_
  refine lv_iconst (v := 0) hx hb dL_overlap_17 (by decide) ?_
  refine W.widen (k := 1) (n := 6) (Nat.zero_le _) (Nat.zero_le _) ?_
  exact zretL hx hb hr hlocks dL_overlap_18 hP hS rfl rfl
set_option maxHeartbeats 400000 in
set_option maxRecDepth 100000 in
theorem t_L_overlap_0 (l : Launch) (D : va_G) (g : Nat → ClassId) (hp : Nat) (f : Nat → Nat) (h : Nat → Nat) (u : Nat → Nat) (o : Nat → Nat) (x : Nat → Nat) (y : Nat → Nat) (T : Nat → Nat → Int32) (J : Nat → Int64) (xa : Int32) (xb : Int32) (hst : l.stackTraces = false) (he : e_X4_overlap T xa xb = some "java/lang/IndexOutOfBoundsException") : Lw l D (zT g) hp yL_overlap wsL_overlap (rmX 8 125) [.ref (f 0), .int xa, .int xb, .ref (y 0)] (zF [zB_X4 f h u o x, zB_X3 (g 0) h T, zB_XJ (g 2) y J]) 1 (zF [zB_X4 f h u o x, zB_X3 (g 0) h T, zB_XJ (g 2) y J]) := by
  refine Lw.of (cc := cL_overlap) (maxL := 5) (ret := some .int) (hh := [(0, 10, 13, 21)]) (by decide) rfl (Nat.le_of_ble_eq_true rfl) ?_
  intro p e s m below meth c ls hx hb hr hml hown hts hlocks htab hP hD hDp hS hK hE hl
  have hown : s.vm.findClass RL = some m.cls := hown
  have hl : lv_has ls 5 [(0, .ref (f 0)), (1, .int xa), (2, .int xb), (3, .ref (y 0))] := hl
  refine lv_aload_n hx hb dL_overlap_0 rfl (lv_at hl 3 rfl) ?_
  refine lv_iconst (v := 0) hx hb dL_overlap_1 (by decide) ?_
  refine lv_aload_n hx hb dL_overlap_2 rfl (lv_at hl 0 rfl) ?_
  refine lv_iload_n hx hb dL_overlap_3 rfl (lv_at hl 1 rfl) ?_
  refine lv_iload_n hx hb dL_overlap_4 rfl (lv_at hl 2 rfl) ?_
  refine zcatV (tgt := 13) (ci := 4) (n := 2) (t_X4_overlap l D g f h u o x T xa xb hst hp _ he) hx hb hml hown hts gL_overlap_X4_overlap rfl ⟨rfl, by decide, by decide, by decide⟩ ⟨Nat.le_of_ble_eq_true rfl, Nat.le_of_ble_eq_true rfl⟩ ⟨rfl, rfl⟩ hK (zsubB (cs := [zB_X4 f h u o x, zB_X3 (g 0) h T]) hP [0, 1] rfl (zF2 _ _)) (zDsubB (cs := [zB_X4 f h u o x, zB_X3 (g 0) h T]) hDp [0, 1] (by decide) rfl (zF2 _ _)) hE rfl rfl rfl hl.1 rfl rfl (Nat.le_of_ble_eq_true rfl) ⟨Nat.le_of_ble_eq_true rfl, Nat.le_of_ble_eq_true rfl⟩ dL_overlap_5 [] (0, 10, 13, 21) [] htab rfl (show ∀ z ∈ ([] : List ExceptionTableEntry), _ from (fun _ h9 => nomatch h9)) (show ∀ z ∈ ([⟨0, 10, 13, 21⟩] : List ExceptionTableEntry), _ from (List.forall_mem_cons.mpr ⟨⟨by decide, by decide, (List.mem_of_getElem? (i := 1) rfl), rfl⟩, fun _ h9 => nomatch h9⟩)) (by decide +kernel) (fun q9 H1 hz hk1 => ?_)
  have hP : va_P D vwCl (zF [zB_X4 f h u o x, zB_X3 (g 0) h T, zB_XJ (g 2) y J]) H1 := fun k q h9 => (hP k q h9).kept (hk1 q.1 (hP k q h9).lt)
  have hS : va_S (zA (zF [zB_X4 f h u o x, zB_X3 (g 0) h T, zB_XJ (g 2) y J])) s.heap H1 [] := ⟨hz, fun q h1 _ => hk1 q h1, fun _ h9 => nomatch h9⟩
  refine lv_astore (lv' := [(4, .ref q9), (0, .ref (f 0)), (1, .int xa), (2, .int xb), (3, .ref (y 0))]) hx hb dL_overlap_13 hl (by decide) rfl (fun ls hl => ?_)
  refine lv_iconst (v := 1) hx hb dL_overlap_15 (by decide) ?_
  exact zretL hx hb hr hlocks dL_overlap_16 hP hS rfl rfl
set_option maxHeartbeats 400000 in
set_option maxRecDepth 100000 in
theorem c_L_ifShare (l : Launch) (D : va_G) (g : Nat → ClassId) (hp : Nat) (f : Nat → Nat) (h : Nat → Nat) (u : Nat → Nat) (o : Nat → Nat) (x : Nat → Nat) (y : Nat → Nat) (O : Nat → Nat → Int32) (T : Nat → Nat → Int32) (J : Nat → Int64) (xb : Int32) (sh : Int32) (he : e_X4_ifShare O T xb sh = none) : Lw l D (zT g) hp yL_ifShare wsL_ifShare (rmX 8 136) [.ref (f 0), .int xb, .int sh, .ref (y 0)] (zF [zB_X4 f h u o x, zB_X2 (g 0) o O, zB_X3 (g 0) h T, zB_XJ (g 2) y J]) 0 (zF [zB_X4 f h u o x, zB_X2 (g 0) o ((v_X4_ifShare O T xb sh).2), zB_X3 (g 0) h T, zB_XJ (g 2) y (vp_updL J 0 (Int32.toInt64 ((v_X4_ifShare O T xb sh).1)))]) := by
  refine Lw.of (cc := cL_ifShare) (maxL := 5) (ret := some .int) (hh := [(0, 10, 13, 21), (0, 10, 17, 13)]) (by decide) rfl (Nat.le_of_ble_eq_true rfl) ?_
  intro p e s m below meth c ls hx hb hr hml hown hts hlocks htab hP hD hDp hS hK hE hl
  have hown : s.vm.findClass RL = some m.cls := hown
  have hl : lv_has ls 5 [(0, .ref (f 0)), (1, .int xb), (2, .int sh), (3, .ref (y 0))] := hl
  refine lv_aload_n hx hb dL_ifShare_0 rfl (lv_at hl 3 rfl) ?_
  refine lv_iconst (v := 0) hx hb dL_ifShare_1 (by decide) ?_
  refine lv_aload_n hx hb dL_ifShare_2 rfl (lv_at hl 0 rfl) ?_
  refine lv_iload_n hx hb dL_ifShare_3 rfl (lv_at hl 1 rfl) ?_
  refine lv_iload_n hx hb dL_ifShare_4 rfl (lv_at hl 2 rfl) ?_
  refine zcVw (ci := 4) (n := 2) (c_X4_ifShare l D g f h u o x O T xb sh he) hx hb hml hown hts gL_ifShare_X4_ifShare rfl ⟨rfl, by decide, by decide, by decide⟩ ⟨Nat.le_of_ble_eq_true rfl, Nat.le_of_ble_eq_true rfl⟩ ⟨rfl, rfl⟩ hK (zsubB (cs := [zB_X4 f h u o x, zB_X2 (g 0) o O, zB_X3 (g 0) h T]) hP [0, 1, 2] rfl rfl) (zDsubB (cs := [zB_X4 f h u o x, zB_X2 (g 0) o O, zB_X3 (g 0) h T]) hD [0, 1, 2] (by decide) rfl rfl) rfl rfl rfl hS hl.1 rfl rfl (Nat.le_of_ble_eq_true rfl) ⟨Nat.zero_le _, Nat.zero_le _⟩ dL_ifShare_5 (fun H1 locs hP1 hk1 hS => ?_)
  obtain ⟨hP, hD⟩ := zjoinB (cs := [zB_X4 f h u o x, zB_X2 (g 0) o O, zB_X3 (g 0) h T]) (cs' := [zB_X4 f h u o x, zB_X2 (g 0) o ((v_X4_ifShare O T xb sh).2), zB_X3 (g 0) h T]) hP hD [0, 1, 2] (by decide) rfl (by simp only [zF, List.flatten_cons, List.flatten_nil, List.append_nil, List.map_append, List.map_cons, List.map_nil, zad_X0, zad_X1, zad_X2, zad_X3, zad_X4, zad_X5, zad_XJ, zad_XD]) rfl rfl hk1 hP1
  clear hP1 hk1
  have hP : va_P D vwCl (zF [zB_X4 f h u o x, zB_X2 (g 0) o ((v_X4_ifShare O T xb sh).2), zB_X3 (g 0) h T, zB_XJ (g 2) y J]) H1 := hP
  have hD : va_D (zA (zF [zB_X4 f h u o x, zB_X2 (g 0) o O, zB_X3 (g 0) h T, zB_XJ (g 2) y J])) (zF [zB_X4 f h u o x, zB_X2 (g 0) o ((v_X4_ifShare O T xb sh).2), zB_X3 (g 0) h T, zB_XJ (g 2) y J]) := hD
  refine lv_i2l hx hb dL_ifShare_8 rfl ?_
  refine va_last (i := 0) (x := Int32.toInt64 ((v_X4_ifShare O T xb sh).1)) hx hb hK.1 hP hD hS 16 2 rfl rfl (vp_in_nI (n := 0) (N := 1) (by decide) (by decide)) dL_ifShare_9 (fun H locs hP hD hS => ?_)
  have hP : va_P D vwCl (zF [zB_X4 f h u o x, zB_X2 (g 0) o ((v_X4_ifShare O T xb sh).2), zB_X3 (g 0) h T, zB_XJ (g 2) y (vp_updL J 0 (Int32.toInt64 ((v_X4_ifShare O T xb sh).1)))]) H := hP
  have hD : va_D (zA (zF [zB_X4 f h u o x, zB_X2 (g 0) o O, zB_X3 (g 0) h T, zB_XJ (g 2) y J])) (zF [zB_X4 f h u o x, zB_X2 (g 0) o ((v_X4_ifShare O T xb sh).2), zB_X3 (g 0) h T, zB_XJ (g 2) y (vp_updL J 0 (Int32.toInt64 ((v_X4_ifShare O T xb sh).1)))]) := hD
  refine lv_goto (tgt := 21) hx hb dL_ifShare_10 (by decide) ?_
  refine lv_iconst (v := 0) hx hb dL_ifShare_21 (by decide) ?_
  refine W.widen (k := 1) (n := 6) (Nat.zero_le _) (Nat.zero_le _) ?_
  exact zretL hx hb hr hlocks dL_ifShare_22 hP hS rfl rfl
set_option maxHeartbeats 400000 in
set_option maxRecDepth 100000 in
theorem t_L_ifShare_0 (l : Launch) (D : va_G) (g : Nat → ClassId) (hp : Nat) (f : Nat → Nat) (h : Nat → Nat) (u : Nat → Nat) (o : Nat → Nat) (x : Nat → Nat) (y : Nat → Nat) (O : Nat → Nat → Int32) (T : Nat → Nat → Int32) (J : Nat → Int64) (xb : Int32) (sh : Int32) (hst : l.stackTraces = false) (he : e_X4_ifShare O T xb sh = some "java/lang/IndexOutOfBoundsException") : Lw l D (zT g) hp yL_ifShare wsL_ifShare (rmX 8 136) [.ref (f 0), .int xb, .int sh, .ref (y 0)] (zF [zB_X4 f h u o x, zB_X2 (g 0) o O, zB_X3 (g 0) h T, zB_XJ (g 2) y J]) 1 (zF [zB_X4 f h u o x, zB_X2 (g 0) o O, zB_X3 (g 0) h T, zB_XJ (g 2) y J]) := by
  refine Lw.of (cc := cL_ifShare) (maxL := 5) (ret := some .int) (hh := [(0, 10, 13, 21), (0, 10, 17, 13)]) (by decide) rfl (Nat.le_of_ble_eq_true rfl) ?_
  intro p e s m below meth c ls hx hb hr hml hown hts hlocks htab hP hD hDp hS hK hE hl
  have hown : s.vm.findClass RL = some m.cls := hown
  have hl : lv_has ls 5 [(0, .ref (f 0)), (1, .int xb), (2, .int sh), (3, .ref (y 0))] := hl
  refine lv_aload_n hx hb dL_ifShare_0 rfl (lv_at hl 3 rfl) ?_
  refine lv_iconst (v := 0) hx hb dL_ifShare_1 (by decide) ?_
  refine lv_aload_n hx hb dL_ifShare_2 rfl (lv_at hl 0 rfl) ?_
  refine lv_iload_n hx hb dL_ifShare_3 rfl (lv_at hl 1 rfl) ?_
  refine lv_iload_n hx hb dL_ifShare_4 rfl (lv_at hl 2 rfl) ?_
  refine zcatV (tgt := 13) (ci := 4) (n := 2) (t_X4_ifShare l D g f h u o x O T xb sh hst hp _ he) hx hb hml hown hts gL_ifShare_X4_ifShare rfl ⟨rfl, by decide, by decide, by decide⟩ ⟨Nat.le_of_ble_eq_true rfl, Nat.le_of_ble_eq_true rfl⟩ ⟨rfl, rfl⟩ hK (zsubB (cs := [zB_X4 f h u o x, zB_X2 (g 0) o O, zB_X3 (g 0) h T]) hP [0, 1, 2] rfl rfl) (zDsubB (cs := [zB_X4 f h u o x, zB_X2 (g 0) o O, zB_X3 (g 0) h T]) hDp [0, 1, 2] (by decide) rfl rfl) hE rfl rfl rfl hl.1 rfl rfl (Nat.le_of_ble_eq_true rfl) ⟨Nat.le_of_ble_eq_true rfl, Nat.le_of_ble_eq_true rfl⟩ dL_ifShare_5 [] (0, 10, 13, 21) [(0, 10, 17, 13)] htab rfl (show ∀ z ∈ ([] : List ExceptionTableEntry), _ from (fun _ h9 => nomatch h9)) (show ∀ z ∈ ([⟨0, 10, 13, 21⟩] : List ExceptionTableEntry), _ from (List.forall_mem_cons.mpr ⟨⟨by decide, by decide, (List.mem_of_getElem? (i := 1) rfl), rfl⟩, fun _ h9 => nomatch h9⟩)) (by decide +kernel) (fun q9 H1 hz hk1 => ?_)
  have hP : va_P D vwCl (zF [zB_X4 f h u o x, zB_X2 (g 0) o O, zB_X3 (g 0) h T, zB_XJ (g 2) y J]) H1 := fun k q h9 => (hP k q h9).kept (hk1 q.1 (hP k q h9).lt)
  have hS : va_S (zA (zF [zB_X4 f h u o x, zB_X2 (g 0) o O, zB_X3 (g 0) h T, zB_XJ (g 2) y J])) s.heap H1 [] := ⟨hz, fun q h1 _ => hk1 q h1, fun _ h9 => nomatch h9⟩
  refine lv_astore (lv' := [(4, .ref q9), (0, .ref (f 0)), (1, .int xb), (2, .int sh), (3, .ref (y 0))]) hx hb dL_ifShare_13 hl (by decide) rfl (fun ls hl => ?_)
  refine lv_iconst (v := 1) hx hb dL_ifShare_15 (by decide) ?_
  exact zretL hx hb hr hlocks dL_ifShare_16 hP hS rfl rfl
set_option maxHeartbeats 400000 in
set_option maxRecDepth 100000 in
theorem t_L_ifShare_1 (l : Launch) (D : va_G) (g : Nat → ClassId) (hp : Nat) (f : Nat → Nat) (h : Nat → Nat) (u : Nat → Nat) (o : Nat → Nat) (x : Nat → Nat) (y : Nat → Nat) (O : Nat → Nat → Int32) (T : Nat → Nat → Int32) (J : Nat → Int64) (xb : Int32) (sh : Int32) (hst : l.stackTraces = false) (he : e_X4_ifShare O T xb sh = some "java/lang/IllegalArgumentException") : Lw l D (zT g) hp yL_ifShare wsL_ifShare (rmX 8 136) [.ref (f 0), .int xb, .int sh, .ref (y 0)] (zF [zB_X4 f h u o x, zB_X2 (g 0) o O, zB_X3 (g 0) h T, zB_XJ (g 2) y J]) 2 (zF [zB_X4 f h u o x, zB_X2 (g 0) o O, zB_X3 (g 0) h T, zB_XJ (g 2) y J]) := by
  refine Lw.of (cc := cL_ifShare) (maxL := 5) (ret := some .int) (hh := [(0, 10, 13, 21), (0, 10, 17, 13)]) (by decide) rfl (Nat.le_of_ble_eq_true rfl) ?_
  intro p e s m below meth c ls hx hb hr hml hown hts hlocks htab hP hD hDp hS hK hE hl
  have hown : s.vm.findClass RL = some m.cls := hown
  have hl : lv_has ls 5 [(0, .ref (f 0)), (1, .int xb), (2, .int sh), (3, .ref (y 0))] := hl
  refine lv_aload_n hx hb dL_ifShare_0 rfl (lv_at hl 3 rfl) ?_
  refine lv_iconst (v := 0) hx hb dL_ifShare_1 (by decide) ?_
  refine lv_aload_n hx hb dL_ifShare_2 rfl (lv_at hl 0 rfl) ?_
  refine lv_iload_n hx hb dL_ifShare_3 rfl (lv_at hl 1 rfl) ?_
  refine lv_iload_n hx hb dL_ifShare_4 rfl (lv_at hl 2 rfl) ?_
  refine zcatV (tgt := 17) (ci := 4) (n := 2) (t_X4_ifShare l D g f h u o x O T xb sh hst hp _ he) hx hb hml hown hts gL_ifShare_X4_ifShare rfl ⟨rfl, by decide, by decide, by decide⟩ ⟨Nat.le_of_ble_eq_true rfl, Nat.le_of_ble_eq_true rfl⟩ ⟨rfl, rfl⟩ hK (zsubB (cs := [zB_X4 f h u o x, zB_X2 (g 0) o O, zB_X3 (g 0) h T]) hP [0, 1, 2] rfl rfl) (zDsubB (cs := [zB_X4 f h u o x, zB_X2 (g 0) o O, zB_X3 (g 0) h T]) hDp [0, 1, 2] (by decide) rfl rfl) hE rfl rfl rfl hl.1 rfl rfl (Nat.le_of_ble_eq_true rfl) ⟨Nat.le_of_ble_eq_true rfl, Nat.le_of_ble_eq_true rfl⟩ dL_ifShare_5 [(0, 10, 13, 21)] (0, 10, 17, 13) [] htab rfl (show ∀ z ∈ ([⟨0, 10, 13, 21⟩] : List ExceptionTableEntry), _ from (List.forall_mem_cons.mpr ⟨Or.inr ⟨by decide, "java/lang/IndexOutOfBoundsException", (List.mem_of_getElem? (i := 1) rfl), by decide⟩, (fun _ h9 => nomatch h9)⟩)) (show ∀ z ∈ ([⟨0, 10, 17, 13⟩] : List ExceptionTableEntry), _ from (List.forall_mem_cons.mpr ⟨⟨by decide, by decide, (List.mem_of_getElem? (i := 2) rfl), rfl⟩, fun _ h9 => nomatch h9⟩)) (by decide +kernel) (fun q9 H1 hz hk1 => ?_)
  have hP : va_P D vwCl (zF [zB_X4 f h u o x, zB_X2 (g 0) o O, zB_X3 (g 0) h T, zB_XJ (g 2) y J]) H1 := fun k q h9 => (hP k q h9).kept (hk1 q.1 (hP k q h9).lt)
  have hS : va_S (zA (zF [zB_X4 f h u o x, zB_X2 (g 0) o O, zB_X3 (g 0) h T, zB_XJ (g 2) y J])) s.heap H1 [] := ⟨hz, fun q h1 _ => hk1 q h1, fun _ h9 => nomatch h9⟩
  refine lv_astore (lv' := [(4, .ref q9), (0, .ref (f 0)), (1, .int xb), (2, .int sh), (3, .ref (y 0))]) hx hb dL_ifShare_17 hl (by decide) rfl (fun ls hl => ?_)
  refine lv_iconst (v := 2) hx hb dL_ifShare_19 (by decide) ?_
  exact zretL hx hb hr hlocks dL_ifShare_20 hP hS rfl rfl
set_option maxHeartbeats 400000 in
set_option maxRecDepth 100000 in
theorem c_L_shareFor (l : Launch) (D : va_G) (g : Nat → ClassId) (hp : Nat) (f : Nat → Nat) (h : Nat → Nat) (u : Nat → Nat) (o : Nat → Nat) (x : Nat → Nat) (y : Nat → Nat) (O : Nat → Nat → Int32) (T : Nat → Nat → Int32) (J : Nat → Int64) (xb : Int32) (many : Int32) (he : e_X4_shareFor O T xb many = none) : Lw l D (zT g) hp yL_shareFor wsL_shareFor (rmX 8 136) [.ref (f 0), .int xb, .int many, .ref (y 0)] (zF [zB_X4 f h u o x, zB_X2 (g 0) o O, zB_X3 (g 0) h T, zB_XJ (g 2) y J]) 0 (zF [zB_X4 f h u o x, zB_X2 (g 0) o ((v_X4_shareFor O T xb many).2), zB_X3 (g 0) h T, zB_XJ (g 2) y (vp_updL J 0 (Int32.toInt64 ((v_X4_shareFor O T xb many).1)))]) := by
  refine Lw.of (cc := cL_shareFor) (maxL := 5) (ret := some .int) (hh := [(0, 10, 13, 21), (0, 10, 17, 13)]) (by decide) rfl (Nat.le_of_ble_eq_true rfl) ?_
  intro p e s m below meth c ls hx hb hr hml hown hts hlocks htab hP hD hDp hS hK hE hl
  have hown : s.vm.findClass RL = some m.cls := hown
  have hl : lv_has ls 5 [(0, .ref (f 0)), (1, .int xb), (2, .int many), (3, .ref (y 0))] := hl
  refine lv_aload_n hx hb dL_shareFor_0 rfl (lv_at hl 3 rfl) ?_
  refine lv_iconst (v := 0) hx hb dL_shareFor_1 (by decide) ?_
  refine lv_aload_n hx hb dL_shareFor_2 rfl (lv_at hl 0 rfl) ?_
  refine lv_iload_n hx hb dL_shareFor_3 rfl (lv_at hl 1 rfl) ?_
  refine lv_iload_n hx hb dL_shareFor_4 rfl (lv_at hl 2 rfl) ?_
  refine zcVw (ci := 4) (n := 2) (c_X4_shareFor l D g f h u o x O T xb many he) hx hb hml hown hts gL_shareFor_X4_shareFor rfl ⟨rfl, by decide, by decide, by decide⟩ ⟨Nat.le_of_ble_eq_true rfl, Nat.le_of_ble_eq_true rfl⟩ ⟨rfl, rfl⟩ hK (zsubB (cs := [zB_X4 f h u o x, zB_X2 (g 0) o O, zB_X3 (g 0) h T]) hP [0, 1, 2] rfl rfl) (zDsubB (cs := [zB_X4 f h u o x, zB_X2 (g 0) o O, zB_X3 (g 0) h T]) hD [0, 1, 2] (by decide) rfl rfl) rfl rfl rfl hS hl.1 rfl rfl (Nat.le_of_ble_eq_true rfl) ⟨Nat.zero_le _, Nat.zero_le _⟩ dL_shareFor_5 (fun H1 locs hP1 hk1 hS => ?_)
  obtain ⟨hP, hD⟩ := zjoinB (cs := [zB_X4 f h u o x, zB_X2 (g 0) o O, zB_X3 (g 0) h T]) (cs' := [zB_X4 f h u o x, zB_X2 (g 0) o ((v_X4_shareFor O T xb many).2), zB_X3 (g 0) h T]) hP hD [0, 1, 2] (by decide) rfl (by simp only [zF, List.flatten_cons, List.flatten_nil, List.append_nil, List.map_append, List.map_cons, List.map_nil, zad_X0, zad_X1, zad_X2, zad_X3, zad_X4, zad_X5, zad_XJ, zad_XD]) rfl rfl hk1 hP1
  clear hP1 hk1
  have hP : va_P D vwCl (zF [zB_X4 f h u o x, zB_X2 (g 0) o ((v_X4_shareFor O T xb many).2), zB_X3 (g 0) h T, zB_XJ (g 2) y J]) H1 := hP
  have hD : va_D (zA (zF [zB_X4 f h u o x, zB_X2 (g 0) o O, zB_X3 (g 0) h T, zB_XJ (g 2) y J])) (zF [zB_X4 f h u o x, zB_X2 (g 0) o ((v_X4_shareFor O T xb many).2), zB_X3 (g 0) h T, zB_XJ (g 2) y J]) := hD
  refine lv_i2l hx hb dL_shareFor_8 rfl ?_
  refine va_last (i := 0) (x := Int32.toInt64 ((v_X4_shareFor O T xb many).1)) hx hb hK.1 hP hD hS 16 2 rfl rfl (vp_in_nI (n := 0) (N := 1) (by decide) (by decide)) dL_shareFor_9 (fun H locs hP hD hS => ?_)
  have hP : va_P D vwCl (zF [zB_X4 f h u o x, zB_X2 (g 0) o ((v_X4_shareFor O T xb many).2), zB_X3 (g 0) h T, zB_XJ (g 2) y (vp_updL J 0 (Int32.toInt64 ((v_X4_shareFor O T xb many).1)))]) H := hP
  have hD : va_D (zA (zF [zB_X4 f h u o x, zB_X2 (g 0) o O, zB_X3 (g 0) h T, zB_XJ (g 2) y J])) (zF [zB_X4 f h u o x, zB_X2 (g 0) o ((v_X4_shareFor O T xb many).2), zB_X3 (g 0) h T, zB_XJ (g 2) y (vp_updL J 0 (Int32.toInt64 ((v_X4_shareFor O T xb many).1)))]) := hD
  refine lv_goto (tgt := 21) hx hb dL_shareFor_10 (by decide) ?_
  refine lv_iconst (v := 0) hx hb dL_shareFor_21 (by decide) ?_
  refine W.widen (k := 1) (n := 6) (Nat.zero_le _) (Nat.zero_le _) ?_
  exact zretL hx hb hr hlocks dL_shareFor_22 hP hS rfl rfl
set_option maxHeartbeats 400000 in
set_option maxRecDepth 100000 in
theorem t_L_shareFor_0 (l : Launch) (D : va_G) (g : Nat → ClassId) (hp : Nat) (f : Nat → Nat) (h : Nat → Nat) (u : Nat → Nat) (o : Nat → Nat) (x : Nat → Nat) (y : Nat → Nat) (O : Nat → Nat → Int32) (T : Nat → Nat → Int32) (J : Nat → Int64) (xb : Int32) (many : Int32) (hst : l.stackTraces = false) (he : e_X4_shareFor O T xb many = some "java/lang/IndexOutOfBoundsException") : Lw l D (zT g) hp yL_shareFor wsL_shareFor (rmX 8 136) [.ref (f 0), .int xb, .int many, .ref (y 0)] (zF [zB_X4 f h u o x, zB_X2 (g 0) o O, zB_X3 (g 0) h T, zB_XJ (g 2) y J]) 1 (zF [zB_X4 f h u o x, zB_X2 (g 0) o O, zB_X3 (g 0) h T, zB_XJ (g 2) y J]) := by
  refine Lw.of (cc := cL_shareFor) (maxL := 5) (ret := some .int) (hh := [(0, 10, 13, 21), (0, 10, 17, 13)]) (by decide) rfl (Nat.le_of_ble_eq_true rfl) ?_
  intro p e s m below meth c ls hx hb hr hml hown hts hlocks htab hP hD hDp hS hK hE hl
  have hown : s.vm.findClass RL = some m.cls := hown
  have hl : lv_has ls 5 [(0, .ref (f 0)), (1, .int xb), (2, .int many), (3, .ref (y 0))] := hl
  refine lv_aload_n hx hb dL_shareFor_0 rfl (lv_at hl 3 rfl) ?_
  refine lv_iconst (v := 0) hx hb dL_shareFor_1 (by decide) ?_
  refine lv_aload_n hx hb dL_shareFor_2 rfl (lv_at hl 0 rfl) ?_
  refine lv_iload_n hx hb dL_shareFor_3 rfl (lv_at hl 1 rfl) ?_
  refine lv_iload_n hx hb dL_shareFor_4 rfl (lv_at hl 2 rfl) ?_
  refine zcatV (tgt := 13) (ci := 4) (n := 2) (t_X4_shareFor l D g f h u o x O T xb many hst hp _ he) hx hb hml hown hts gL_shareFor_X4_shareFor rfl ⟨rfl, by decide, by decide, by decide⟩ ⟨Nat.le_of_ble_eq_true rfl, Nat.le_of_ble_eq_true rfl⟩ ⟨rfl, rfl⟩ hK (zsubB (cs := [zB_X4 f h u o x, zB_X2 (g 0) o O, zB_X3 (g 0) h T]) hP [0, 1, 2] rfl rfl) (zDsubB (cs := [zB_X4 f h u o x, zB_X2 (g 0) o O, zB_X3 (g 0) h T]) hDp [0, 1, 2] (by decide) rfl rfl) hE rfl rfl rfl hl.1 rfl rfl (Nat.le_of_ble_eq_true rfl) ⟨Nat.le_of_ble_eq_true rfl, Nat.le_of_ble_eq_true rfl⟩ dL_shareFor_5 [] (0, 10, 13, 21) [(0, 10, 17, 13)] htab rfl (show ∀ z ∈ ([] : List ExceptionTableEntry), _ from (fun _ h9 => nomatch h9)) (show ∀ z ∈ ([⟨0, 10, 13, 21⟩] : List ExceptionTableEntry), _ from (List.forall_mem_cons.mpr ⟨⟨by decide, by decide, (List.mem_of_getElem? (i := 1) rfl), rfl⟩, fun _ h9 => nomatch h9⟩)) (by decide +kernel) (fun q9 H1 hz hk1 => ?_)
  have hP : va_P D vwCl (zF [zB_X4 f h u o x, zB_X2 (g 0) o O, zB_X3 (g 0) h T, zB_XJ (g 2) y J]) H1 := fun k q h9 => (hP k q h9).kept (hk1 q.1 (hP k q h9).lt)
  have hS : va_S (zA (zF [zB_X4 f h u o x, zB_X2 (g 0) o O, zB_X3 (g 0) h T, zB_XJ (g 2) y J])) s.heap H1 [] := ⟨hz, fun q h1 _ => hk1 q h1, fun _ h9 => nomatch h9⟩
  refine lv_astore (lv' := [(4, .ref q9), (0, .ref (f 0)), (1, .int xb), (2, .int many), (3, .ref (y 0))]) hx hb dL_shareFor_13 hl (by decide) rfl (fun ls hl => ?_)
  refine lv_iconst (v := 1) hx hb dL_shareFor_15 (by decide) ?_
  exact zretL hx hb hr hlocks dL_shareFor_16 hP hS rfl rfl
set_option maxHeartbeats 400000 in
set_option maxRecDepth 100000 in
theorem t_L_shareFor_1 (l : Launch) (D : va_G) (g : Nat → ClassId) (hp : Nat) (f : Nat → Nat) (h : Nat → Nat) (u : Nat → Nat) (o : Nat → Nat) (x : Nat → Nat) (y : Nat → Nat) (O : Nat → Nat → Int32) (T : Nat → Nat → Int32) (J : Nat → Int64) (xb : Int32) (many : Int32) (hst : l.stackTraces = false) (he : e_X4_shareFor O T xb many = some "java/lang/IllegalArgumentException") : Lw l D (zT g) hp yL_shareFor wsL_shareFor (rmX 8 136) [.ref (f 0), .int xb, .int many, .ref (y 0)] (zF [zB_X4 f h u o x, zB_X2 (g 0) o O, zB_X3 (g 0) h T, zB_XJ (g 2) y J]) 2 (zF [zB_X4 f h u o x, zB_X2 (g 0) o O, zB_X3 (g 0) h T, zB_XJ (g 2) y J]) := by
  refine Lw.of (cc := cL_shareFor) (maxL := 5) (ret := some .int) (hh := [(0, 10, 13, 21), (0, 10, 17, 13)]) (by decide) rfl (Nat.le_of_ble_eq_true rfl) ?_
  intro p e s m below meth c ls hx hb hr hml hown hts hlocks htab hP hD hDp hS hK hE hl
  have hown : s.vm.findClass RL = some m.cls := hown
  have hl : lv_has ls 5 [(0, .ref (f 0)), (1, .int xb), (2, .int many), (3, .ref (y 0))] := hl
  refine lv_aload_n hx hb dL_shareFor_0 rfl (lv_at hl 3 rfl) ?_
  refine lv_iconst (v := 0) hx hb dL_shareFor_1 (by decide) ?_
  refine lv_aload_n hx hb dL_shareFor_2 rfl (lv_at hl 0 rfl) ?_
  refine lv_iload_n hx hb dL_shareFor_3 rfl (lv_at hl 1 rfl) ?_
  refine lv_iload_n hx hb dL_shareFor_4 rfl (lv_at hl 2 rfl) ?_
  refine zcatV (tgt := 17) (ci := 4) (n := 2) (t_X4_shareFor l D g f h u o x O T xb many hst hp _ he) hx hb hml hown hts gL_shareFor_X4_shareFor rfl ⟨rfl, by decide, by decide, by decide⟩ ⟨Nat.le_of_ble_eq_true rfl, Nat.le_of_ble_eq_true rfl⟩ ⟨rfl, rfl⟩ hK (zsubB (cs := [zB_X4 f h u o x, zB_X2 (g 0) o O, zB_X3 (g 0) h T]) hP [0, 1, 2] rfl rfl) (zDsubB (cs := [zB_X4 f h u o x, zB_X2 (g 0) o O, zB_X3 (g 0) h T]) hDp [0, 1, 2] (by decide) rfl rfl) hE rfl rfl rfl hl.1 rfl rfl (Nat.le_of_ble_eq_true rfl) ⟨Nat.le_of_ble_eq_true rfl, Nat.le_of_ble_eq_true rfl⟩ dL_shareFor_5 [(0, 10, 13, 21)] (0, 10, 17, 13) [] htab rfl (show ∀ z ∈ ([⟨0, 10, 13, 21⟩] : List ExceptionTableEntry), _ from (List.forall_mem_cons.mpr ⟨Or.inr ⟨by decide, "java/lang/IndexOutOfBoundsException", (List.mem_of_getElem? (i := 1) rfl), by decide⟩, (fun _ h9 => nomatch h9)⟩)) (show ∀ z ∈ ([⟨0, 10, 17, 13⟩] : List ExceptionTableEntry), _ from (List.forall_mem_cons.mpr ⟨⟨by decide, by decide, (List.mem_of_getElem? (i := 2) rfl), rfl⟩, fun _ h9 => nomatch h9⟩)) (by decide +kernel) (fun q9 H1 hz hk1 => ?_)
  have hP : va_P D vwCl (zF [zB_X4 f h u o x, zB_X2 (g 0) o O, zB_X3 (g 0) h T, zB_XJ (g 2) y J]) H1 := fun k q h9 => (hP k q h9).kept (hk1 q.1 (hP k q h9).lt)
  have hS : va_S (zA (zF [zB_X4 f h u o x, zB_X2 (g 0) o O, zB_X3 (g 0) h T, zB_XJ (g 2) y J])) s.heap H1 [] := ⟨hz, fun q h1 _ => hk1 q h1, fun _ h9 => nomatch h9⟩
  refine lv_astore (lv' := [(4, .ref q9), (0, .ref (f 0)), (1, .int xb), (2, .int many), (3, .ref (y 0))]) hx hb dL_shareFor_17 hl (by decide) rfl (fun ls hl => ?_)
  refine lv_iconst (v := 2) hx hb dL_shareFor_19 (by decide) ?_
  exact zretL hx hb hr hlocks dL_shareFor_20 hP hS rfl rfl
set_option maxHeartbeats 400000 in
set_option maxRecDepth 100000 in
theorem c_L_bestSalt (l : Launch) (D : va_G) (g : Nat → ClassId) (hp : Nat) (f : Nat → Nat) (h : Nat → Nat) (u : Nat → Nat) (o : Nat → Nat) (x : Nat → Nat) (y : Nat → Nat) (T : Nat → Nat → Int32) (J : Nat → Int64) (xb : Int32) (sal : Int32) (he : e_X4_bestSalt T xb sal = none) : Lw l D (zT g) hp yL_bestSalt wsL_bestSalt (rmX 8 125) [.ref (f 0), .int xb, .int sal, .ref (y 0)] (zF [zB_X4 f h u o x, zB_X3 (g 0) h T, zB_XJ (g 2) y J]) 0 (zF [zB_X4 f h u o x, zB_X3 (g 0) h T, zB_XJ (g 2) y (vp_updL J 0 (Int32.toInt64 (v_X4_bestSalt T xb sal)))]) := by
  refine Lw.of (cc := cL_bestSalt) (maxL := 5) (ret := some .int) (hh := [(0, 10, 13, 21), (0, 10, 17, 13)]) (by decide) rfl (Nat.le_of_ble_eq_true rfl) ?_
  intro p e s m below meth c ls hx hb hr hml hown hts hlocks htab hP hD hDp hS hK hE hl
  have hown : s.vm.findClass RL = some m.cls := hown
  have hl : lv_has ls 5 [(0, .ref (f 0)), (1, .int xb), (2, .int sal), (3, .ref (y 0))] := hl
  refine lv_aload_n hx hb dL_bestSalt_0 rfl (lv_at hl 3 rfl) ?_
  refine lv_iconst (v := 0) hx hb dL_bestSalt_1 (by decide) ?_
  refine lv_aload_n hx hb dL_bestSalt_2 rfl (lv_at hl 0 rfl) ?_
  refine lv_iload_n hx hb dL_bestSalt_3 rfl (lv_at hl 1 rfl) ?_
  refine lv_iload_n hx hb dL_bestSalt_4 rfl (lv_at hl 2 rfl) ?_
  refine zcV (ci := 4) (n := 2) (c_X4_bestSalt l D g f h u o x T xb sal he) hx hb hml hown hts gL_bestSalt_X4_bestSalt rfl ⟨rfl, by decide, by decide, by decide⟩ ⟨Nat.le_of_ble_eq_true rfl, Nat.le_of_ble_eq_true rfl⟩ ⟨rfl, rfl⟩ hK (zsubB (cs := [zB_X4 f h u o x, zB_X3 (g 0) h T]) hP [0, 1] rfl (zF2 _ _)) rfl rfl rfl hl.1 rfl rfl (Nat.le_of_ble_eq_true rfl) ⟨Nat.zero_le _, Nat.zero_le _⟩ dL_bestSalt_5 ?_
  refine lv_i2l hx hb dL_bestSalt_8 rfl ?_
  refine va_last (i := 0) (x := Int32.toInt64 (v_X4_bestSalt T xb sal)) hx hb hK.1 hP hD hS 12 2 rfl rfl (vp_in_nI (n := 0) (N := 1) (by decide) (by decide)) dL_bestSalt_9 (fun H locs hP hD hS => ?_)
  have hP : va_P D vwCl (zF [zB_X4 f h u o x, zB_X3 (g 0) h T, zB_XJ (g 2) y (vp_updL J 0 (Int32.toInt64 (v_X4_bestSalt T xb sal)))]) H := hP
  have hD : va_D (zA (zF [zB_X4 f h u o x, zB_X3 (g 0) h T, zB_XJ (g 2) y J])) (zF [zB_X4 f h u o x, zB_X3 (g 0) h T, zB_XJ (g 2) y (vp_updL J 0 (Int32.toInt64 (v_X4_bestSalt T xb sal)))]) := hD
  refine lv_goto (tgt := 21) hx hb dL_bestSalt_10 (by decide) ?_
  refine lv_iconst (v := 0) hx hb dL_bestSalt_21 (by decide) ?_
  refine W.widen (k := 1) (n := 6) (Nat.zero_le _) (Nat.zero_le _) ?_
  exact zretL hx hb hr hlocks dL_bestSalt_22 hP hS rfl rfl
set_option maxHeartbeats 400000 in
set_option maxRecDepth 100000 in
theorem t_L_bestSalt_0 (l : Launch) (D : va_G) (g : Nat → ClassId) (hp : Nat) (f : Nat → Nat) (h : Nat → Nat) (u : Nat → Nat) (o : Nat → Nat) (x : Nat → Nat) (y : Nat → Nat) (T : Nat → Nat → Int32) (J : Nat → Int64) (xb : Int32) (sal : Int32) (hst : l.stackTraces = false) (he : e_X4_bestSalt T xb sal = some "java/lang/IndexOutOfBoundsException") : Lw l D (zT g) hp yL_bestSalt wsL_bestSalt (rmX 8 125) [.ref (f 0), .int xb, .int sal, .ref (y 0)] (zF [zB_X4 f h u o x, zB_X3 (g 0) h T, zB_XJ (g 2) y J]) 1 (zF [zB_X4 f h u o x, zB_X3 (g 0) h T, zB_XJ (g 2) y J]) := by
  refine Lw.of (cc := cL_bestSalt) (maxL := 5) (ret := some .int) (hh := [(0, 10, 13, 21), (0, 10, 17, 13)]) (by decide) rfl (Nat.le_of_ble_eq_true rfl) ?_
  intro p e s m below meth c ls hx hb hr hml hown hts hlocks htab hP hD hDp hS hK hE hl
  have hown : s.vm.findClass RL = some m.cls := hown
  have hl : lv_has ls 5 [(0, .ref (f 0)), (1, .int xb), (2, .int sal), (3, .ref (y 0))] := hl
  refine lv_aload_n hx hb dL_bestSalt_0 rfl (lv_at hl 3 rfl) ?_
  refine lv_iconst (v := 0) hx hb dL_bestSalt_1 (by decide) ?_
  refine lv_aload_n hx hb dL_bestSalt_2 rfl (lv_at hl 0 rfl) ?_
  refine lv_iload_n hx hb dL_bestSalt_3 rfl (lv_at hl 1 rfl) ?_
  refine lv_iload_n hx hb dL_bestSalt_4 rfl (lv_at hl 2 rfl) ?_
  refine zcatV (tgt := 13) (ci := 4) (n := 2) (t_X4_bestSalt l D g f h u o x T xb sal hst hp _ he) hx hb hml hown hts gL_bestSalt_X4_bestSalt rfl ⟨rfl, by decide, by decide, by decide⟩ ⟨Nat.le_of_ble_eq_true rfl, Nat.le_of_ble_eq_true rfl⟩ ⟨rfl, rfl⟩ hK (zsubB (cs := [zB_X4 f h u o x, zB_X3 (g 0) h T]) hP [0, 1] rfl (zF2 _ _)) (zDsubB (cs := [zB_X4 f h u o x, zB_X3 (g 0) h T]) hDp [0, 1] (by decide) rfl (zF2 _ _)) hE rfl rfl rfl hl.1 rfl rfl (Nat.le_of_ble_eq_true rfl) ⟨Nat.le_of_ble_eq_true rfl, Nat.le_of_ble_eq_true rfl⟩ dL_bestSalt_5 [] (0, 10, 13, 21) [(0, 10, 17, 13)] htab rfl (show ∀ z ∈ ([] : List ExceptionTableEntry), _ from (fun _ h9 => nomatch h9)) (show ∀ z ∈ ([⟨0, 10, 13, 21⟩] : List ExceptionTableEntry), _ from (List.forall_mem_cons.mpr ⟨⟨by decide, by decide, (List.mem_of_getElem? (i := 1) rfl), rfl⟩, fun _ h9 => nomatch h9⟩)) (by decide +kernel) (fun q9 H1 hz hk1 => ?_)
  have hP : va_P D vwCl (zF [zB_X4 f h u o x, zB_X3 (g 0) h T, zB_XJ (g 2) y J]) H1 := fun k q h9 => (hP k q h9).kept (hk1 q.1 (hP k q h9).lt)
  have hS : va_S (zA (zF [zB_X4 f h u o x, zB_X3 (g 0) h T, zB_XJ (g 2) y J])) s.heap H1 [] := ⟨hz, fun q h1 _ => hk1 q h1, fun _ h9 => nomatch h9⟩
  refine lv_astore (lv' := [(4, .ref q9), (0, .ref (f 0)), (1, .int xb), (2, .int sal), (3, .ref (y 0))]) hx hb dL_bestSalt_13 hl (by decide) rfl (fun ls hl => ?_)
  refine lv_iconst (v := 1) hx hb dL_bestSalt_15 (by decide) ?_
  exact zretL hx hb hr hlocks dL_bestSalt_16 hP hS rfl rfl
set_option maxHeartbeats 400000 in
set_option maxRecDepth 100000 in
theorem t_L_bestSalt_1 (l : Launch) (D : va_G) (g : Nat → ClassId) (hp : Nat) (f : Nat → Nat) (h : Nat → Nat) (u : Nat → Nat) (o : Nat → Nat) (x : Nat → Nat) (y : Nat → Nat) (T : Nat → Nat → Int32) (J : Nat → Int64) (xb : Int32) (sal : Int32) (hst : l.stackTraces = false) (he : e_X4_bestSalt T xb sal = some "java/lang/IllegalArgumentException") : Lw l D (zT g) hp yL_bestSalt wsL_bestSalt (rmX 8 125) [.ref (f 0), .int xb, .int sal, .ref (y 0)] (zF [zB_X4 f h u o x, zB_X3 (g 0) h T, zB_XJ (g 2) y J]) 2 (zF [zB_X4 f h u o x, zB_X3 (g 0) h T, zB_XJ (g 2) y J]) := by
  refine Lw.of (cc := cL_bestSalt) (maxL := 5) (ret := some .int) (hh := [(0, 10, 13, 21), (0, 10, 17, 13)]) (by decide) rfl (Nat.le_of_ble_eq_true rfl) ?_
  intro p e s m below meth c ls hx hb hr hml hown hts hlocks htab hP hD hDp hS hK hE hl
  have hown : s.vm.findClass RL = some m.cls := hown
  have hl : lv_has ls 5 [(0, .ref (f 0)), (1, .int xb), (2, .int sal), (3, .ref (y 0))] := hl
  refine lv_aload_n hx hb dL_bestSalt_0 rfl (lv_at hl 3 rfl) ?_
  refine lv_iconst (v := 0) hx hb dL_bestSalt_1 (by decide) ?_
  refine lv_aload_n hx hb dL_bestSalt_2 rfl (lv_at hl 0 rfl) ?_
  refine lv_iload_n hx hb dL_bestSalt_3 rfl (lv_at hl 1 rfl) ?_
  refine lv_iload_n hx hb dL_bestSalt_4 rfl (lv_at hl 2 rfl) ?_
  refine zcatV (tgt := 17) (ci := 4) (n := 2) (t_X4_bestSalt l D g f h u o x T xb sal hst hp _ he) hx hb hml hown hts gL_bestSalt_X4_bestSalt rfl ⟨rfl, by decide, by decide, by decide⟩ ⟨Nat.le_of_ble_eq_true rfl, Nat.le_of_ble_eq_true rfl⟩ ⟨rfl, rfl⟩ hK (zsubB (cs := [zB_X4 f h u o x, zB_X3 (g 0) h T]) hP [0, 1] rfl (zF2 _ _)) (zDsubB (cs := [zB_X4 f h u o x, zB_X3 (g 0) h T]) hDp [0, 1] (by decide) rfl (zF2 _ _)) hE rfl rfl rfl hl.1 rfl rfl (Nat.le_of_ble_eq_true rfl) ⟨Nat.le_of_ble_eq_true rfl, Nat.le_of_ble_eq_true rfl⟩ dL_bestSalt_5 [(0, 10, 13, 21)] (0, 10, 17, 13) [] htab rfl (show ∀ z ∈ ([⟨0, 10, 13, 21⟩] : List ExceptionTableEntry), _ from (List.forall_mem_cons.mpr ⟨Or.inr ⟨by decide, "java/lang/IndexOutOfBoundsException", (List.mem_of_getElem? (i := 1) rfl), by decide⟩, (fun _ h9 => nomatch h9)⟩)) (show ∀ z ∈ ([⟨0, 10, 17, 13⟩] : List ExceptionTableEntry), _ from (List.forall_mem_cons.mpr ⟨⟨by decide, by decide, (List.mem_of_getElem? (i := 2) rfl), rfl⟩, fun _ h9 => nomatch h9⟩)) (by decide +kernel) (fun q9 H1 hz hk1 => ?_)
  have hP : va_P D vwCl (zF [zB_X4 f h u o x, zB_X3 (g 0) h T, zB_XJ (g 2) y J]) H1 := fun k q h9 => (hP k q h9).kept (hk1 q.1 (hP k q h9).lt)
  have hS : va_S (zA (zF [zB_X4 f h u o x, zB_X3 (g 0) h T, zB_XJ (g 2) y J])) s.heap H1 [] := ⟨hz, fun q h1 _ => hk1 q h1, fun _ h9 => nomatch h9⟩
  refine lv_astore (lv' := [(4, .ref q9), (0, .ref (f 0)), (1, .int xb), (2, .int sal), (3, .ref (y 0))]) hx hb dL_bestSalt_17 hl (by decide) rfl (fun ls hl => ?_)
  refine lv_iconst (v := 2) hx hb dL_bestSalt_19 (by decide) ?_
  exact zretL hx hb hr hlocks dL_bestSalt_20 hP hS rfl rfl
set_option maxHeartbeats 400000 in
set_option maxRecDepth 100000 in
theorem c_L_nextEater (l : Launch) (D : va_G) (g : Nat → ClassId) (hp : Nat) (f : Nat → Nat) (h : Nat → Nat) (u : Nat → Nat) (o : Nat → Nat) (x : Nat → Nat) (y : Nat → Nat) (O : Nat → Nat → Int32) (T : Nat → Nat → Int32) (J : Nat → Int64) (xb : Int32) (z0 : ∀ b : Nat, b < 8 → vp_in (T 7 b) 101) (he : e_X4_nextEater O T xb = none) : Lw l D (zT g) hp yL_nextEater wsL_nextEater (rmX 8 133) [.ref (f 0), .int xb, .ref (y 0)] (zF [zB_X4 f h u o x, zB_X2 (g 0) o O, zB_X3 (g 0) h T, zB_XJ (g 2) y J]) 0 (zF [zB_X4 f h u o x, zB_X2 (g 0) o ((v_X4_nextEater O T xb).2), zB_X3 (g 0) h T, zB_XJ (g 2) y (vp_updL J 0 (Int32.toInt64 ((v_X4_nextEater O T xb).1)))]) := by
  refine Lw.of (cc := cL_nextEater) (maxL := 4) (ret := some .int) (hh := [(0, 9, 12, 21)]) (by decide) rfl (Nat.le_of_ble_eq_true rfl) ?_
  intro p e s m below meth c ls hx hb hr hml hown hts hlocks htab hP hD hDp hS hK hE hl
  have hown : s.vm.findClass RL = some m.cls := hown
  have hl : lv_has ls 4 [(0, .ref (f 0)), (1, .int xb), (2, .ref (y 0))] := hl
  refine lv_aload_n hx hb dL_nextEater_0 rfl (lv_at hl 2 rfl) ?_
  refine lv_iconst (v := 0) hx hb dL_nextEater_1 (by decide) ?_
  refine lv_aload_n hx hb dL_nextEater_2 rfl (lv_at hl 0 rfl) ?_
  refine lv_iload_n hx hb dL_nextEater_3 rfl (lv_at hl 1 rfl) ?_
  refine zcVw (ci := 4) (n := 1) (c_X4_nextEater l D g f h u o x O T xb z0 he) hx hb hml hown hts gL_nextEater_X4_nextEater rfl ⟨rfl, by decide, by decide, by decide⟩ ⟨Nat.le_of_ble_eq_true rfl, Nat.le_of_ble_eq_true rfl⟩ ⟨rfl, rfl⟩ hK (zsubB (cs := [zB_X4 f h u o x, zB_X2 (g 0) o O, zB_X3 (g 0) h T]) hP [0, 1, 2] rfl rfl) (zDsubB (cs := [zB_X4 f h u o x, zB_X2 (g 0) o O, zB_X3 (g 0) h T]) hD [0, 1, 2] (by decide) rfl rfl) rfl rfl rfl hS hl.1 rfl rfl (Nat.le_of_ble_eq_true rfl) ⟨Nat.zero_le _, Nat.zero_le _⟩ dL_nextEater_4 (fun H1 locs hP1 hk1 hS => ?_)
  obtain ⟨hP, hD⟩ := zjoinB (cs := [zB_X4 f h u o x, zB_X2 (g 0) o O, zB_X3 (g 0) h T]) (cs' := [zB_X4 f h u o x, zB_X2 (g 0) o ((v_X4_nextEater O T xb).2), zB_X3 (g 0) h T]) hP hD [0, 1, 2] (by decide) rfl (by simp only [zF, List.flatten_cons, List.flatten_nil, List.append_nil, List.map_append, List.map_cons, List.map_nil, zad_X0, zad_X1, zad_X2, zad_X3, zad_X4, zad_X5, zad_XJ, zad_XD]) rfl rfl hk1 hP1
  clear hP1 hk1
  have hP : va_P D vwCl (zF [zB_X4 f h u o x, zB_X2 (g 0) o ((v_X4_nextEater O T xb).2), zB_X3 (g 0) h T, zB_XJ (g 2) y J]) H1 := hP
  have hD : va_D (zA (zF [zB_X4 f h u o x, zB_X2 (g 0) o O, zB_X3 (g 0) h T, zB_XJ (g 2) y J])) (zF [zB_X4 f h u o x, zB_X2 (g 0) o ((v_X4_nextEater O T xb).2), zB_X3 (g 0) h T, zB_XJ (g 2) y J]) := hD
  refine lv_i2l hx hb dL_nextEater_7 rfl ?_
  refine va_last (i := 0) (x := Int32.toInt64 ((v_X4_nextEater O T xb).1)) hx hb hK.1 hP hD hS 16 2 rfl rfl (vp_in_nI (n := 0) (N := 1) (by decide) (by decide)) dL_nextEater_8 (fun H locs hP hD hS => ?_)
  have hP : va_P D vwCl (zF [zB_X4 f h u o x, zB_X2 (g 0) o ((v_X4_nextEater O T xb).2), zB_X3 (g 0) h T, zB_XJ (g 2) y (vp_updL J 0 (Int32.toInt64 ((v_X4_nextEater O T xb).1)))]) H := hP
  have hD : va_D (zA (zF [zB_X4 f h u o x, zB_X2 (g 0) o O, zB_X3 (g 0) h T, zB_XJ (g 2) y J])) (zF [zB_X4 f h u o x, zB_X2 (g 0) o ((v_X4_nextEater O T xb).2), zB_X3 (g 0) h T, zB_XJ (g 2) y (vp_updL J 0 (Int32.toInt64 ((v_X4_nextEater O T xb).1)))]) := hD
  refine lv_goto (tgt := 15) hx hb dL_nextEater_9 (by decide) ?_
  refine lv_iconst (v := 0) hx hb dL_nextEater_15 (by decide) ?_
  refine W.widen (k := 1) (n := 6) (Nat.zero_le _) (Nat.zero_le _) ?_
  exact zretL hx hb hr hlocks dL_nextEater_16 hP hS rfl rfl
set_option maxHeartbeats 400000 in
set_option maxRecDepth 100000 in
theorem t_L_nextEater_0 (l : Launch) (D : va_G) (g : Nat → ClassId) (hp : Nat) (f : Nat → Nat) (h : Nat → Nat) (u : Nat → Nat) (o : Nat → Nat) (x : Nat → Nat) (y : Nat → Nat) (O : Nat → Nat → Int32) (T : Nat → Nat → Int32) (J : Nat → Int64) (xb : Int32) (z0 : ∀ b : Nat, b < 8 → vp_in (T 7 b) 101) (hst : l.stackTraces = false) (he : e_X4_nextEater O T xb = some "java/lang/IndexOutOfBoundsException") : Lw l D (zT g) hp yL_nextEater wsL_nextEater (rmX 8 133) [.ref (f 0), .int xb, .ref (y 0)] (zF [zB_X4 f h u o x, zB_X2 (g 0) o O, zB_X3 (g 0) h T, zB_XJ (g 2) y J]) 1 (zF [zB_X4 f h u o x, zB_X2 (g 0) o O, zB_X3 (g 0) h T, zB_XJ (g 2) y J]) := by
  refine Lw.of (cc := cL_nextEater) (maxL := 4) (ret := some .int) (hh := [(0, 9, 12, 21)]) (by decide) rfl (Nat.le_of_ble_eq_true rfl) ?_
  intro p e s m below meth c ls hx hb hr hml hown hts hlocks htab hP hD hDp hS hK hE hl
  have hown : s.vm.findClass RL = some m.cls := hown
  have hl : lv_has ls 4 [(0, .ref (f 0)), (1, .int xb), (2, .ref (y 0))] := hl
  refine lv_aload_n hx hb dL_nextEater_0 rfl (lv_at hl 2 rfl) ?_
  refine lv_iconst (v := 0) hx hb dL_nextEater_1 (by decide) ?_
  refine lv_aload_n hx hb dL_nextEater_2 rfl (lv_at hl 0 rfl) ?_
  refine lv_iload_n hx hb dL_nextEater_3 rfl (lv_at hl 1 rfl) ?_
  refine zcatV (tgt := 12) (ci := 4) (n := 1) (t_X4_nextEater l D g f h u o x O T xb z0 hst hp _ he) hx hb hml hown hts gL_nextEater_X4_nextEater rfl ⟨rfl, by decide, by decide, by decide⟩ ⟨Nat.le_of_ble_eq_true rfl, Nat.le_of_ble_eq_true rfl⟩ ⟨rfl, rfl⟩ hK (zsubB (cs := [zB_X4 f h u o x, zB_X2 (g 0) o O, zB_X3 (g 0) h T]) hP [0, 1, 2] rfl rfl) (zDsubB (cs := [zB_X4 f h u o x, zB_X2 (g 0) o O, zB_X3 (g 0) h T]) hDp [0, 1, 2] (by decide) rfl rfl) hE rfl rfl rfl hl.1 rfl rfl (Nat.le_of_ble_eq_true rfl) ⟨Nat.le_of_ble_eq_true rfl, Nat.le_of_ble_eq_true rfl⟩ dL_nextEater_4 [] (0, 9, 12, 21) [] htab rfl (show ∀ z ∈ ([] : List ExceptionTableEntry), _ from (fun _ h9 => nomatch h9)) (show ∀ z ∈ ([⟨0, 9, 12, 21⟩] : List ExceptionTableEntry), _ from (List.forall_mem_cons.mpr ⟨⟨by decide, by decide, (List.mem_of_getElem? (i := 1) rfl), rfl⟩, fun _ h9 => nomatch h9⟩)) (by decide +kernel) (fun q9 H1 hz hk1 => ?_)
  have hP : va_P D vwCl (zF [zB_X4 f h u o x, zB_X2 (g 0) o O, zB_X3 (g 0) h T, zB_XJ (g 2) y J]) H1 := fun k q h9 => (hP k q h9).kept (hk1 q.1 (hP k q h9).lt)
  have hS : va_S (zA (zF [zB_X4 f h u o x, zB_X2 (g 0) o O, zB_X3 (g 0) h T, zB_XJ (g 2) y J])) s.heap H1 [] := ⟨hz, fun q h1 _ => hk1 q h1, fun _ h9 => nomatch h9⟩
  refine lv_astore_n (lv' := [(3, .ref q9), (0, .ref (f 0)), (1, .int xb), (2, .ref (y 0))]) hx hb dL_nextEater_12 rfl hl (by decide) rfl (fun ls hl => ?_)
  refine lv_iconst (v := 1) hx hb dL_nextEater_13 (by decide) ?_
  exact zretL hx hb hr hlocks dL_nextEater_14 hP hS rfl rfl
set_option maxHeartbeats 400000 in
set_option maxRecDepth 100000 in
theorem c_L_part (l : Launch) (D : va_G) (g : Nat → ClassId) (hp : Nat) (f : Nat → Nat) (h : Nat → Nat) (u : Nat → Nat) (o : Nat → Nat) (x : Nat → Nat) (y : Nat → Nat) (T : Nat → Nat → Int32) (J : Nat → UInt64) (xb : Int32) (he : e_X4_part T xb = none) : Lw l D (zT g) hp yL_part wsL_part (rmX 8 134) [.ref (f 0), .int xb, .ref (y 0)] (zF [zB_X4 f h u o x, zB_X3 (g 0) h T, zB_XD (g 3) y J]) 0 (zF [zB_X4 f h u o x, zB_X3 (g 0) h T, zB_XD (g 3) y (vf_upd J 0 (v_X4_part T xb))]) := by
  refine Lw.of (cc := cL_part) (maxL := 4) (ret := some .int) (hh := [(0, 8, 11, 21)]) (by decide) rfl (Nat.le_of_ble_eq_true rfl) ?_
  intro p e s m below meth c ls hx hb hr hml hown hts hlocks htab hP hD hDp hS hK hE hl
  have hown : s.vm.findClass RL = some m.cls := hown
  have hl : lv_has ls 4 [(0, .ref (f 0)), (1, .int xb), (2, .ref (y 0))] := hl
  refine lv_aload_n hx hb dL_part_0 rfl (lv_at hl 2 rfl) ?_
  refine lv_iconst (v := 0) hx hb dL_part_1 (by decide) ?_
  refine lv_aload_n hx hb dL_part_2 rfl (lv_at hl 0 rfl) ?_
  refine lv_iload_n hx hb dL_part_3 rfl (lv_at hl 1 rfl) ?_
  refine zcV (ci := 4) (n := 1) (c_X4_part l D g f h u o x T xb he) hx hb hml hown hts gL_part_X4_part rfl ⟨rfl, by decide, by decide, by decide⟩ ⟨Nat.le_of_ble_eq_true rfl, Nat.le_of_ble_eq_true rfl⟩ ⟨rfl, rfl⟩ hK (zsubB (cs := [zB_X4 f h u o x, zB_X3 (g 0) h T]) hP [0, 1] rfl (zF2 _ _)) rfl rfl rfl hl.1 rfl rfl (Nat.le_of_ble_eq_true rfl) ⟨Nat.zero_le _, Nat.zero_le _⟩ dL_part_4 ?_
  refine va_dast (i := 0) (x := v_X4_part T xb) hx hb hK.1 hP hD hS 12 3 rfl rfl (vp_in_nI (n := 0) (N := 1) (by decide) (by decide)) dL_part_7 (fun H locs hP hD hS => ?_)
  have hP : va_P D vwCl (zF [zB_X4 f h u o x, zB_X3 (g 0) h T, zB_XD (g 3) y (vf_upd J 0 (v_X4_part T xb))]) H := hP
  have hD : va_D (zA (zF [zB_X4 f h u o x, zB_X3 (g 0) h T, zB_XD (g 3) y J])) (zF [zB_X4 f h u o x, zB_X3 (g 0) h T, zB_XD (g 3) y (vf_upd J 0 (v_X4_part T xb))]) := hD
  refine lv_goto (tgt := 14) hx hb dL_part_8 (by decide) ?_
  refine lv_iconst (v := 0) hx hb dL_part_14 (by decide) ?_
  refine W.widen (k := 1) (n := 6) (Nat.zero_le _) (Nat.zero_le _) ?_
  exact zretL hx hb hr hlocks dL_part_15 hP hS rfl rfl
set_option maxHeartbeats 400000 in
set_option maxRecDepth 100000 in
theorem t_L_part_0 (l : Launch) (D : va_G) (g : Nat → ClassId) (hp : Nat) (f : Nat → Nat) (h : Nat → Nat) (u : Nat → Nat) (o : Nat → Nat) (x : Nat → Nat) (y : Nat → Nat) (T : Nat → Nat → Int32) (J : Nat → UInt64) (xb : Int32) (hst : l.stackTraces = false) (he : e_X4_part T xb = some "java/lang/IndexOutOfBoundsException") : Lw l D (zT g) hp yL_part wsL_part (rmX 8 134) [.ref (f 0), .int xb, .ref (y 0)] (zF [zB_X4 f h u o x, zB_X3 (g 0) h T, zB_XD (g 3) y J]) 1 (zF [zB_X4 f h u o x, zB_X3 (g 0) h T, zB_XD (g 3) y J]) := by
  refine Lw.of (cc := cL_part) (maxL := 4) (ret := some .int) (hh := [(0, 8, 11, 21)]) (by decide) rfl (Nat.le_of_ble_eq_true rfl) ?_
  intro p e s m below meth c ls hx hb hr hml hown hts hlocks htab hP hD hDp hS hK hE hl
  have hown : s.vm.findClass RL = some m.cls := hown
  have hl : lv_has ls 4 [(0, .ref (f 0)), (1, .int xb), (2, .ref (y 0))] := hl
  refine lv_aload_n hx hb dL_part_0 rfl (lv_at hl 2 rfl) ?_
  refine lv_iconst (v := 0) hx hb dL_part_1 (by decide) ?_
  refine lv_aload_n hx hb dL_part_2 rfl (lv_at hl 0 rfl) ?_
  refine lv_iload_n hx hb dL_part_3 rfl (lv_at hl 1 rfl) ?_
  refine zcatV (tgt := 11) (ci := 4) (n := 1) (t_X4_part l D g f h u o x T xb hst hp _ he) hx hb hml hown hts gL_part_X4_part rfl ⟨rfl, by decide, by decide, by decide⟩ ⟨Nat.le_of_ble_eq_true rfl, Nat.le_of_ble_eq_true rfl⟩ ⟨rfl, rfl⟩ hK (zsubB (cs := [zB_X4 f h u o x, zB_X3 (g 0) h T]) hP [0, 1] rfl (zF2 _ _)) (zDsubB (cs := [zB_X4 f h u o x, zB_X3 (g 0) h T]) hDp [0, 1] (by decide) rfl (zF2 _ _)) hE rfl rfl rfl hl.1 rfl rfl (Nat.le_of_ble_eq_true rfl) ⟨Nat.le_of_ble_eq_true rfl, Nat.le_of_ble_eq_true rfl⟩ dL_part_4 [] (0, 8, 11, 21) [] htab rfl (show ∀ z ∈ ([] : List ExceptionTableEntry), _ from (fun _ h9 => nomatch h9)) (show ∀ z ∈ ([⟨0, 8, 11, 21⟩] : List ExceptionTableEntry), _ from (List.forall_mem_cons.mpr ⟨⟨by decide, by decide, (List.mem_of_getElem? (i := 1) rfl), rfl⟩, fun _ h9 => nomatch h9⟩)) (by decide +kernel) (fun q9 H1 hz hk1 => ?_)
  have hP : va_P D vwCl (zF [zB_X4 f h u o x, zB_X3 (g 0) h T, zB_XD (g 3) y J]) H1 := fun k q h9 => (hP k q h9).kept (hk1 q.1 (hP k q h9).lt)
  have hS : va_S (zA (zF [zB_X4 f h u o x, zB_X3 (g 0) h T, zB_XD (g 3) y J])) s.heap H1 [] := ⟨hz, fun q h1 _ => hk1 q h1, fun _ h9 => nomatch h9⟩
  refine lv_astore_n (lv' := [(3, .ref q9), (0, .ref (f 0)), (1, .int xb), (2, .ref (y 0))]) hx hb dL_part_11 rfl hl (by decide) rfl (fun ls hl => ?_)
  refine lv_iconst (v := 1) hx hb dL_part_12 (by decide) ?_
  exact zretL hx hb hr hlocks dL_part_13 hP hS rfl rfl
