section ZLH
variable {p : Program} {l : Launch} {e : Env} {R : Room} {s : State} {m : MethodId} {args : Array Value} {below : List Frame} {meth : Method} {c : Code} {H H0 : Heap} {locs : List Loc} {cells slots : Nat} {Q : State → Prop} {pc : Nat} {ls : Array Slot} {rest st0 : List Value} {cc : ByteArray} {A : Nat → Prop}
theorem zcatchH {D : va_G} {wcc wcc' : va_W} {E name own : String} {aa : Array Value} (hr : vx_Run p l e R s m args below meth c H locs cells slots 1 6 (F0 m pc ls st0) rest (zNo aa) (zXX D wcc E wcc') (zA wcc)) (hS : va_S A H0 H locs) (hAc : ∀ q, zA wcc q → A q) (hown : s.vm.findClass own = some m.cls) (pre : List ExceptionTableEntry) (x : ExceptionTableEntry) (suf : List ExceptionTableEntry) (hsplit : c.exceptionTable.toList = pre ++ x :: suf)
    (hpass : ∀ z ∈ pre, covers z pc = false ∨ (z.catchType ≠ 0 ∧ ∃ nm : String, (Cond.classLink own z.catchType nm).before args s = true ∧ va_Nc E nm s)) (hx : covers x pc = true) (h0 : x.catchType ≠ 0)
    (hlink : (Cond.classLink own x.catchType name).before args s = true) (hcast : (Cond.castable E name).before args s = true)
    (kk : ∀ (q : Nat) (H1 : Heap) (locs1 : List Loc), va_P D vwCl wcc' H1 → (∀ q : Nat, q < H.size → ¬ zA wcc q → H1[q]? = H[q]?) → va_S A H0 H1 locs1 → W p l e R s m args below meth c H1 locs1 (cells + 1) (slots + 6) Q (F0 m x.handlerPc ls [.ref q])) : W p l e R s m args below meth c H locs cells slots Q (F0 m pc ls st0) := by
  intro T hT X
  rcases hr T hT X with ⟨v, st₀, t, T', L, h0, X', hL, e1, e2, hF, st⟩ | ⟨q, st₀, t, T', L, E', ce, h9, X', hL, e1, e2, ⟨hE, hP1, hF⟩, hce, hcv, hcl, st⟩
  · exact hF.elim
  · subst hE
    obtain ⟨k1, k2, k3⟩ := vx_keep h9 e1 hS (fun q _ h => hAc q h) hAc hL hF
    obtain ⟨t2, a1, b1⟩ := vx_catch (H := T'.heap) (Q := Q) (rest := rest) (ls := ls) hown pre x suf hsplit hpass hx h0 hlink hcast (by rw [e1]; exact hce) hcv hcl (kk q T'.heap _ (by rw [e1]; exact hP1) k2 k3) T' rfl X'
    exact ⟨t2, st.trans a1, b1⟩
theorem zcatVH {D : va_G} {tys : List (ClassId × FieldType)} {hp : Nat} {y : MethodName} {ws : List Cond} {rm : Room} {wc wc' : va_W} {E : String} {Ts ws' : List Cond} {own C : String} {b : Nat} {As : List Value} {nL n index maxL ci : Nat} {bytes : ByteArray} {ret : Option FieldType} {fs : List Value} {q : vw_C} {tgt : Nat} {hh : List (Nat × Nat × Nat × Nat)}
    (hM : Tx l D tys hp y ws rm (.ref b :: As) wc E wc') (hexec : p.tables.exec = Jvm.exec) (hb : c.code = cc) (hml : c.maxLocals = nL) (hown : s.vm.findClass own = some m.cls) (hts : ∀ w ∈ Ts, w.before args s = true)
    (hG : GoodIn Ts (wsV own index C y ws)) (hw : ws = Cond.code y bytes maxL ret :: ws') (hd : y.cls = C ∧ y.cls ≠ "java/lang/invoke/MethodHandle" ∧ y.cls ≠ "java/lang/invoke/VarHandle" ∧ (parseMethodDescriptor y.desc).map (fun d => d.parameters.length) = some n)
    (hR : rm.frames + 1 ≤ R.frames ∧ 8 + (maxL + 11) + rm.locals ≤ R.locals) (hrc : rm.cells = 1 ∧ rm.slots = 6)
    (hK : zK D tys s) (hP : va_P D vwCl wc s.heap) (hD : va_D (fun q => hp ≤ q) wc) (hDA : va_D A wc) (hS : va_S A s.heap s.heap []) (hE : zE hp s) (he : wc[0]? = some (b, .inr (ci, fs))) (hc : vwCl[ci]? = some q) (hq : q.1 = C)
    (hl : ls.size = nL) (hn : As.length = n) (hst : st0 = As.reverse ++ .ref b :: rest) (hcat : (rest.map fun v => v.category).sum ≤ 8) (hf : 0 + 1 ≤ R.cells ∧ 0 + 6 ≤ R.slots) (hdg : decode cc pc = .ok (.invokevirtual index, 3))
    (pre : List (Nat × Nat × Nat × Nat)) (x : Nat × Nat × Nat × Nat) (suf : List (Nat × Nat × Nat × Nat)) (htab : c.exceptionTable.toList = tableOf hh) (hsplit : hh = pre ++ x :: suf)
    (hpass : ∀ z ∈ tableOf pre, covers z pc = false ∨ (z.catchType ≠ 0 ∧ ∃ nm : String, Cond.classLink own z.catchType nm ∈ Ts ∧ (E, nm) ∈ zNots)) (hx : ∀ z ∈ tableOf [x], covers z pc = true ∧ z.catchType ≠ 0 ∧ Cond.classLink own z.catchType E ∈ Ts ∧ z.handlerPc = tgt) (hca : E ∈ zCls)
    (kk : ∀ (q : Nat) (H1 : Heap) (locs1 : List Loc), va_P D vwCl wc' H1 → (∀ q : Nat, q < s.heap.size → ¬ zA wc q → H1[q]? = s.heap[q]?) → va_S A s.heap H1 locs1 → W p l e R s m args below meth c H1 locs1 1 6 Q (F0 m tgt ls [.ref q])) : W p l e R s m args below meth c s.heap [] 0 0 Q (F0 m pc ls st0) := by
  obtain ⟨z, hz⟩ : ∃ z, tableOf [x] = [z] := ⟨_, rfl⟩
  obtain ⟨x1, x2, x3, x4⟩ := hx z (by rw [hz]; exact List.mem_cons_self)
  refine zcatchH (E := E) (name := E) (vx_runV (As := As) (rest := rest) ⟨hexec, hb, hml, hown, hts⟩ hM (cwV n hts hG hw hrc.1 hrc.2 hd hR) ⟨zPreX_blind, ?_, fun U hU hW => ⟨⟨rfl, by rw [hU]; exact hP, zK.warm hW hK⟩, hD, zE.moved hW (fun a _ _ => by rw [hU]) hE⟩⟩ rfl hn hl hst (lv_room hcat) hdg hf) hS (fun q ⟨k9, e9, h9⟩ => hDA.2 k9 _ h9) hown (tableOf pre) z (tableOf suf) ?_
    (fun z hz => (hpass z hz).imp id (fun ⟨a1, nm, a2, a3⟩ => ⟨a1, nm, hts _ a2, hE.2.1 _ a3⟩)) x1 x2 (hts _ x3) (va_Nw.use rfl (hE.1.1 E hca)) (by rw [x4]; exact kk)
  · obtain ⟨cell, h1, h2, h3⟩ := va_recv hK.1 hP hc he
    exact ⟨cell, h1, h2, by rw [← hq]; exact h3⟩
  · rw [htab, hsplit]
    show tableOf (pre ++ ([x] ++ suf)) = tableOf pre ++ ([z] ++ tableOf suf)
    rw [← hz]; exact (List.map_append).trans (congrArg _ List.map_append)
end ZLH
set_option maxHeartbeats 400000 in
set_option maxRecDepth 100000 in
theorem t_L_run_0 (l : Launch) (D : va_G) (g : Nat → ClassId) (hp : Nat) (f : Nat → Nat) (h : Nat → Nat) (u : Nat → Nat) (o : Nat → Nat) (x : Nat → Nat) (t0 : Nat → Nat) (t1 : Nat → Nat) (t2 : Nat → Nat) (t3 : Nat → Nat) (t4 : Nat → Nat) (t5 : Nat → Nat) (y : Nat → Nat) (Z : Nat → Nat → Int32) (T0 : Nat → Nat → Int32) (T1 : Nat → Nat → Int32) (T2 : Nat → Nat → Int32) (T3 : Nat → Nat → Int32) (T4 : Nat → Nat → Int32) (T5 : Nat → Nat → Int32) (T : Nat → Nat → Int32) (X : Nat → Nat → Int32) (J : Nat → Int64) (z0 : vp_in (Z 0 0) 7) (z1 : vp_in (Z 1 0) 6) (hst : l.stackTraces = false) (he : e_X4_run Z T0 T1 T2 T3 T4 T5 T X = some "java/lang/IllegalArgumentException") : Lw l D (zT g) hp yL_run wsL_run (rmX 7 156) [.ref (f 0), .ref (y 0)] (zF [zB_X4 f h u o x, zB_X1 (g 1) u t0 t1 t2 t3 t4 t5 Z, zB_X3 (g 0) t0 T0, zB_X3 (g 0) t1 T1, zB_X3 (g 0) t2 T2, zB_X3 (g 0) t3 T3, zB_X3 (g 0) t4 T4, zB_X3 (g 0) t5 T5, zB_X3 (g 0) h T, zB_X0 (g 0) x X, zB_XJ (g 2) y J]) 1 (zF [zB_X4 f h u o x, zB_X1 (g 1) u t0 t1 t2 t3 t4 t5 Z, zB_X3 (g 0) t0 T0, zB_X3 (g 0) t1 T1, zB_X3 (g 0) t2 T2, zB_X3 (g 0) t3 T3, zB_X3 (g 0) t4 T4, zB_X3 (g 0) t5 T5, zB_X3 (g 0) h T, zB_X0 (g 0) x ((v_X0_isComplete X).2), zB_XJ (g 2) y J]) := by
  refine Lw.of (cc := cL_run) (maxL := 3) (ret := some .int) (hh := [(0, 8, 11, 13)]) (by decide) rfl (Nat.le_of_ble_eq_true rfl) ?_
  intro p e s m below meth c ls hx hb hr hml hown hts hlocks htab hP hD hDp hS hK hE hl
  have hown : s.vm.findClass RL = some m.cls := hown
  have hl : lv_has ls 3 [(0, .ref (f 0)), (1, .ref (y 0))] := hl
  refine lv_aload_n hx hb dL_run_0 rfl (lv_at hl 1 rfl) ?_
  refine lv_iconst (v := 0) hx hb dL_run_1 (by decide) ?_
  refine lv_aload_n hx hb dL_run_2 rfl (lv_at hl 0 rfl) ?_
  refine zcatVH (tgt := 11) (ci := 4) (n := 0) (t_X4_run l D g f h u o x t0 t1 t2 t3 t4 t5 Z T0 T1 T2 T3 T4 T5 T X z0 z1 hst hp _ he) hx hb hml hown hts gL_run_X4_run rfl ⟨rfl, by decide, by decide, by decide⟩ ⟨Nat.le_of_ble_eq_true rfl, Nat.le_of_ble_eq_true rfl⟩ ⟨rfl, rfl⟩ hK (zsubB (cs := [zB_X4 f h u o x, zB_X1 (g 1) u t0 t1 t2 t3 t4 t5 Z, zB_X3 (g 0) t0 T0, zB_X3 (g 0) t1 T1, zB_X3 (g 0) t2 T2, zB_X3 (g 0) t3 T3, zB_X3 (g 0) t4 T4, zB_X3 (g 0) t5 T5, zB_X3 (g 0) h T, zB_X0 (g 0) x X]) hP [0, 1, 2, 3, 4, 5, 6, 7, 8, 9] rfl rfl) (zDsubB (cs := [zB_X4 f h u o x, zB_X1 (g 1) u t0 t1 t2 t3 t4 t5 Z, zB_X3 (g 0) t0 T0, zB_X3 (g 0) t1 T1, zB_X3 (g 0) t2 T2, zB_X3 (g 0) t3 T3, zB_X3 (g 0) t4 T4, zB_X3 (g 0) t5 T5, zB_X3 (g 0) h T, zB_X0 (g 0) x X]) hDp [0, 1, 2, 3, 4, 5, 6, 7, 8, 9] (by decide) rfl rfl) (zDsubB (cs := [zB_X4 f h u o x, zB_X1 (g 1) u t0 t1 t2 t3 t4 t5 Z, zB_X3 (g 0) t0 T0, zB_X3 (g 0) t1 T1, zB_X3 (g 0) t2 T2, zB_X3 (g 0) t3 T3, zB_X3 (g 0) t4 T4, zB_X3 (g 0) t5 T5, zB_X3 (g 0) h T, zB_X0 (g 0) x X]) hD [0, 1, 2, 3, 4, 5, 6, 7, 8, 9] (by decide) rfl rfl) hS hE rfl rfl rfl hl.1 rfl rfl (Nat.le_of_ble_eq_true rfl) ⟨Nat.le_of_ble_eq_true rfl, Nat.le_of_ble_eq_true rfl⟩ dL_run_3 [] (0, 8, 11, 13) [] htab rfl (show ∀ z ∈ ([] : List ExceptionTableEntry), _ from (fun _ h9 => nomatch h9)) (show ∀ z ∈ ([⟨0, 8, 11, 13⟩] : List ExceptionTableEntry), _ from (List.forall_mem_cons.mpr ⟨⟨by decide, by decide, (List.mem_of_getElem? (i := 1) rfl), rfl⟩, fun _ h9 => nomatch h9⟩)) (by decide +kernel) (fun q9 H1 locs1 hP1 hk1 hS => ?_)
  obtain ⟨hP, hD⟩ := zjoinB (cs := [zB_X4 f h u o x, zB_X1 (g 1) u t0 t1 t2 t3 t4 t5 Z, zB_X3 (g 0) t0 T0, zB_X3 (g 0) t1 T1, zB_X3 (g 0) t2 T2, zB_X3 (g 0) t3 T3, zB_X3 (g 0) t4 T4, zB_X3 (g 0) t5 T5, zB_X3 (g 0) h T, zB_X0 (g 0) x X]) (cs' := [zB_X4 f h u o x, zB_X1 (g 1) u t0 t1 t2 t3 t4 t5 Z, zB_X3 (g 0) t0 T0, zB_X3 (g 0) t1 T1, zB_X3 (g 0) t2 T2, zB_X3 (g 0) t3 T3, zB_X3 (g 0) t4 T4, zB_X3 (g 0) t5 T5, zB_X3 (g 0) h T, zB_X0 (g 0) x ((v_X0_isComplete X).2)]) hP hD [0, 1, 2, 3, 4, 5, 6, 7, 8, 9] (by decide) rfl (by simp only [zF, List.flatten_cons, List.flatten_nil, List.append_nil, List.map_append, List.map_cons, List.map_nil, zad_X0, zad_X1, zad_X2, zad_X3, zad_X4, zad_X5, zad_XJ, zad_XD]) rfl rfl hk1 hP1
  clear hP1 hk1
  have hP : va_P D vwCl (zF [zB_X4 f h u o x, zB_X1 (g 1) u t0 t1 t2 t3 t4 t5 Z, zB_X3 (g 0) t0 T0, zB_X3 (g 0) t1 T1, zB_X3 (g 0) t2 T2, zB_X3 (g 0) t3 T3, zB_X3 (g 0) t4 T4, zB_X3 (g 0) t5 T5, zB_X3 (g 0) h T, zB_X0 (g 0) x ((v_X0_isComplete X).2), zB_XJ (g 2) y J]) H1 := hP
  refine lv_astore_n (lv' := [(2, .ref q9), (0, .ref (f 0)), (1, .ref (y 0))]) hx hb dL_run_11 rfl hl (by decide) rfl (fun ls hl => ?_)
  refine lv_iconst (v := 1) hx hb dL_run_12 (by decide) ?_
  exact zretL hx hb hr hlocks dL_run_13 hP hS rfl rfl
