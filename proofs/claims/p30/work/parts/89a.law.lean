/-! the law's cell of its script, and its loop -/
def v_L_cell (L : Nat) (xs : Nat → Int32) (k : Nat) : Int32 := if L ≤ k then 1540483477 * (nI k + 199) else xs k
def zPreS (b L : Nat) (xs : Nat → Int32) (av : List Value) : Array Value → State → Prop := fun a U => a = av.toArray ∧ va_X b L xs U U.heap
theorem zPreS_blind {b L : Nat} {xs : Nat → Int32} {av : List Value} : FrameBlind (zPreS b L xs av) := fun _ U g mk q => ⟨q.1, va_X.moved (u := U) (U := U.calling g mk _) (Vm.Alike.refl U.vm) q.2⟩
theorem MetS_of {l : Launch} {y : MethodName} {ws ws' : List Cond} {rm : Room} {av : List Value} {b L : Nat} {xs : Nat → Int32} {v : Value} {cc : ByteArray} {maxL : Nat} {ret : Option FieldType}
    (hy : plainName y.cls = true) (hw : ws = Cond.code y cc maxL ret :: ws') (hlen : (lg_sl av).length ≤ maxL)
    (body : ∀ p e s m below meth c ls, p.tables.exec = Jvm.exec → c.code = cc → meth.sig.returnType = ret → c.maxLocals = maxL → s.vm.findClass y.cls = some m.cls → (∀ w ∈ ws, w.before av.toArray s = true) → meth.locks = false →
      va_X b L xs s s.heap → lv_has ls maxL (lv_args 0 av) →
      W p l e rm s m av.toArray below meth c s.heap [] 0 0 (MQ below (zQ v) av.toArray s 0 0 (fun _ => False)) (F0 m 0 ls [])) : Met l y ws rm (zPreS b L xs av) (zQ v) 0 0 (fun _ => False) := by
  refine Met.ofW (cc := cc) (maxL := maxL) (ret := ret) hy hw ?_
  intro p e s m args below meth c s₁ B hml hv
  obtain ⟨rfl, hX⟩ := hv
  rw [lg_entry_eq]
  exact body p e s m below meth c _ B.exec B.bytes B.returns hml (findClass_of_methodNamed B.named) (atoms_spec (ws := ws) B.pre) B.notSynchronized hX (lv_entry av hlen)
theorem c_L_cell (l : Launch) (b L : Nat) (xs : Nat → Int32) (k : Nat) (hk : k < 1000) (hL : L ≤ 260) : Met l yL_cell wsL_cell (rmOf 0 0) (zPreS b L xs [.ref b, .int (nI k)]) (zQ (.int (v_L_cell L xs k))) 0 0 (fun _ => False) := by
  refine MetS_of (cc := cL_cell) (maxL := 2) (ret := (some .int)) (by decide) rfl (Nat.le_of_ble_eq_true rfl) ?_
  intro p e s m below meth c ls hx hb hr hml hown hts hlocks hX hl
  have hown : s.vm.findClass RL = some m.cls := hown
  have hl : lv_has ls 2 [(0, .ref b), (1, .int (nI k))] := hl
  have hS : va_S (fun _ => False) s.heap s.heap [] := va_S.rf
  have hbl : b < s.heap.size := by
    obtain ⟨scr, h1, _⟩ := hX
    exact (Array.getElem?_eq_some_iff.mp h1).1
  refine lv_iload_n hx hb dL_cell_0 rfl (lv_at hl 1 rfl) ?_
  refine lv_aload_n hx hb dL_cell_1 rfl (lv_at hl 0 rfl) ?_
  refine va_slen hx hb hX hbl (fun z => z) hS dL_cell_2 ?_
  refine lv_icmp_ge (tgt := 12) hx hb dL_cell_3 (by decide) (fun c9 => ?_) (fun c9 => ?_)
  · have c9 : L ≤ k := (zlei (by omega) (by omega)).mp c9
    refine lv_ldc (v := 1540483477) hx hb hown (hts (.constant RL 7 (1540483477)) (List.mem_of_getElem? (i := 1) rfl)) dL_cell_12 ?_
    refine lv_iload_n hx hb dL_cell_14 rfl (lv_at hl 1 rfl) ?_
    refine lv_sipush (v := 199) hx hb dL_cell_15 (by decide) ?_
    refine lv_iadd hx hb dL_cell_18 ?_
    refine lv_imul hx hb dL_cell_19 ?_
    exact zret_i hx hb hr hlocks dL_cell_20 (by unfold v_L_cell; rw [if_pos c9])
  · have c9 : ¬ L ≤ k := fun h9 => c9 ((zlei (by omega) (by omega)).mpr h9)
    refine lv_aload_n hx hb dL_cell_6 rfl (lv_at hl 0 rfl) ?_
    refine lv_iload_n hx hb dL_cell_7 rfl (lv_at hl 1 rfl) ?_
    refine va_sld hx hb hX hbl (fun z => z) hS (vp_in_nI (by omega) (by omega)) dL_cell_8 ?_
    refine lv_goto (tgt := 20) hx hb dL_cell_9 (by decide) ?_
    exact zret_i hx hb hr hlocks dL_cell_20 (by unfold v_L_cell; rw [if_neg c9, nI_clamp (by omega)])
section ZLX
variable {p : Program} {l : Launch} {e : Env} {R : Room} {s : State} {m : MethodId} {args : Array Value} {below : List Frame} {meth : Method} {c : Code} {H : Heap} {locs : List Loc} {cells slots : Nat} {Q : State → Prop} {pc : Nat} {ls : Array Slot} {rest st0 : List Value} {cc : ByteArray} {A : Nat → Prop}
theorem zcCell {b L : Nat} {xs : Nat → Int32} {y : MethodName} {ws : List Cond} {rm : Room} {v : Value} {Ts ws' : List Cond} {own : String} {As : List Value} {nL n index maxL : Nat} {bytes : ByteArray} {ret : Option FieldType}
    (hM : Met l y ws rm (zPreS b L xs As) (zQ v) 0 0 (fun _ => False)) (hexec : p.tables.exec = Jvm.exec) (hb : c.code = cc) (hml : c.maxLocals = nL) (hown : s.vm.findClass own = some m.cls) (hts : ∀ w ∈ Ts, w.before args s = true)
    (hG : GoodIn Ts (va_wsS own index y ws)) (hw : ws = Cond.code y bytes maxL ret :: ws') (hd : y.cls ≠ "java/lang/invoke/MethodHandle" ∧ y.cls ≠ "java/lang/invoke/VarHandle" ∧ (parseMethodDescriptor y.desc).map (fun d => d.parameters.length) = some n)
    (hR : rm.frames + 1 ≤ R.frames ∧ 8 + (maxL + 11) + rm.locals ≤ R.locals) (hrc : rm.cells = 0 ∧ rm.slots = 0)
    (hX : va_X b L xs s s.heap) (hbl : b < s.heap.size) (hbA : ¬ A b) (hS : va_S A s.heap H locs)
    (hl : ls.size = nL) (hn : As.length = n) (hst : st0 = As.reverse ++ rest) (hcat : (rest.map fun v => v.category).sum ≤ 8) (hf : cells ≤ R.cells ∧ slots ≤ R.slots) (hdg : decode cc pc = .ok (.invokestatic index, 3))
    (k : W p l e R s m args below meth c H locs cells slots Q (F0 m (pc + 3) ls (v :: rest))) : W p l e R s m args below meth c H locs cells slots Q (F0 m pc ls st0) :=
  zcall (va_runS (As := As) (rest := rest) ⟨hexec, hb, hml, hown, hts⟩ hM (va_cwS n hts hG hw hrc.1 hrc.2 hd hR) ⟨zPreS_blind, fun U hU hW => ⟨rfl, by rw [hU]; exact (hX.kept (hS.2.1 b hbl hbA)).moved hW.alike⟩⟩ rfl hn hl hst (lv_room hcat) hdg hf) k
theorem z_newL {D : va_G} {tys : List (ClassId × FieldType)} {ws : va_W} {H0 : Heap} (hexec : p.tables.exec = Jvm.exec) (hb : c.code = cc) (harr : (Cond.arrayClass .long).before args s = true) (hK : zK D tys s) (hP : va_P D vwCl ws H) (hD : va_D A ws) (hS : va_S A H0 H locs) (hA : ∀ q, H0.size ≤ q → A q) (t0 : Nat) {cI : ClassId} (ht : tys[t0]? = some (cI, .long))
    {n : Int32} {N : Nat} (hn : n = nI N) (hN : N < 10000) (hcells : cells + 1 ≤ R.cells) (hslots : slots + N ≤ R.slots) (hdg : decode cc pc = .ok (.newarray .long, 2))
    (kk : ∀ (q : Nat) (H1 : Heap), va_P D vwCl (ws ++ [(q, .inl (cI, N, .inr (.inl (fun _ => 0))))]) H1 → va_D A (ws ++ [(q, .inl (cI, N, .inr (.inl (fun _ => 0))))]) → va_S A H0 H1 locs → W p l e R s m args below meth c H1 locs (cells + 1) (slots + N) Q (F0 m (pc + 2) ls (.ref q :: rest))) : W p l e R s m args below meth c H locs cells slots Q (F0 m pc ls (.int n :: rest)) := by
  subst hn
  refine va_newa (atype := .long) (ty := .long) (a0 := (N, .inr (.inl (fun _ => 0)))) (N' := N) hexec hb harr rfl hK.1 hP hD hS hA (fun cA => rfl) (nI_pos (by omega)) (nI_clamp (by omega)) (by show N * 8 ≤ 536870912; omega) hcells hslots hdg (fun q cA H1 hK1 hP1 hD1 hS1 => ?_)
  have e1 : s.vm.findClass ("[" ++ FieldType.long.toString) = some cA := (hK1.2 tys.length (cA, .long) (by rw [List.getElem?_append_right (Nat.le_refl _), Nat.sub_self]; rfl)).2
  have e2 : s.vm.findClass ("[" ++ FieldType.long.toString) = some cI := (hK.1.2 t0 _ ht).2
  cases Option.some.inj (e1.symm.trans e2)
  exact kk q H1 hP1 hD1 hS1
end ZLX
abbrev zWp (g : Nat → ClassId) (f h u o x t0 t1 t2 t3 t4 t5 yi yq : Nat → Nat) (Z T0 T1 T2 T3 T4 T5 T O I : Nat → Nat → Int32) (Q : Nat → Nat → Int64) : List va_W := [zB_X4 f h u o x, zB_X1 (g 1) u t0 t1 t2 t3 t4 t5 Z, zB_X3 (g 0) t0 T0, zB_X3 (g 0) t1 T1, zB_X3 (g 0) t2 T2, zB_X3 (g 0) t3 T3, zB_X3 (g 0) t4 T4, zB_X3 (g 0) t5 T5, zB_X3 (g 0) h T, zB_X2 (g 0) o O, zB_LI (g 0) yi I, zB_LQ (g 2) yq Q]
theorem zad_Wp (g : Nat → ClassId) (f h u o x t0 t1 t2 t3 t4 t5 yi yq : Nat → Nat) (Z T0 T1 T2 T3 T4 T5 T O I Z' U0 U1 U2 U3 U4 U5 T' O' I' : Nat → Nat → Int32) (Q Q' : Nat → Nat → Int64) : (zF (zWp g f h u o x t0 t1 t2 t3 t4 t5 yi yq Z' U0 U1 U2 U3 U4 U5 T' O' I' Q')).map Prod.fst = (zF (zWp g f h u o x t0 t1 t2 t3 t4 t5 yi yq Z T0 T1 T2 T3 T4 T5 T O I Q)).map Prod.fst := by
  simp only [zWp, zF, List.flatten_cons, List.flatten_nil, List.append_nil, List.map_append, List.map_cons, List.map_nil, zad_X0, zad_X1, zad_X2, zad_X3, zad_X4, zad_LI, zad_LQ]
