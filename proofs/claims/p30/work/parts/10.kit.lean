/-! the rows of this claim's own: contracts of methods that only read, and how they are called; ints that are numbers, ints that are truth values -/
/-- the links between nest mates, which the tables' words can't carry -/
def zNw : List Cond := [.methodLinkNest RX3 68 yX4_isGroup "SaltShares", .methodLinkNest RX3 125 yX4_bucketBy "SaltShares", .methodLinkNest RX2 74 yX4_bucketBy "SaltShares", .methodLinkNest RX2 58 yX4_isGroup "SaltShares", .methodLinkNest RX4 32 yX0_init "SaltShares", .methodLinkNest RX4 25 yX2_init "SaltShares"]
/-- what the machine's tables say, the same all along -/
def zK (D : va_G) (tys : List (ClassId × FieldType)) (U : State) : Prop := va_K D vwCl tys U ∧ ∀ w ∈ zNw, va_Nw w U
theorem zNw_tab : ∀ w ∈ zNw, w.onTables = true := by decide +kernel
theorem zK.same {D : va_G} {tys : List (ClassId × FieldType)} {u U : State} (h : u.vm = U.vm) (k : zK D tys u) : zK D tys U :=
  ⟨va_K.moved (by rw [h]; exact Vm.Alike.refl U.vm) k.1, fun w hw => va_Nw.same (zNw_tab w hw) h (k.2 w hw)⟩
theorem zK.warm {D : va_G} {tys : List (ClassId × FieldType)} {s U : State} (hW : s.WarmedH U.vm) (k : zK D tys s) : zK D tys U := by
  refine ⟨va_K.moved hW.alike k.1, fun w hw => ?_⟩
  have h := k.2 w hw
  simp only [zNw, List.mem_cons, List.not_mem_nil, or_false] at hw
  rcases hw with rfl | rfl | rfl | rfl | rfl | rfl <;> exact va_Nw.warmM hW h
theorem zK.calling {D : va_G} {tys : List (ClassId × FieldType)} {U : State} {g : JFrame} {mk : MethodId} {a : Array Value} (k : zK D tys U) : zK D tys (U.calling g mk a) := zK.same (u := U) (U := U.calling g mk a) rfl k
/-- a truth value as an int -/
def bI (b : Bool) : Int32 := if b then 1 else 0
theorem bI_0 (b : Bool) : bI b = 0 ↔ b = false := by cases b <;> decide
theorem bI_nar (b : Bool) : narrow .boolean (.int (bI b)) = .int (bI b) := by cases b <;> decide
theorem zif_f {α : Sort _} {q : Bool} {a b : α} (h : q = false) : (if q = true then a else b) = b := by subst h; rfl
theorem zif_t {α : Sort _} {q : Bool} {a b : α} (h : q = true) : (if q = true then a else b) = a := by subst h; rfl
/-- the end of a method that only reads -/
def zQ (v : Value) : Array Value → State → Outcome → State → Prop := fun _ st o t => o = .returned (some v) ∧ t.heap = st.heap
def zPre (D : va_G) (tys : List (ClassId × FieldType)) (av : List Value) (wc : va_W) : Array Value → State → Prop := fun a U => a = av.toArray ∧ va_P D vwCl wc U.heap ∧ zK D tys U
theorem zPre_blind {D : va_G} {tys : List (ClassId × FieldType)} {av : List Value} {wc : va_W} : FrameBlind (zPre D tys av wc) := fun _ _ _ _ q => ⟨q.1, q.2.1, zK.calling q.2.2⟩
/-- a method that only reads: any heap that holds the cells wc; it returns v; nothing changes -/
def Rd (l : Launch) (D : va_G) (tys : List (ClassId × FieldType)) (y : MethodName) (ws : List Cond) (rm : Room) (av : List Value) (wc : va_W) (v : Value) : Prop :=
  Met l y ws rm (zPre D tys av wc) (zQ v) 0 0 (fun _ => False)
abbrev rmOf (f n : Nat) : Room := { frames := f, cells := 0, slots := 0, locals := n }
theorem Rd.of {l : Launch} {D : va_G} {tys : List (ClassId × FieldType)} {y : MethodName} {ws ws' : List Cond} {rm : Room} {av : List Value} {wc : va_W} {v : Value} {cc : ByteArray} {maxL : Nat} {ret : Option FieldType}
    (hy : plainName y.cls = true) (hw : ws = Cond.code y cc maxL ret :: ws') (hlen : (lg_sl av).length ≤ maxL)
    (body : ∀ p e s m below meth c ls, p.tables.exec = Jvm.exec → c.code = cc → meth.sig.returnType = ret → c.maxLocals = maxL → s.vm.findClass y.cls = some m.cls → (∀ w ∈ ws, w.before av.toArray s = true) → meth.locks = false →
      va_P D vwCl wc s.heap → zK D tys s → lv_has ls maxL (lv_args 0 av) →
      W p l e rm s m av.toArray below meth c s.heap [] 0 0 (MQ below (zQ v) av.toArray s 0 0 (fun _ => False)) (F0 m 0 ls [])) : Rd l D tys y ws rm av wc v := by
  refine Met.ofW (cc := cc) (maxL := maxL) (ret := ret) hy hw ?_
  intro p e s m args below meth c s₁ B hml hv
  obtain ⟨rfl, hP, hK⟩ := hv
  rw [lg_entry_eq]
  exact body p e s m below meth c _ B.exec B.bytes B.returns hml (findClass_of_methodNamed B.named) (atoms_spec (ws := ws) B.pre) B.notSynchronized hP hK (lv_entry av hlen)
section ZR
variable {p : Program} {l : Launch} {e : Env} {R : Room} {s : State} {m : MethodId} {args : Array Value} {below : List Frame} {meth : Method} {c : Code} {H : Heap} {locs : List Loc} {cells slots : Nat} {Q : State → Prop} {pc : Nat} {ls : Array Slot} {rest st0 : List Value} {cc : ByteArray}
theorem lv_is {x y : Int32} (h : x = y) (k : W p l e R s m args below meth c H locs cells slots Q (F0 m pc ls (.int y :: rest))) : W p l e R s m args below meth c H locs cells slots Q (F0 m pc ls (.int x :: rest)) := h ▸ k
theorem zret_i {x v : Int32} (hexec : p.tables.exec = Jvm.exec) (hb : c.code = cc) (hr : meth.sig.returnType = some .int) (hlocks : meth.locks = false) (hdg : decode cc pc = .ok (.ireturn, 1)) (h : v = x) :
    W p l e R s m args below meth c s.heap [] 0 0 (MQ below (zQ (.int v)) args s 0 0 (fun _ => False)) (F0 m pc ls [.int x]) := by
  subst h
  exact W.iret hexec hb hr (fun t ht _ => ⟨rfl, ht⟩) (fun q h => by cases h) hdg hlocks
theorem zret_z {q q' : Bool} (hexec : p.tables.exec = Jvm.exec) (hb : c.code = cc) (hr : meth.sig.returnType = some .boolean) (hlocks : meth.locks = false) (hdg : decode cc pc = .ok (.ireturn, 1)) (h : q = q') :
    W p l e R s m args below meth c s.heap [] 0 0 (MQ below (zQ (.int (bI q))) args s 0 0 (fun _ => False)) (F0 m pc ls [.int (bI q')]) := by
  subst h
  exact W.zret hexec hb hr (bI_nar q) (fun t ht _ => ⟨rfl, ht⟩) (fun q h => by cases h) hdg hlocks
theorem zret_l {x v : Int64} (hexec : p.tables.exec = Jvm.exec) (hb : c.code = cc) (hr : meth.sig.returnType = some .long) (hlocks : meth.locks = false) (hdg : decode cc pc = .ok (.lreturn, 1)) (h : v = x) :
    W p l e R s m args below meth c s.heap [] 0 0 (MQ below (zQ (.long v)) args s 0 0 (fun _ => False)) (F0 m pc ls [.long x]) := by
  subst h
  exact W.lret hexec hb hr (fun t ht _ => ⟨rfl, ht⟩) (fun q h => by cases h) hdg hlocks
/-- a call that only reads, its run given -/
theorem zcall {v : Value} {aa : Array Value} (hr : va_Run p l e R s m args below meth c H locs cells slots 0 0 (F0 m pc ls st0) rest (zQ v aa) (fun _ => False))
    (k : W p l e R s m args below meth c H locs cells slots Q (F0 m (pc + 3) ls (v :: rest))) : W p l e R s m args below meth c H locs cells slots Q (F0 m pc ls st0) := by
  intro T hT X
  obtain ⟨v', st₀, t, T', L, h0, X', hL, e1, e2, ⟨hv, hh⟩, st⟩ := hr T hT X
  cases hv
  have hL' : L = [] := by
    cases L with
    | nil => rfl
    | cons a L => exact (hL a List.mem_cons_self).elim
  subst hL'
  rw [List.append_nil] at X'
  obtain ⟨t2, a1, b1⟩ := k T' (by rw [e1, hh, h0]) X'
  exact ⟨t2, st t2 a1, b1⟩
theorem zcV {D : va_G} {tys : List (ClassId × FieldType)} {y : MethodName} {ws : List Cond} {rm : Room} {wc : va_W} {v : Value} {Ts ws' : List Cond} {own C : String} {b : Nat} {As : List Value} {nL n index maxL ci : Nat} {bytes : ByteArray} {ret : Option FieldType} {fs : List Value} {q : vw_C}
    (hM : Rd l D tys y ws rm (.ref b :: As) wc v) (hexec : p.tables.exec = Jvm.exec) (hb : c.code = cc) (hml : c.maxLocals = nL) (hown : s.vm.findClass own = some m.cls) (hts : ∀ w ∈ Ts, w.before args s = true)
    (hG : GoodIn Ts (wsV own index C y ws)) (hw : ws = Cond.code y bytes maxL ret :: ws') (hd : y.cls = C ∧ y.cls ≠ "java/lang/invoke/MethodHandle" ∧ y.cls ≠ "java/lang/invoke/VarHandle" ∧ (parseMethodDescriptor y.desc).map (fun d => d.parameters.length) = some n)
    (hR : rm.frames + 1 ≤ R.frames ∧ 8 + (maxL + 11) + rm.locals ≤ R.locals) (hrc : rm.cells = 0 ∧ rm.slots = 0)
    (hK : zK D tys s) (hP : va_P D vwCl wc H) (he : wc[0]? = some (b, .inr (ci, fs))) (hc : vwCl[ci]? = some q) (hq : q.1 = C)
    (hl : ls.size = nL) (hn : As.length = n) (hst : st0 = As.reverse ++ .ref b :: rest) (hcat : (rest.map fun v => v.category).sum ≤ 8) (hf : cells ≤ R.cells ∧ slots ≤ R.slots) (hdg : decode cc pc = .ok (.invokevirtual index, 3))
    (k : W p l e R s m args below meth c H locs cells slots Q (F0 m (pc + 3) ls (v :: rest))) : W p l e R s m args below meth c H locs cells slots Q (F0 m pc ls st0) := by
  refine zcall (va_runV (As := As) (rest := rest) ⟨hexec, hb, hml, hown, hts⟩ hM (cwV n hts hG hw hrc.1 hrc.2 hd hR) ⟨zPre_blind, ?_, fun U hU hW => ⟨rfl, by rw [hU]; exact hP, zK.warm hW hK⟩⟩ rfl hn hl hst (lv_room hcat) hdg hf) k
  obtain ⟨cell, h1, h2, h3⟩ := va_recv hK.1 hP hc he
  exact ⟨cell, h1, h2, by rw [← hq]; exact h3⟩
theorem zcS {D : va_G} {tys : List (ClassId × FieldType)} {y : MethodName} {ws : List Cond} {rm : Room} {wc : va_W} {v : Value} {Ts ws' : List Cond} {own : String} {As : List Value} {nL n index maxL : Nat} {bytes : ByteArray} {ret : Option FieldType}
    (hM : Rd l D tys y ws rm As wc v) (hexec : p.tables.exec = Jvm.exec) (hb : c.code = cc) (hml : c.maxLocals = nL) (hown : s.vm.findClass own = some m.cls) (hts : ∀ w ∈ Ts, w.before args s = true)
    (hG : GoodIn Ts (wsS own index y ws)) (hw : ws = Cond.code y bytes maxL ret :: ws') (hd : y.cls = own ∧ y.cls ≠ "java/lang/invoke/MethodHandle" ∧ y.cls ≠ "java/lang/invoke/VarHandle" ∧ (parseMethodDescriptor y.desc).map (fun d => d.parameters.length) = some n)
    (hR : rm.frames + 1 ≤ R.frames ∧ 8 + (maxL + 11) + rm.locals ≤ R.locals) (hrc : rm.cells = 0 ∧ rm.slots = 0)
    (hK : zK D tys s) (hP : va_P D vwCl wc H)
    (hl : ls.size = nL) (hn : As.length = n) (hst : st0 = As.reverse ++ rest) (hcat : (rest.map fun v => v.category).sum ≤ 8) (hf : cells ≤ R.cells ∧ slots ≤ R.slots) (hdg : decode cc pc = .ok (.invokestatic index, 3))
    (k : W p l e R s m args below meth c H locs cells slots Q (F0 m (pc + 3) ls (v :: rest))) : W p l e R s m args below meth c H locs cells slots Q (F0 m pc ls st0) :=
  zcall (va_runS (As := As) (rest := rest) ⟨hexec, hb, hml, hown, hts⟩ hM (cwS n hts hG hw hrc.1 hrc.2 hd hR) ⟨zPre_blind, fun U hU hW => ⟨rfl, by rw [hU]; exact hP, zK.warm hW hK⟩⟩ rfl hn hl hst (lv_room hcat) hdg hf) k
theorem zcSO {D : va_G} {tys : List (ClassId × FieldType)} {y : MethodName} {ws : List Cond} {rm : Room} {wc : va_W} {v : Value} {Ts ws' : List Cond} {own : String} {As : List Value} {nL n index maxL : Nat} {bytes : ByteArray} {ret : Option FieldType}
    (hM : Rd l D tys y ws rm As wc v) (hexec : p.tables.exec = Jvm.exec) (hb : c.code = cc) (hml : c.maxLocals = nL) (hown : s.vm.findClass own = some m.cls) (hts : ∀ w ∈ Ts, w.before args s = true)
    (hG : GoodIn Ts (va_wsS own index y ws)) (hw : ws = Cond.code y bytes maxL ret :: ws') (hd : y.cls ≠ "java/lang/invoke/MethodHandle" ∧ y.cls ≠ "java/lang/invoke/VarHandle" ∧ (parseMethodDescriptor y.desc).map (fun d => d.parameters.length) = some n)
    (hR : rm.frames + 1 ≤ R.frames ∧ 8 + (maxL + 11) + rm.locals ≤ R.locals) (hrc : rm.cells = 0 ∧ rm.slots = 0)
    (hK : zK D tys s) (hP : va_P D vwCl wc H)
    (hl : ls.size = nL) (hn : As.length = n) (hst : st0 = As.reverse ++ rest) (hcat : (rest.map fun v => v.category).sum ≤ 8) (hf : cells ≤ R.cells ∧ slots ≤ R.slots) (hdg : decode cc pc = .ok (.invokestatic index, 3))
    (k : W p l e R s m args below meth c H locs cells slots Q (F0 m (pc + 3) ls (v :: rest))) : W p l e R s m args below meth c H locs cells slots Q (F0 m pc ls st0) :=
  zcall (va_runS (As := As) (rest := rest) ⟨hexec, hb, hml, hown, hts⟩ hM (va_cwS n hts hG hw hrc.1 hrc.2 hd hR) ⟨zPre_blind, fun U hU hW => ⟨rfl, by rw [hU]; exact hP, zK.warm hW hK⟩⟩ rfl hn hl hst (lv_room hcat) hdg hf) k
/-- a private static method of a nest mate -/
theorem zcSN {D : va_G} {tys : List (ClassId × FieldType)} {y : MethodName} {ws : List Cond} {rm : Room} {wc : va_W} {v : Value} {Ts ws' : List Cond} {own host : String} {As : List Value} {nL n index maxL : Nat} {bytes : ByteArray} {ret : Option FieldType}
    (hM : Rd l D tys y ws rm As wc v) (hexec : p.tables.exec = Jvm.exec) (hb : c.code = cc) (hml : c.maxLocals = nL) (hown : s.vm.findClass own = some m.cls) (hts : ∀ w ∈ Ts, w.before args s = true)
    (hG : GoodIn Ts ws) (hw : ws = Cond.code y bytes maxL ret :: ws') (hd : y.cls ≠ "java/lang/invoke/MethodHandle" ∧ y.cls ≠ "java/lang/invoke/VarHandle" ∧ (parseMethodDescriptor y.desc).map (fun d => d.parameters.length) = some n)
    (hR : rm.frames + 1 ≤ R.frames ∧ 8 + (maxL + 11) + rm.locals ≤ R.locals) (hrc : rm.cells = 0 ∧ rm.slots = 0)
    (hnest : Cond.methodLinkNest own index y host ∈ zNw) (hini : Cond.initialized y.cls ∈ Ts) (hstat : Cond.static y ∈ Ts)
    (hK : zK D tys s) (hP : va_P D vwCl wc H)
    (hl : ls.size = nL) (hn : As.length = n) (hst : st0 = As.reverse ++ rest) (hcat : (rest.map fun v => v.category).sum ≤ 8) (hf : cells ≤ R.cells ∧ slots ≤ R.slots) (hdg : decode cc pc = .ok (.invokestatic index, 3))
    (k : W p l e R s m args below meth c H locs cells slots Q (F0 m (pc + 3) ls (v :: rest))) : W p l e R s m args below meth c H locs cells slots Q (F0 m pc ls st0) :=
  zcall (va_runSN (As := As) (rest := rest) ⟨hexec, hb, hml, hown, hts⟩ hM ⟨va_cnB n hts hG hw hrc.1 hrc.2 (hK.2 _ hnest) (hts _ hini) hd hR, hts _ hstat, trivial⟩ ⟨zPre_blind, fun U hU hW => ⟨rfl, by rw [hU]; exact hP, zK.warm hW hK⟩⟩ rfl hn hl hst (lv_room hcat) hdg hf) k
theorem zif_eq {q : Bool} (hexec : p.tables.exec = Jvm.exec) (hb : c.code = cc) {off : Int} {tgt : Nat} (hdg : decode cc pc = .ok (.ifCond .eq off, 3)) (ht : (pc : Int) + off = (tgt : Int))
    (k1 : q = false → W p l e R s m args below meth c H locs cells slots Q (F0 m tgt ls rest)) (k2 : q = true → W p l e R s m args below meth c H locs cells slots Q (F0 m (pc + 3) ls rest)) : W p l e R s m args below meth c H locs cells slots Q (F0 m pc ls (.int (bI q) :: rest)) :=
  lv_if_eq hexec hb hdg ht (fun h => k1 ((bI_0 q).mp h)) (fun h => k2 (by cases q with | false => exact absurd rfl h | true => rfl))
theorem zif_ne {q : Bool} (hexec : p.tables.exec = Jvm.exec) (hb : c.code = cc) {off : Int} {tgt : Nat} (hdg : decode cc pc = .ok (.ifCond .ne off, 3)) (ht : (pc : Int) + off = (tgt : Int))
    (k1 : q = true → W p l e R s m args below meth c H locs cells slots Q (F0 m tgt ls rest)) (k2 : q = false → W p l e R s m args below meth c H locs cells slots Q (F0 m (pc + 3) ls rest)) : W p l e R s m args below meth c H locs cells slots Q (F0 m pc ls (.int (bI q) :: rest)) :=
  lv_if_ne hexec hb hdg ht (fun h => k1 (by cases q with | false => exact absurd rfl h | true => rfl)) (fun h => k2 ((bI_0 q).mp h))
/-- a place that is a number -/
theorem z_iald {D : va_G} {tys : List (ClassId × FieldType)} {ws : va_W} {a : Nat} (hexec : p.tables.exec = Jvm.exec) (hb : c.code = cc) (hK : zK D tys s) (hP : va_P D vwCl ws H) (q0 t0 : Nat) {cA : ClassId} {n i : Nat} {f : Nat → Int32} (ha : ws[q0]? = some (a, .inl (cA, n, .inl f))) (ht : tys[t0]? = some (cA, .int)) (hin : i < n) (hn : n < 2 ^ 31) (hdg : decode cc pc = .ok (.iaload, 1))
    (kk : W p l e R s m args below meth c H locs cells slots Q (F0 m (pc + 1) ls (.int (f i) :: rest))) : W p l e R s m args below meth c H locs cells slots Q (F0 m pc ls (.int (nI i) :: .ref a :: rest)) := by
  refine va_iald hexec hb hK.1 hP q0 t0 ha ht (vp_in_nI hin hn) hdg ?_
  rw [nI_clamp (by omega)]
  exact kk
end ZR
/-! methods that write into the cells of their world, and make none -/
def zA (ws : va_W) : Nat → Prop := fun q => ∃ (k : Nat) (e : va_E), ws[k]? = some (q, e)
def zPreW (D : va_G) (tys : List (ClassId × FieldType)) (av : List Value) (wc : va_W) : Array Value → State → Prop := fun a U => zPre D tys av wc a U ∧ va_D (fun _ => True) wc
def zQw (D : va_G) (wc : va_W) (v : Option Value) (wc' : va_W) : Array Value → State → Outcome → State → Prop := fun _ st o t => o = .returned v ∧ va_P D vwCl wc' t.heap ∧ va_F (zA wc) st t
theorem zPreW_blind {D : va_G} {tys : List (ClassId × FieldType)} {av : List Value} {wc : va_W} : FrameBlind (zPreW D tys av wc) := fun a U g mk q => ⟨zPre_blind a U g mk q.1, q.2⟩
def Wr (l : Launch) (D : va_G) (tys : List (ClassId × FieldType)) (y : MethodName) (ws : List Cond) (rm : Room) (av : List Value) (wc : va_W) (v : Option Value) (wc' : va_W) : Prop :=
  Met l y ws rm (zPreW D tys av wc) (zQw D wc v wc') 0 0 (zA wc)
theorem Wr.of {l : Launch} {D : va_G} {tys : List (ClassId × FieldType)} {y : MethodName} {ws ws' : List Cond} {rm : Room} {av : List Value} {wc wc' : va_W} {v : Option Value} {cc : ByteArray} {maxL : Nat} {ret : Option FieldType}
    (hy : plainName y.cls = true) (hw : ws = Cond.code y cc maxL ret :: ws') (hlen : (lg_sl av).length ≤ maxL)
    (body : ∀ p e s m below meth c ls, p.tables.exec = Jvm.exec → c.code = cc → meth.sig.returnType = ret → c.maxLocals = maxL → s.vm.findClass y.cls = some m.cls → (∀ w ∈ ws, w.before av.toArray s = true) → meth.locks = false →
      va_P D vwCl wc s.heap → va_D (zA wc) wc → va_S (zA wc) s.heap s.heap [] → zK D tys s → lv_has ls maxL (lv_args 0 av) →
      W p l e rm s m av.toArray below meth c s.heap [] 0 0 (MQ below (zQw D wc v wc') av.toArray s 0 0 (zA wc)) (F0 m 0 ls [])) : Wr l D tys y ws rm av wc v wc' := by
  refine Met.ofW (cc := cc) (maxL := maxL) (ret := ret) hy hw ?_
  intro p e s m args below meth c s₁ B hml hv
  obtain ⟨⟨rfl, hP, hK⟩, hD⟩ := hv
  rw [lg_entry_eq]
  exact body p e s m below meth c _ B.exec B.bytes B.returns hml (findClass_of_methodNamed B.named) (atoms_spec (ws := ws) B.pre) B.notSynchronized hP ⟨hD.1, fun k q hk => ⟨k, q.2, hk⟩⟩ va_S.rf hK (lv_entry av hlen)
/-- the cells at the places is, one after the other, by those of cs -/
def zput : va_W → List Nat → va_W → va_W
  | ws, [], _ => ws
  | ws, _ :: _, [] => ws
  | ws, i :: is, c :: cs => zput (ws.set i c) is cs
theorem zput_at : ∀ (is : List Nat) (cs ws : va_W), is.length = cs.length → (∀ i ∈ is, i < ws.length) → ∀ (k : Nat) (q : Nat × va_E), (zput ws is cs)[k]? = some q → (∃ j : Nat, is[j]? = some k ∧ cs[j]? = some q) ∨ (k ∉ is ∧ ws[k]? = some q)
  | [], _, ws, _, _, k, q, h => Or.inr ⟨List.not_mem_nil, by simpa [zput] using h⟩
  | i :: is, [], ws, hl, _, k, q, h => by cases hl
  | i :: is, c :: cs, ws, hl, hi, k, q, h => by
    have h1 := zput_at is cs (ws.set i c) (by simpa using hl) (fun j hj => by rw [List.length_set]; exact hi j (List.mem_cons_of_mem _ hj)) k q h
    rcases h1 with ⟨j, h2, h3⟩ | ⟨h2, h3⟩
    · exact Or.inl ⟨j + 1, by simpa using h2, by simpa using h3⟩
    · by_cases hk : k = i
      · subst hk
        rw [List.getElem?_set_self (hi k List.mem_cons_self)] at h3
        exact Or.inl ⟨0, rfl, h3⟩
      · rw [List.getElem?_set_ne (Ne.symm hk)] at h3
        exact Or.inr ⟨fun z => (List.mem_cons.mp z).elim hk h2, h3⟩
theorem zat {ws w : va_W} {is : List Nat} (hs : is.map (fun i => ws[i]?) = w.map some) {j : Nat} {q : Nat × va_E} (hq : w[j]? = some q) : ∃ i, is[j]? = some i ∧ ws[i]? = some q := by
  have h1 : (is.map (fun i => ws[i]?))[j]? = some (some q) := by rw [hs, List.getElem?_map, hq]; rfl
  rw [List.getElem?_map] at h1
  cases hi : is[j]? with
  | none => rw [hi] at h1; cases h1
  | some i => rw [hi] at h1; exact ⟨i, rfl, Option.some.inj h1⟩
/-- behind a call that wrote into some of the cells: they stand at their places -/
theorem zjoin {A : Nat → Prop} {D : va_G} {ws wc wc' : va_W} {H H1 : Heap} (hP : va_P D vwCl ws H) (hD : va_D A ws) (is : List Nat) (hC : is.map (fun i => ws[i]?) = wc.map some) (ha : wc'.map Prod.fst = wc.map Prod.fst)
    (hk : ∀ q : Nat, q < H.size → ¬ zA wc q → H1[q]? = H[q]?) (hP1 : va_P D vwCl wc' H1) : va_P D vwCl (zput ws is wc') H1 ∧ va_D A (zput ws is wc') := by
  have hlen : is.length = wc.length := by
    have := congrArg List.length hC
    simpa using this
  have hlen' : wc'.length = wc.length := by
    have := congrArg List.length ha
    simpa using this
  have hin : ∀ i ∈ is, i < ws.length := by
    intro i hi
    obtain ⟨j, hj⟩ := List.getElem?_of_mem hi
    have hjl : j < wc.length := by rw [← hlen]; exact (List.getElem?_eq_some_iff.mp hj).1
    obtain ⟨i2, h1, h2⟩ := zat hC (List.getElem?_eq_getElem hjl)
    rw [hj] at h1
    cases h1
    exact (List.getElem?_eq_some_iff.mp h2).1
  have key := zput_at is wc' ws (by rw [hlen, hlen']) hin
  have addr : ∀ (k : Nat) (q : Nat × va_E), (zput ws is wc')[k]? = some q → ∃ e, ws[k]? = some (q.1, e) := by
    intro k q hq
    rcases key k q hq with ⟨j, h1, h2⟩ | ⟨-, h2⟩
    · have hjl : j < wc.length := by rw [← hlen']; exact (List.getElem?_eq_some_iff.mp h2).1
      obtain ⟨i2, h3, h4⟩ := zat hC (List.getElem?_eq_getElem hjl)
      rw [h1] at h3
      cases h3
      have h5 : (wc'.map Prod.fst)[j]? = some q.1 := by rw [List.getElem?_map, h2]; rfl
      rw [ha, List.getElem?_map, List.getElem?_eq_getElem hjl] at h5
      have h6 : (wc[j]'hjl).1 = q.1 := Option.some.inj h5
      exact ⟨(wc[j]'hjl).2, by rw [h4, ← h6]⟩
    · exact ⟨q.2, h2⟩
  refine ⟨fun k q hq => ?_, ⟨fun i j x y hx hy hxy => ?_, fun k q hq => ?_⟩⟩
  · rcases key k q hq with ⟨j, h1, h2⟩ | ⟨h1, h2⟩
    · exact hP1 j q h2
    · refine (hP k q h2).kept (hk q.1 (hP k q h2).lt ?_)
      rintro ⟨j, e, h3⟩
      obtain ⟨i, h4, h5⟩ := zat hC h3
      have := hD.1 k i q (q.1, e) h2 h5 rfl
      subst this
      exact h1 (List.mem_of_getElem? h4)
  · obtain ⟨e1, h1⟩ := addr i x hx
    obtain ⟨e2, h2⟩ := addr j y hy
    exact hD.1 i j _ _ h1 h2 hxy
  · obtain ⟨e, h1⟩ := addr k q hq
    exact hD.2 k (q.1, e) h1
theorem zD_addr {A : Nat → Prop} {ws ws' : va_W} (hD : va_D A ws) (ha : ws'.map Prod.fst = ws.map Prod.fst) : va_D A ws' := by
  have key : ∀ (k : Nat) (q : Nat × va_E), ws'[k]? = some q → ∃ e, ws[k]? = some (q.1, e) := by
    intro k q hq
    have h5 : (ws'.map Prod.fst)[k]? = some q.1 := by rw [List.getElem?_map, hq]; rfl
    rw [ha, List.getElem?_map] at h5
    cases h6 : ws[k]? with
    | none => rw [h6] at h5; cases h5
    | some y =>
      rw [h6] at h5
      have h7 : y.1 = q.1 := Option.some.inj h5
      exact ⟨y.2, by rw [← h7]⟩
  refine ⟨fun i j x y hx hy hxy => ?_, fun k q hq => ?_⟩
  · obtain ⟨e1, h1⟩ := key i x hx
    obtain ⟨e2, h2⟩ := key j y hy
    exact hD.1 i j _ _ h1 h2 hxy
  · obtain ⟨e, h1⟩ := key k q hq
    exact hD.2 k (q.1, e) h1
section ZW
variable {p : Program} {l : Launch} {e : Env} {R : Room} {s : State} {m : MethodId} {args : Array Value} {below : List Frame} {meth : Method} {c : Code} {H H0 : Heap} {locs : List Loc} {cells slots : Nat} {Q : State → Prop} {pc : Nat} {ls : Array Slot} {rest st0 : List Value} {cc : ByteArray} {A : Nat → Prop}
theorem zretw_v {D : va_G} {wc wc' wn : va_W} (hexec : p.tables.exec = Jvm.exec) (hb : c.code = cc) (hr : meth.sig.returnType = none) (hlocks : meth.locks = false) (hdg : decode cc pc = .ok (.return_, 1)) (hP : va_P D vwCl wn H) (hS : va_S (zA wc) s.heap H locs) (h2 : wc' = wn) :
    W p l e R s m args below meth c H locs 0 0 (MQ below (zQw D wc none wc') args s 0 0 (zA wc)) (F0 m pc ls []) := by
  subst h2
  exact W.vret hexec hb hr (fun t ht _ => ⟨rfl, by rw [ht]; exact hP, hS.F ht⟩) hS.2.2 hdg hlocks
theorem zretw_i {D : va_G} {wc wc' wn : va_W} {x v : Int32} (hexec : p.tables.exec = Jvm.exec) (hb : c.code = cc) (hr : meth.sig.returnType = some .int) (hlocks : meth.locks = false) (hdg : decode cc pc = .ok (.ireturn, 1)) (hP : va_P D vwCl wn H) (hS : va_S (zA wc) s.heap H locs) (h1 : v = x) (h2 : wc' = wn) :
    W p l e R s m args below meth c H locs 0 0 (MQ below (zQw D wc (some (.int v)) wc') args s 0 0 (zA wc)) (F0 m pc ls [.int x]) := by
  subst h2; subst h1
  exact W.iret hexec hb hr (fun t ht _ => ⟨rfl, by rw [ht]; exact hP, hS.F ht⟩) hS.2.2 hdg hlocks
theorem zretw_z {D : va_G} {wc wc' wn : va_W} {q q' : Bool} (hexec : p.tables.exec = Jvm.exec) (hb : c.code = cc) (hr : meth.sig.returnType = some .boolean) (hlocks : meth.locks = false) (hdg : decode cc pc = .ok (.ireturn, 1)) (hP : va_P D vwCl wn H) (hS : va_S (zA wc) s.heap H locs) (h1 : q = q') (h2 : wc' = wn) :
    W p l e R s m args below meth c H locs 0 0 (MQ below (zQw D wc (some (.int (bI q))) wc') args s 0 0 (zA wc)) (F0 m pc ls [.int (bI q')]) := by
  subst h2; subst h1
  exact W.zret hexec hb hr (bI_nar q) (fun t ht _ => ⟨rfl, by rw [ht]; exact hP, hS.F ht⟩) hS.2.2 hdg hlocks
/-- a call that writes, its run given -/
theorem zcallw {D : va_G} {wc wc' : va_W} {v : Option Value} {aa : Array Value} (hr : va_Run p l e R s m args below meth c H locs cells slots 0 0 (F0 m pc ls st0) rest (zQw D wc v wc' aa) (zA wc)) (hS : va_S A H0 H locs) (hA : ∀ q, zA wc q → A q)
    (k : ∀ (H1 : Heap) (locs1 : List Loc), va_P D vwCl wc' H1 → (∀ q : Nat, q < H.size → ¬ zA wc q → H1[q]? = H[q]?) → va_S A H0 H1 locs1 → W p l e R s m args below meth c H1 locs1 cells slots Q (F0 m (pc + 3) ls (v.toList ++ rest))) : W p l e R s m args below meth c H locs cells slots Q (F0 m pc ls st0) := by
  intro T hT X
  obtain ⟨v', st₀, t, T', L, h0, X', hL, e1, e2, ⟨hv, hP1, hz, hk⟩, st⟩ := hr T hT X
  cases hv
  rw [h0] at hz hk
  obtain ⟨t2, a1, b1⟩ := k T'.heap (locs ++ L) (by rw [e1]; exact hP1) (fun q h1 h2 => by rw [e1]; exact hk q h1 h2)
    ⟨Nat.le_trans hS.1 (by rw [e1]; exact hz), fun q h1 h2 => by rw [e1, hk q (Nat.lt_of_lt_of_le h1 hS.1) (fun z => h2 (hA q z))]; exact hS.2.1 q h1 h2, fun q hq => by
      rcases List.mem_append.mp hq with h | h
      · exact hS.2.2 q h
      · exact hA _ (hL q h)⟩ T' rfl X'
  exact ⟨t2, st t2 a1, b1⟩
theorem zcVw {D : va_G} {tys : List (ClassId × FieldType)} {y : MethodName} {ws : List Cond} {rm : Room} {wc wc' : va_W} {v : Option Value} {Ts ws' : List Cond} {own C : String} {b : Nat} {As : List Value} {nL n index maxL ci : Nat} {bytes : ByteArray} {ret : Option FieldType} {fs : List Value} {q : vw_C}
    (hM : Wr l D tys y ws rm (.ref b :: As) wc v wc') (hexec : p.tables.exec = Jvm.exec) (hb : c.code = cc) (hml : c.maxLocals = nL) (hown : s.vm.findClass own = some m.cls) (hts : ∀ w ∈ Ts, w.before args s = true)
    (hG : GoodIn Ts (wsV own index C y ws)) (hw : ws = Cond.code y bytes maxL ret :: ws') (hd : y.cls = C ∧ y.cls ≠ "java/lang/invoke/MethodHandle" ∧ y.cls ≠ "java/lang/invoke/VarHandle" ∧ (parseMethodDescriptor y.desc).map (fun d => d.parameters.length) = some n)
    (hR : rm.frames + 1 ≤ R.frames ∧ 8 + (maxL + 11) + rm.locals ≤ R.locals) (hrc : rm.cells = 0 ∧ rm.slots = 0)
    (hK : zK D tys s) (hP : va_P D vwCl wc H) (hD : va_D A wc) (he : wc[0]? = some (b, .inr (ci, fs))) (hc : vwCl[ci]? = some q) (hq : q.1 = C)
    (hS : va_S A H0 H locs)
    (hl : ls.size = nL) (hn : As.length = n) (hst : st0 = As.reverse ++ .ref b :: rest) (hcat : (rest.map fun v => v.category).sum ≤ 8) (hf : cells ≤ R.cells ∧ slots ≤ R.slots) (hdg : decode cc pc = .ok (.invokevirtual index, 3))
    (k : ∀ (H1 : Heap) (locs1 : List Loc), va_P D vwCl wc' H1 → (∀ q : Nat, q < H.size → ¬ zA wc q → H1[q]? = H[q]?) → va_S A H0 H1 locs1 → W p l e R s m args below meth c H1 locs1 cells slots Q (F0 m (pc + 3) ls (v.toList ++ rest))) : W p l e R s m args below meth c H locs cells slots Q (F0 m pc ls st0) := by
  refine zcallw (va_runV (As := As) (rest := rest) ⟨hexec, hb, hml, hown, hts⟩ hM (cwV n hts hG hw hrc.1 hrc.2 hd hR) ⟨zPreW_blind, ?_, fun U hU hW => ⟨⟨rfl, by rw [hU]; exact hP, zK.warm hW hK⟩, hD.1, fun _ _ _ => trivial⟩⟩ rfl hn hl hst (lv_room hcat) hdg hf) hS (fun q ⟨k9, e9, h9⟩ => hD.2 k9 _ h9) k
  obtain ⟨cell, h1, h2, h3⟩ := va_recv hK.1 hP hc he
  exact ⟨cell, h1, h2, by rw [← hq]; exact h3⟩
/-- a write at a place that is a number -/
theorem z_iast {D : va_G} {tys : List (ClassId × FieldType)} {ws : va_W} {a : Nat} (hexec : p.tables.exec = Jvm.exec) (hb : c.code = cc) (hK : zK D tys s) (hP : va_P D vwCl ws H) (hD : va_D A ws) (hS : va_S A H0 H locs) (q0 t0 : Nat) {cA : ClassId} {n i : Nat} {f : Nat → Int32} (ha : ws[q0]? = some (a, .inl (cA, n, .inl f))) (ht : tys[t0]? = some (cA, .int)) {x : Int32} (hin : i < n) (hn : n < 2 ^ 31) (hdg : decode cc pc = .ok (.iastore, 1))
    (kk : ∀ (H1 : Heap) (locs1 : List Loc), va_P D vwCl (ws.set q0 (a, .inl (cA, n, .inl (upd f i x)))) H1 → va_D A (ws.set q0 (a, .inl (cA, n, .inl (upd f i x)))) → va_S A H0 H1 locs1 → W p l e R s m args below meth c H1 locs1 cells slots Q (F0 m (pc + 1) ls rest)) : W p l e R s m args below meth c H locs cells slots Q (F0 m pc ls (.int x :: .int (nI i) :: .ref a :: rest)) := by
  refine va_iast hexec hb hK.1 hP hD hS q0 t0 ha ht (vp_in_nI hin hn) hdg ?_
  rw [nI_clamp (by omega)]
  exact kk
end ZW
