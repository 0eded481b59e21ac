/-! methods that may throw: what they need of the machine, how they end, how they are called -/
abbrev zIA : String := "java/lang/IllegalArgumentException"
abbrev zIS : String := "java/lang/IllegalStateException"
abbrev zIO : String := "java/lang/IndexOutOfBoundsException"
def zCls : List String := [zIA, zIS, zIO]
def zDcl : List MethodName := [Bundle.initS "java/lang/RuntimeException", Bundle.initS "java/lang/Exception", Bundle.initS Bundle.tN]
def zNots : List (String × String) := [(zIA, zIO), (zIA, zIS), (zIS, zIA), (zIS, zIO), (zIO, zIA), (zIO, zIS)]
def zStrs : List (Nat × String) := [(43, "no such group"), (58, "there are 8 breads"), (93, "it can't be raised to that"), (106, "it can't be lowered to that"), (114, "it goes by the salt of its group"), (142, "the person is not held for it"), (147, "days are 1 to 50"), (155, "a code is 33 to 126"), (161, "the buffer is full"), (176, "no complete row of commands"), (184, "no state is saved"), (199, "no such property of a bread"), (204, "no such property of a person"), (211, "no such bucket"), (220, "nothing is counted by that number"), (232, "there are 0 to 150 eaters"), (266, "no such bread"), (271, "it has ended"), (273, "no such person"), (275, "a salt is 0 to 9999"), (277, "a share is 0 to 100")]
/-- casts, texts, and the two statics of Throwable, which lie below hp -/
def zE (hp : Nat) (U : State) : Prop :=
  ((∀ C ∈ zCls, va_Nw (.castable C C) U) ∧ ∀ x ∈ zDcl, va_Nw (.declares x) U) ∧ (∀ q ∈ zNots, va_Nc q.1 q.2 U) ∧ (∀ q ∈ zStrs, ∃ a, vk_R RX4 q.1 q.2 a U) ∧
  vx_Zq Bundle.tN "UNASSIGNED_STACK" Bundle.steD (fun q => hp ≤ q) U U.heap ∧ vx_Zq Bundle.tN "SUPPRESSED_SENTINEL" Bundle.listD (fun q => hp ≤ q) U U.heap
theorem zE.moved {hp : Nat} {s U : State} (hW : s.WarmedH U.vm) (hq : ∀ a : Nat, a < s.heap.size → ¬ (hp ≤ a) → U.heap[a]? = s.heap[a]?) (h : zE hp s) : zE hp U :=
  ⟨⟨fun C hC => va_Nw.warmC hW (h.1.1 C hC), fun x hx => va_Nw.warmD hW (h.1.2 x hx)⟩, fun q hq' => va_Nc.moved hW.alike (h.2.1 q hq'), fun q hq' => by obtain ⟨a, ha⟩ := h.2.2.1 q hq'; exact ⟨a, vk_R.warm hW ha⟩,
    vx_Zq.moved hW.alike (h.2.2.2.1.kept hq), vx_Zq.moved hW.alike (h.2.2.2.2.kept hq)⟩
theorem zE.calling {hp : Nat} {U : State} {g : JFrame} {mk : MethodId} {a : Array Value} (h : zE hp U) : zE hp (U.calling g mk a) := zE.moved (s := U) (U := U.calling g mk a) (State.WarmedH.refl U) (fun _ _ _ => rfl) h
def zPreX (D : va_G) (tys : List (ClassId × FieldType)) (hp : Nat) (av : List Value) (wc : va_W) : Array Value → State → Prop := fun a U => zPre D tys av wc a U ∧ va_D (fun q => hp ≤ q) wc ∧ zE hp U
/-- thrown, nothing old changed -/
def zXN (E : String) : String → State → State → Prop := fun E' st t => E' = E ∧ st.heap.size ≤ t.heap.size ∧ ∀ q : Nat, q < st.heap.size → t.heap[q]? = st.heap[q]?
def zNo : Array Value → State → Outcome → State → Prop := fun _ _ _ _ => False
/-- a method that throws E, and changes nothing old -/
def Tn (l : Launch) (D : va_G) (tys : List (ClassId × FieldType)) (hp : Nat) (y : MethodName) (ws : List Cond) (rm : Room) (av : List Value) (wc : va_W) (E : String) : Prop :=
  vx_Met l y ws rm (zPreX D tys hp av wc) zNo (zXN E) 1 6 (fun _ => False)
theorem Tn.of {l : Launch} {D : va_G} {tys : List (ClassId × FieldType)} {hp : Nat} {y : MethodName} {ws ws' : List Cond} {rm : Room} {av : List Value} {wc : va_W} {E : String} {cc : ByteArray} {maxL : Nat} {ret : Option FieldType}
    (hy : plainName y.cls = true) (hw : ws = Cond.code y cc maxL ret :: ws') (hlen : (lg_sl av).length ≤ maxL)
    (body : ∀ p e s m below meth c ls, p.tables.exec = Jvm.exec → c.code = cc → c.maxLocals = maxL → s.vm.findClass y.cls = some m.cls → (∀ w ∈ ws, w.before av.toArray s = true) → meth.locks = false → (∀ x ∈ c.exceptionTable.toList, False) →
      va_P D vwCl wc s.heap → va_D (fun q => hp ≤ q) wc → zK D tys s → zE hp s → lv_has ls maxL (lv_args 0 av) →
      W p l e rm s m av.toArray below meth c s.heap [] 0 0 (vx_MQ below zNo (zXN E) av.toArray s 1 6 (fun _ => False)) (F0 m 0 ls [])) : Tn l D tys hp y ws rm av wc E := by
  refine vx_ofW (cc := cc) (maxL := maxL) (ret := ret) hy hw ?_
  intro p e s m args below meth c s₁ B hml ht hv
  obtain ⟨⟨rfl, hP, hK⟩, hD, hE⟩ := hv
  rw [lg_entry_eq]
  exact body p e s m below meth c _ B.exec B.bytes hml (findClass_of_methodNamed B.named) (atoms_spec (ws := ws) B.pre) B.notSynchronized ht hP hD hK hE (lv_entry av hlen)
/-- a void method that only reads -/
def zQ0 : Array Value → State → Outcome → State → Prop := fun _ st o t => o = .returned none ∧ t.heap = st.heap
def Nd (l : Launch) (D : va_G) (tys : List (ClassId × FieldType)) (y : MethodName) (ws : List Cond) (rm : Room) (av : List Value) (wc : va_W) : Prop :=
  Met l y ws rm (zPre D tys av wc) zQ0 0 0 (fun _ => False)
theorem Nd.of {l : Launch} {D : va_G} {tys : List (ClassId × FieldType)} {y : MethodName} {ws ws' : List Cond} {rm : Room} {av : List Value} {wc : va_W} {cc : ByteArray} {maxL : Nat}
    (hy : plainName y.cls = true) (hw : ws = Cond.code y cc maxL none :: ws') (hlen : (lg_sl av).length ≤ maxL)
    (body : ∀ p e s m below meth c ls, p.tables.exec = Jvm.exec → c.code = cc → meth.sig.returnType = none → c.maxLocals = maxL → s.vm.findClass y.cls = some m.cls → (∀ w ∈ ws, w.before av.toArray s = true) → meth.locks = false →
      va_P D vwCl wc s.heap → zK D tys s → lv_has ls maxL (lv_args 0 av) →
      W p l e rm s m av.toArray below meth c s.heap [] 0 0 (MQ below zQ0 av.toArray s 0 0 (fun _ => False)) (F0 m 0 ls [])) : Nd l D tys y ws rm av wc := by
  refine Met.ofW (cc := cc) (maxL := maxL) (ret := none) hy hw ?_
  intro p e s m args below meth c s₁ B hml hv
  obtain ⟨rfl, hP, hK⟩ := hv
  rw [lg_entry_eq]
  exact body p e s m below meth c _ B.exec B.bytes B.returns hml (findClass_of_methodNamed B.named) (atoms_spec (ws := ws) B.pre) B.notSynchronized hP hK (lv_entry av hlen)
section ZT
variable {p : Program} {l : Launch} {e : Env} {R : Room} {s : State} {m : MethodId} {args : Array Value} {below : List Frame} {meth : Method} {c : Code} {H : Heap} {locs : List Loc} {cells slots : Nat} {Q : State → Prop} {pc : Nat} {ls : Array Slot} {rest st0 : List Value} {cc : ByteArray}
theorem znd_v (hexec : p.tables.exec = Jvm.exec) (hb : c.code = cc) (hr : meth.sig.returnType = none) (hlocks : meth.locks = false) (hdg : decode cc pc = .ok (.return_, 1)) :
    W p l e R s m args below meth c s.heap [] 0 0 (MQ below zQ0 args s 0 0 (fun _ => False)) (F0 m pc ls []) :=
  W.vret hexec hb hr (fun t ht _ => ⟨rfl, ht⟩) (fun q h => by cases h) hdg hlocks
theorem zcall0 {aa : Array Value} (hr : va_Run p l e R s m args below meth c H locs cells slots 0 0 (F0 m pc ls st0) rest (zQ0 aa) (fun _ => False))
    (k : W p l e R s m args below meth c H locs cells slots Q (F0 m (pc + 3) ls rest)) : W p l e R s m args below meth c H locs cells slots Q (F0 m pc ls st0) := by
  intro T hT X
  obtain ⟨v', st₀, t, T', L, h0, X', hL, e1, e2, ⟨hv, hh⟩, st⟩ := hr T hT X
  cases hv
  have hL' : L = [] := by
    cases L with
    | nil => rfl
    | cons a L => exact (hL a List.mem_cons_self).elim
  subst hL'
  rw [List.append_nil] at X'
  obtain ⟨t2, a1, b1⟩ := k T' (by rw [e1, hh, h0]) X'
  exact ⟨t2, st t2 a1, b1⟩
theorem zcNV {D : va_G} {tys : List (ClassId × FieldType)} {y : MethodName} {ws : List Cond} {rm : Room} {wc : va_W} {Ts ws' : List Cond} {own C : String} {b : Nat} {As : List Value} {nL n index maxL ci : Nat} {bytes : ByteArray} {ret : Option FieldType} {fs : List Value} {q : vw_C}
    (hM : Nd l D tys y ws rm (.ref b :: As) wc) (hexec : p.tables.exec = Jvm.exec) (hb : c.code = cc) (hml : c.maxLocals = nL) (hown : s.vm.findClass own = some m.cls) (hts : ∀ w ∈ Ts, w.before args s = true)
    (hG : GoodIn Ts (wsV own index C y ws)) (hw : ws = Cond.code y bytes maxL ret :: ws') (hd : y.cls = C ∧ y.cls ≠ "java/lang/invoke/MethodHandle" ∧ y.cls ≠ "java/lang/invoke/VarHandle" ∧ (parseMethodDescriptor y.desc).map (fun d => d.parameters.length) = some n)
    (hR : rm.frames + 1 ≤ R.frames ∧ 8 + (maxL + 11) + rm.locals ≤ R.locals) (hrc : rm.cells = 0 ∧ rm.slots = 0)
    (hK : zK D tys s) (hP : va_P D vwCl wc H) (he : wc[0]? = some (b, .inr (ci, fs))) (hc : vwCl[ci]? = some q) (hq : q.1 = C)
    (hl : ls.size = nL) (hn : As.length = n) (hst : st0 = As.reverse ++ .ref b :: rest) (hcat : (rest.map fun v => v.category).sum ≤ 8) (hf : cells ≤ R.cells ∧ slots ≤ R.slots) (hdg : decode cc pc = .ok (.invokevirtual index, 3))
    (k : W p l e R s m args below meth c H locs cells slots Q (F0 m (pc + 3) ls rest)) : W p l e R s m args below meth c H locs cells slots Q (F0 m pc ls st0) := by
  refine zcall0 (va_runV (As := As) (rest := rest) ⟨hexec, hb, hml, hown, hts⟩ hM (cwV n hts hG hw hrc.1 hrc.2 hd hR) ⟨zPre_blind, ?_, fun U hU hW => ⟨rfl, by rw [hU]; exact hP, zK.warm hW hK⟩⟩ rfl hn hl hst (lv_room hcat) hdg hf) k
  obtain ⟨cell, h1, h2, h3⟩ := va_recv hK.1 hP hc he
  exact ⟨cell, h1, h2, by rw [← hq]; exact h3⟩
theorem zcNS {D : va_G} {tys : List (ClassId × FieldType)} {y : MethodName} {ws : List Cond} {rm : Room} {wc : va_W} {Ts ws' : List Cond} {own : String} {As : List Value} {nL n index maxL : Nat} {bytes : ByteArray} {ret : Option FieldType}
    (hM : Nd l D tys y ws rm As wc) (hexec : p.tables.exec = Jvm.exec) (hb : c.code = cc) (hml : c.maxLocals = nL) (hown : s.vm.findClass own = some m.cls) (hts : ∀ w ∈ Ts, w.before args s = true)
    (hG : GoodIn Ts (wsS own index y ws)) (hw : ws = Cond.code y bytes maxL ret :: ws') (hd : y.cls = own ∧ y.cls ≠ "java/lang/invoke/MethodHandle" ∧ y.cls ≠ "java/lang/invoke/VarHandle" ∧ (parseMethodDescriptor y.desc).map (fun d => d.parameters.length) = some n)
    (hR : rm.frames + 1 ≤ R.frames ∧ 8 + (maxL + 11) + rm.locals ≤ R.locals) (hrc : rm.cells = 0 ∧ rm.slots = 0)
    (hK : zK D tys s) (hP : va_P D vwCl wc H)
    (hl : ls.size = nL) (hn : As.length = n) (hst : st0 = As.reverse ++ rest) (hcat : (rest.map fun v => v.category).sum ≤ 8) (hf : cells ≤ R.cells ∧ slots ≤ R.slots) (hdg : decode cc pc = .ok (.invokestatic index, 3))
    (k : W p l e R s m args below meth c H locs cells slots Q (F0 m (pc + 3) ls rest)) : W p l e R s m args below meth c H locs cells slots Q (F0 m pc ls st0) :=
  zcall0 (va_runS (As := As) (rest := rest) ⟨hexec, hb, hml, hown, hts⟩ hM (cwS n hts hG hw hrc.1 hrc.2 hd hR) ⟨zPre_blind, fun U hU hW => ⟨rfl, by rw [hU]; exact hP, zK.warm hW hK⟩⟩ rfl hn hl hst (lv_room hcat) hdg hf) k
end ZT
