/-- the law's two cells for answers -/
def zB_XJ (cI : ClassId) (y : Nat → Nat) (J : Nat → Int64) : va_W := [(y 0, .inl (cI, 1, .inr (.inl J)))]
def zB_XD (cI : ClassId) (y : Nat → Nat) (J : Nat → UInt64) : va_W := [(y 0, .inl (cI, 1, .inr (.inr (.inr (.inl J)))))]
theorem zad_XJ (cI : ClassId) (y : Nat → Nat) (J : Nat → Int64) : (zB_XJ cI y J).map Prod.fst = [y 0] := rfl
theorem zad_XD (cI : ClassId) (y : Nat → Nat) (J : Nat → UInt64) : (zB_XD cI y J).map Prod.fst = [y 0] := rfl
/-- a helper of the law: it answers k, and catches what is thrown -/
def Lw (l : Launch) (D : va_G) (tys : List (ClassId × FieldType)) (hp : Nat) (y : MethodName) (ws : List Cond) (rm : Room) (av : List Value) (wc : va_W) (k : Int32) (wc' : va_W) : Prop :=
  Met l y ws rm (zPreX D tys hp av wc) (zQw D wc (some (.int k)) wc') 1 6 (zA wc)
theorem Lw.of {l : Launch} {D : va_G} {tys : List (ClassId × FieldType)} {hp : Nat} {y : MethodName} {ws ws' : List Cond} {rm : Room} {av : List Value} {wc wc' : va_W} {k : Int32} {cc : ByteArray} {maxL : Nat} {ret : Option FieldType} {hh : List (Nat × Nat × Nat × Nat)}
    (hy : plainName y.cls = true) (hw : ws = Cond.codeWith y cc maxL ret hh :: ws') (hlen : (lg_sl av).length ≤ maxL)
    (body : ∀ p e s m below meth c ls, p.tables.exec = Jvm.exec → c.code = cc → meth.sig.returnType = ret → c.maxLocals = maxL → s.vm.findClass y.cls = some m.cls → (∀ w ∈ ws, w.before av.toArray s = true) → meth.locks = false → c.exceptionTable.toList = tableOf hh →
      va_P D vwCl wc s.heap → va_D (zA wc) wc → va_D (fun q => hp ≤ q) wc → va_S (zA wc) s.heap s.heap [] → zK D tys s → zE hp s → lv_has ls maxL (lv_args 0 av) →
      W p l e rm s m av.toArray below meth c s.heap [] 0 0 (MQ below (zQw D wc (some (.int k)) wc') av.toArray s 1 6 (zA wc)) (F0 m 0 ls [])) : Lw l D tys hp y ws rm av wc k wc' := by
  unfold Lw
  refine MetFree.of_bodyS (code := cc) (maxLocals := maxL) (ret := ret) hy ?_ ?_
  · intro args s m h hn
    obtain ⟨m9, meth, c, hn9, h1, h2, h3, h4, -, h5, h6, -⟩ := Cond.codeWith_spec (atoms_spec (ws := ws) h _ (by rw [hw]; exact List.mem_cons_self))
    cases hn.symm.trans hn9
    exact ⟨meth, c, h1, h2, h3, h4, h5, h6⟩
  · intro p e s m args below meth c s₁ B hml hv _
    have hh0 : s₁.heap = s.heap := by rw [B.state]; rfl
    obtain ⟨⟨rfl, hP, hK⟩, hD, hE⟩ := hv
    have hts := atoms_spec (ws := ws) B.pre
    have K := body p e s m below meth c _ B.exec B.bytes B.returns hml (findClass_of_methodNamed B.named) hts B.notSynchronized (vx_table (x := y) B (hts _ (by rw [hw]; exact List.mem_cons_self))) hP ⟨hD.1, fun k q hk => ⟨k, q.2, hk⟩⟩ hD va_S.rf hK hE (lv_entry av hlen)
    rw [← lg_entry_eq] at K
    obtain ⟨t, a1, o, b1, b2, b3⟩ := K s₁ hh0 (Stand.of_body B)
    exact ⟨t, o, a1, b1, b2, ⟨b3.1, b3.2⟩⟩
section ZL
variable {p : Program} {l : Launch} {e : Env} {R : Room} {s : State} {m : MethodId} {args : Array Value} {below : List Frame} {meth : Method} {c : Code} {H H0 : Heap} {locs : List Loc} {cells slots : Nat} {Q : State → Prop} {pc : Nat} {ls : Array Slot} {rest st0 : List Value} {cc : ByteArray} {A : Nat → Prop}
theorem zretL {D : va_G} {wc wc' wn : va_W} {x v : Int32} (hexec : p.tables.exec = Jvm.exec) (hb : c.code = cc) (hr : meth.sig.returnType = some .int) (hlocks : meth.locks = false) (hdg : decode cc pc = .ok (.ireturn, 1)) (hP : va_P D vwCl wn H) (hS : va_S (zA wc) s.heap H locs) (h1 : v = x) (h2 : wc' = wn) :
    W p l e R s m args below meth c H locs cells slots (MQ below (zQw D wc (some (.int v)) wc') args s cells slots (zA wc)) (F0 m pc ls [.int x]) := by
  subst h2; subst h1
  exact W.iret hexec hb hr (fun t ht _ => ⟨rfl, by rw [ht]; exact hP, hS.F ht⟩) hS.2.2 hdg hlocks
/-- a call that throws E, caught at the row x of the table -/
theorem zcatch {E name own : String} {aa : Array Value} (hr : vx_Run p l e R s m args below meth c H locs cells slots 1 6 (F0 m pc ls st0) rest (zNo aa) (zXN E) (fun _ => False)) (hown : s.vm.findClass own = some m.cls) (pre : List ExceptionTableEntry) (x : ExceptionTableEntry) (suf : List ExceptionTableEntry) (hsplit : c.exceptionTable.toList = pre ++ x :: suf)
    (hpass : ∀ z ∈ pre, covers z pc = false ∨ (z.catchType ≠ 0 ∧ ∃ nm : String, (Cond.classLink own z.catchType nm).before args s = true ∧ va_Nc E nm s)) (hx : covers x pc = true) (h0 : x.catchType ≠ 0)
    (hlink : (Cond.classLink own x.catchType name).before args s = true) (hcast : (Cond.castable E name).before args s = true)
    (kk : ∀ (q : Nat) (H1 : Heap), H.size ≤ H1.size → (∀ q : Nat, q < H.size → H1[q]? = H[q]?) → W p l e R s m args below meth c H1 locs (cells + 1) (slots + 6) Q (F0 m x.handlerPc ls [.ref q])) : W p l e R s m args below meth c H locs cells slots Q (F0 m pc ls st0) := by
  intro T hT X
  rcases hr T hT X with ⟨v, st₀, t, T', L, h0, X', hL, e1, e2, hF, st⟩ | ⟨q, st₀, t, T', L, E', ce, h9, X', hL, e1, e2, ⟨hE, hz, hk⟩, hce, hcv, hcl, st⟩
  · exact hF.elim
  · have hL' : L = [] := by
      cases L with
      | nil => rfl
      | cons a L => exact (hL a List.mem_cons_self).elim
    subst hL'
    subst hE
    rw [h9] at hz hk
    rw [List.append_nil] at X'
    obtain ⟨t2, a1, b1⟩ := vx_catch (H := T'.heap) (Q := Q) (rest := rest) (ls := ls) hown pre x suf hsplit hpass hx h0 hlink hcast (by rw [e1]; exact hce) hcv hcl (kk q T'.heap (by rw [e1]; exact hz) (fun q hq => by rw [e1]; exact hk q hq)) T' rfl X'
    exact ⟨t2, st.trans a1, b1⟩
theorem zcatV {D : va_G} {tys : List (ClassId × FieldType)} {hp : Nat} {y : MethodName} {ws : List Cond} {rm : Room} {wc : va_W} {E : String} {Ts ws' : List Cond} {own C : String} {b : Nat} {As : List Value} {nL n index maxL ci : Nat} {bytes : ByteArray} {ret : Option FieldType} {fs : List Value} {q : vw_C} {tgt : Nat} {hh : List (Nat × Nat × Nat × Nat)}
    (hM : Tn l D tys hp y ws rm (.ref b :: As) wc E) (hexec : p.tables.exec = Jvm.exec) (hb : c.code = cc) (hml : c.maxLocals = nL) (hown : s.vm.findClass own = some m.cls) (hts : ∀ w ∈ Ts, w.before args s = true)
    (hG : GoodIn Ts (wsV own index C y ws)) (hw : ws = Cond.code y bytes maxL ret :: ws') (hd : y.cls = C ∧ y.cls ≠ "java/lang/invoke/MethodHandle" ∧ y.cls ≠ "java/lang/invoke/VarHandle" ∧ (parseMethodDescriptor y.desc).map (fun d => d.parameters.length) = some n)
    (hR : rm.frames + 1 ≤ R.frames ∧ 8 + (maxL + 11) + rm.locals ≤ R.locals) (hrc : rm.cells = 1 ∧ rm.slots = 6)
    (hK : zK D tys s) (hP : va_P D vwCl wc s.heap) (hD : va_D (fun q => hp ≤ q) wc) (hE : zE hp s) (he : wc[0]? = some (b, .inr (ci, fs))) (hc : vwCl[ci]? = some q) (hq : q.1 = C)
    (hl : ls.size = nL) (hn : As.length = n) (hst : st0 = As.reverse ++ .ref b :: rest) (hcat : (rest.map fun v => v.category).sum ≤ 8) (hf : 0 + 1 ≤ R.cells ∧ 0 + 6 ≤ R.slots) (hdg : decode cc pc = .ok (.invokevirtual index, 3))
    (pre : List (Nat × Nat × Nat × Nat)) (x : Nat × Nat × Nat × Nat) (suf : List (Nat × Nat × Nat × Nat)) (htab : c.exceptionTable.toList = tableOf hh) (hsplit : hh = pre ++ x :: suf)
    (hpass : ∀ z ∈ tableOf pre, covers z pc = false ∨ (z.catchType ≠ 0 ∧ ∃ nm : String, Cond.classLink own z.catchType nm ∈ Ts ∧ (E, nm) ∈ zNots)) (hx : ∀ z ∈ tableOf [x], covers z pc = true ∧ z.catchType ≠ 0 ∧ Cond.classLink own z.catchType E ∈ Ts ∧ z.handlerPc = tgt) (hca : E ∈ zCls)
    (kk : ∀ (q : Nat) (H1 : Heap), s.heap.size ≤ H1.size → (∀ q : Nat, q < s.heap.size → H1[q]? = s.heap[q]?) → W p l e R s m args below meth c H1 [] 1 6 Q (F0 m tgt ls [.ref q])) : W p l e R s m args below meth c s.heap [] 0 0 Q (F0 m pc ls st0) := by
  obtain ⟨z, hz⟩ : ∃ z, tableOf [x] = [z] := ⟨_, rfl⟩
  obtain ⟨x1, x2, x3, x4⟩ := hx z (by rw [hz]; exact List.mem_cons_self)
  refine zcatch (E := E) (name := E) (vx_runV (As := As) (rest := rest) ⟨hexec, hb, hml, hown, hts⟩ hM (cwV n hts hG hw hrc.1 hrc.2 hd hR) ⟨zPreX_blind, ?_, fun U hU hW => ⟨⟨rfl, by rw [hU]; exact hP, zK.warm hW hK⟩, hD, zE.moved hW (fun a _ _ => by rw [hU]) hE⟩⟩ rfl hn hl hst (lv_room hcat) hdg hf) hown (tableOf pre) z (tableOf suf) ?_
    (fun z hz => (hpass z hz).imp id (fun ⟨a1, nm, a2, a3⟩ => ⟨a1, nm, hts _ a2, hE.2.1 _ a3⟩)) x1 x2 (hts _ x3) (va_Nw.use rfl (hE.1.1 E hca)) (by rw [x4]; exact kk)
  · obtain ⟨cell, h1, h2, h3⟩ := va_recv hK.1 hP hc he
    exact ⟨cell, h1, h2, by rw [← hq]; exact h3⟩
  · rw [htab, hsplit]
    show tableOf (pre ++ ([x] ++ suf)) = tableOf pre ++ ([z] ++ tableOf suf)
    rw [← hz]; exact (List.map_append).trans (congrArg _ List.map_append)
end ZL
