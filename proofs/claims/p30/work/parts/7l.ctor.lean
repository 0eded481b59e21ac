/-! constructors -/
abbrev zAc (b sz : Nat) : Nat → Prop := fun q => q = b ∨ sz ≤ q
def zQc (D : va_G) (b sz : Nat) (mk : (Nat → Nat → Nat) → va_W) : Array Value → State → Outcome → State → Prop := fun _ st o t =>
  o = .returned none ∧ (∃ hh : Nat → Nat → Nat, hh 0 0 = b ∧ va_P D vwCl (mk hh) t.heap ∧ va_D (zAc b sz) (mk hh)) ∧ va_F (fun q => q = b) st t
def zPreC (D : va_G) (tys : List (ClassId × FieldType)) (b sz : Nat) (w0 : va_W) : Array Value → State → Prop := fun a U => a = [Value.ref b].toArray ∧ U.heap.size = sz ∧ va_P D vwCl w0 U.heap ∧ zK D tys U ∧ va_AO RX3 U
theorem zPreC_blind {D : va_G} {tys : List (ClassId × FieldType)} {b sz : Nat} {w0 : va_W} : FrameBlind (zPreC D tys b sz w0) := fun _ _ _ _ q => ⟨q.1, q.2.1, q.2.2.1, zK.calling q.2.2.2.1, q.2.2.2.2⟩
/-- a constructor: b has its first values; then the world mk stands, all of it new but b -/
def Ct (l : Launch) (D : va_G) (tys : List (ClassId × FieldType)) (y : MethodName) (ws : List Cond) (rm : Room) (b sz : Nat) (e0 : va_E) (mk : (Nat → Nat → Nat) → va_W) (mc ms : Nat) : Prop :=
  Met l y ws rm (zPreC D tys b sz [(b, e0)]) (zQc D b sz mk) mc ms (zAc b sz)
theorem Ct.of {l : Launch} {D : va_G} {tys : List (ClassId × FieldType)} {y : MethodName} {ws ws' : List Cond} {rm : Room} {b sz : Nat} {e0 : va_E} {mk : (Nat → Nat → Nat) → va_W} {mc ms : Nat} {cc : ByteArray} {maxL : Nat}
    (hy : plainName y.cls = true) (hn : y.name = "<init>") (hw : ws = Cond.code y cc maxL none :: ws') (hlen : (lg_sl [Value.ref b]).length ≤ maxL)
    (body : ∀ p e s m below meth c ls, p.tables.exec = Jvm.exec → c.code = cc → meth.sig.returnType = none → c.maxLocals = maxL → s.vm.findClass y.cls = some m.cls → (∀ w ∈ ws, w.before [Value.ref b].toArray s = true) → meth.locks = false → meth.name = "<init>" →
      va_P D vwCl [(b, e0)] s.heap → va_D (zAc b sz) [(b, e0)] → va_S (zAc b sz) s.heap s.heap [] → (∀ q, s.heap.size ≤ q → zAc b sz q) → zK D tys s → va_AO RX3 s → s.heap.size = sz → lv_has ls maxL (lv_args 0 [Value.ref b]) →
      W p l e rm s m [Value.ref b].toArray below meth c s.heap [] 0 0 (MQ below (zQc D b sz mk) [Value.ref b].toArray s mc ms (zAc b sz)) (F0 m 0 ls [])) : Ct l D tys y ws rm b sz e0 mk mc ms := by
  refine Met.ofW (cc := cc) (maxL := maxL) (ret := none) hy hw ?_
  intro p e s m args below meth c s₁ B hml hv
  obtain ⟨rfl, hsz, hP, hK, hAO⟩ := hv
  rw [lg_entry_eq]
  exact body p e s m below meth c _ B.exec B.bytes B.returns hml (findClass_of_methodNamed B.named) (atoms_spec (ws := ws) B.pre) B.notSynchronized ((name_of_methodNamed B.named B.method).1.trans hn) hP
    ⟨fun i j p q hp hq _ => by
      have hi := (List.getElem?_eq_some_iff.mp hp).1
      have hj := (List.getElem?_eq_some_iff.mp hq).1
      have e1 : ([(b, e0)] : va_W).length = 1 := rfl
      omega, fun k q hk => by
      have hi := (List.getElem?_eq_some_iff.mp hk).1
      have e1 : ([(b, e0)] : va_W).length = 1 := rfl
      have e2 : k = 0 := by omega
      subst e2; cases hk; exact Or.inl rfl⟩ va_S.rf (fun q hq => Or.inr (by omega)) hK hAO hsz (lv_entry _ hlen)
def zh (L : List Nat) (k : Nat) : Nat := L.getD k 0
section ZC
variable {p : Program} {l : Launch} {e : Env} {R : Room} {s : State} {m : MethodId} {args : Array Value} {below : List Frame} {meth : Method} {c : Code} {H H0 : Heap} {locs : List Loc} {cells slots : Nat} {Q : State → Prop} {pc : Nat} {ls : Array Slot} {rest st0 : List Value} {cc : ByteArray} {A : Nat → Prop}
theorem zretC {D : va_G} {b sz : Nat} {mk : (Nat → Nat → Nat) → va_W} (hh : Nat → Nat → Nat) (hexec : p.tables.exec = Jvm.exec) (hb : c.code = cc) (hr : meth.sig.returnType = none) (hlocks : meth.locks = false) (hdg : decode cc pc = .ok (.return_, 1)) (h0 : hh 0 0 = b) (hP : va_P D vwCl (mk hh) H) (hD : va_D (zAc b sz) (mk hh)) (hS : va_S (zAc b sz) s.heap H locs) (hsz : s.heap.size = sz) :
    W p l e R s m args below meth c H locs cells slots (MQ below (zQc D b sz mk) args s cells slots (zAc b sz)) (F0 m pc ls []) :=
  W.vret hexec hb hr (fun t ht _ => ⟨rfl, ⟨hh, h0, by rw [ht]; exact hP, hD⟩, by rw [ht]; exact hS.1, fun q h1 h2 => by rw [ht]; exact hS.2.1 q h1 (fun h3 => h3.elim h2 (fun h4 => by omega))⟩) hS.2.2 hdg hlocks
theorem z_newa {D : va_G} {tys : List (ClassId × FieldType)} {ws : va_W} (hexec : p.tables.exec = Jvm.exec) (hb : c.code = cc) (harr : (Cond.arrayClass .int).before args s = true) (hK : zK D tys s) (hP : va_P D vwCl ws H) (hD : va_D A ws) (hS : va_S A H0 H locs) (hA : ∀ q, H0.size ≤ q → A q) (t0 : Nat) {cI : ClassId} (ht : tys[t0]? = some (cI, .int))
    {n : Int32} {N : Nat} (hn : n = nI N) (hN : N < 10000) (hcells : cells + 1 ≤ R.cells) (hslots : slots + N ≤ R.slots) (hdg : decode cc pc = .ok (.newarray .int, 2))
    (kk : ∀ (q : Nat) (H1 : Heap), va_P D vwCl (ws ++ [(q, .inl (cI, N, .inl (fun _ => 0)))]) H1 → va_D A (ws ++ [(q, .inl (cI, N, .inl (fun _ => 0)))]) → va_S A H0 H1 locs → W p l e R s m args below meth c H1 locs (cells + 1) (slots + N) Q (F0 m (pc + 2) ls (.ref q :: rest))) : W p l e R s m args below meth c H locs cells slots Q (F0 m pc ls (.int n :: rest)) := by
  subst hn
  refine va_newa (atype := .int) (ty := .int) (a0 := (N, .inl (fun _ => 0))) (N' := N) hexec hb harr rfl hK.1 hP hD hS hA (fun cA => rfl) (nI_pos (by omega)) (nI_clamp (by omega)) (by show N * 4 ≤ 536870912; omega) hcells hslots hdg (fun q cA H1 hK1 hP1 hD1 hS1 => ?_)
  have e1 : s.vm.findClass ("[" ++ FieldType.int.toString) = some cA := (hK1.2 tys.length (cA, .int) (by rw [List.getElem?_append_right (Nat.le_refl _), Nat.sub_self]; rfl)).2
  have e2 : s.vm.findClass ("[" ++ FieldType.int.toString) = some cI := (hK.1.2 t0 _ ht).2
  cases Option.some.inj (e1.symm.trans e2)
  exact kk q H1 hP1 hD1 hS1
theorem z_newJ {D : va_G} {tys : List (ClassId × FieldType)} {ws : va_W} (hexec : p.tables.exec = Jvm.exec) (hb : c.code = cc) (harr : (Cond.arrayClass .long).before args s = true) (hK : zK D tys s) (hP : va_P D vwCl ws H) (hD : va_D A ws) (hS : va_S A H0 H locs) (hA : ∀ q, H0.size ≤ q → A q) (t0 : Nat) {cI : ClassId} (ht : tys[t0]? = some (cI, .long))
    (hcells : cells + 1 ≤ R.cells) (hslots : slots + 1 ≤ R.slots) (hdg : decode cc pc = .ok (.newarray .long, 2))
    (kk : ∀ (q : Nat) (H1 : Heap), va_P D vwCl (ws ++ [(q, .inl (cI, 1, .inr (.inl (fun _ => 0))))]) H1 → va_D A (ws ++ [(q, .inl (cI, 1, .inr (.inl (fun _ => 0))))]) → va_S A H0 H1 locs → W p l e R s m args below meth c H1 locs (cells + 1) (slots + 1) Q (F0 m (pc + 2) ls (.ref q :: rest))) : W p l e R s m args below meth c H locs cells slots Q (F0 m pc ls (.int 1 :: rest)) := by
  refine va_newa (atype := .long) (ty := .long) (a0 := (1, .inr (.inl (fun _ => 0)))) (N' := 1) hexec hb harr rfl hK.1 hP hD hS hA (fun cA => rfl) (by decide) (by decide) (by decide) hcells hslots hdg (fun q cA H1 hK1 hP1 hD1 hS1 => ?_)
  have e1 : s.vm.findClass ("[" ++ FieldType.long.toString) = some cA := (hK1.2 tys.length (cA, .long) (by rw [List.getElem?_append_right (Nat.le_refl _), Nat.sub_self]; rfl)).2
  have e2 : s.vm.findClass ("[" ++ FieldType.long.toString) = some cI := (hK.1.2 t0 _ ht).2
  cases Option.some.inj (e1.symm.trans e2)
  exact kk q H1 hP1 hD1 hS1
theorem z_newT {D : va_G} {tys : List (ClassId × FieldType)} {ws : va_W} {own C : String} {index : Nat} (hexec : p.tables.exec = Jvm.exec) (hb : c.code = cc) (hown : s.vm.findClass own = some m.cls) (hclink : (Cond.classLink own index C).before args s = true) (hover : va_AO C s) (hK : zK D tys s) (hP : va_P D vwCl ws H) (hD : va_D A ws) (hS : va_S A H0 H locs) (hA : ∀ q, H0.size ≤ q → A q) (t0 : Nat) {cT : ClassId} (ht : tys[t0]? = some (cT, .object C))
    {n : Int32} {N : Nat} (hn : n = nI N) (hN : N < 10000) (hcells : cells + 1 ≤ R.cells) (hslots : slots + N ≤ R.slots) (hdg : decode cc pc = .ok (.anewarray index, 3))
    (kk : ∀ (q : Nat) (H1 : Heap), va_P D vwCl (ws ++ [(q, .inl (cT, N, .inr (.inr (.inr (.inr (fun _ => none))))))]) H1 → va_D A (ws ++ [(q, .inl (cT, N, .inr (.inr (.inr (.inr (fun _ => none))))))]) → va_S A H0 H1 locs → W p l e R s m args below meth c H1 locs (cells + 1) (slots + N) Q (F0 m (pc + 3) ls (.ref q :: rest))) : W p l e R s m args below meth c H locs cells slots Q (F0 m pc ls (.int n :: rest)) := by
  subst hn
  refine va_newq (N' := N) hexec hb hown hclink hover hK.1 hP hD hS hA (nI_pos (by omega)) (nI_clamp (by omega)) (by omega) hcells hslots hdg (fun q cA H1 hK1 hP1 hD1 hS1 => ?_)
  obtain ⟨_, _, _, _, _, e1⟩ := (hK1.2 tys.length (cA, .object C) (by rw [List.getElem?_append_right (Nat.le_refl _), Nat.sub_self]; rfl)).2
  obtain ⟨_, _, _, _, _, e2⟩ := (hK.1.2 t0 _ ht).2
  cases Option.some.inj (e1.symm.trans e2)
  exact kk q H1 hP1 hD1 hS1
/-- a constructor's call: in the place of the new cell stands its world -/
theorem zcallC {D : va_G} {wr : va_W} {b : Nat} {e0 : va_E} {mk : (Nat → Nat → Nat) → va_W} {mc ms : Nat} {aa : Array Value} (hr : va_Run p l e R s m args below meth c H locs cells slots mc ms (F0 m pc ls st0) rest (zQc D b H.size mk aa) (zAc b H.size)) (hP : va_P D vwCl (wr ++ [(b, e0)]) H) (hD : va_D A (wr ++ [(b, e0)])) (hS : va_S A H0 H locs) (hA : ∀ q, H0.size ≤ q → A q)
    (k : ∀ (hh : Nat → Nat → Nat) (H1 : Heap) (locs1 : List Loc), hh 0 0 = b → va_P D vwCl (wr ++ mk hh) H1 → va_D A (wr ++ mk hh) → va_S A H0 H1 locs1 → W p l e R s m args below meth c H1 locs1 (cells + mc) (slots + ms) Q (F0 m (pc + 3) ls rest)) : W p l e R s m args below meth c H locs cells slots Q (F0 m pc ls st0) := by
  have hbA : A b := (zD_right hD).2 0 (b, e0) rfl
  have hbl : b < H.size := (hP wr.length (b, e0) (by rw [List.getElem?_append_right (Nat.le_refl _), Nat.sub_self]; rfl)).lt
  have hz0 := hS.1
  have hAc : ∀ q, zAc b H.size q → A q := fun q h => h.elim (fun h => h ▸ hbA) (fun h => hA q (by omega))
  have hap := zD_apart hD
  intro T hT X
  obtain ⟨v', st₀, t, T', L, h0, X', hL, e1, e2, ⟨hv, ⟨hh, hh0, hP1, hD1⟩, hz, hk⟩, st⟩ := hr T hT X
  cases hv
  rw [h0] at hz hk
  have hwr : ∀ x ∈ wr, x.1 < H.size ∧ x.1 ≠ b := fun x hx => ⟨(zP_mem.mp hP x (List.mem_append_left _ hx)).lt, hap x hx (b, e0) List.mem_cons_self⟩
  obtain ⟨t2, a1, b1⟩ := k hh T'.heap (locs ++ L) hh0 (zP_mem.mpr (fun x hx => by
      rw [e1]
      rcases List.mem_append.mp hx with h | h
      · exact (zP_mem.mp hP x (List.mem_append_left _ h)).kept (hk x.1 (hwr x h).1 (hwr x h).2)
      · exact zP_mem.mp hP1 x h))
    (zD_app (zD_left hD) ⟨hD1.1, fun k q hq => hAc _ (hD1.2 k q hq)⟩ (fun x hx y hy e3 => by
      obtain ⟨k9, hk9⟩ := List.getElem?_of_mem hy
      have h3 := hD1.2 k9 y hk9
      rcases h3 with h4 | h4
      · exact (hwr x hx).2 (e3.trans h4)
      · have := (hwr x hx).1; omega))
    ⟨Nat.le_trans hS.1 (by rw [e1]; exact hz), fun q h1 h2 => by rw [e1, hk q (by omega) (fun z => h2 (z ▸ hbA))]; exact hS.2.1 q h1 h2, fun q hq => by
      rcases List.mem_append.mp hq with h | h
      · exact hS.2.2 q h
      · exact hAc _ (hL q h)⟩ T' rfl X'
  exact ⟨t2, st t2 a1, b1⟩
theorem zcC {D : va_G} {tys : List (ClassId × FieldType)} {y : MethodName} {ws : List Cond} {rm : Room} {wr : va_W} {b : Nat} {e0 : va_E} {mk : (Nat → Nat → Nat) → va_W} {mc ms : Nat} {Ts ws' : List Cond} {own : String} {nL index maxL : Nat} {bytes : ByteArray}
    (hM : Ct l D tys y ws rm b H.size e0 mk mc ms) (hexec : p.tables.exec = Jvm.exec) (hb : c.code = cc) (hml : c.maxLocals = nL) (hown : s.vm.findClass own = some m.cls) (hts : ∀ w ∈ Ts, w.before args s = true)
    (hG : GoodIn Ts ws) (hw : ws = Cond.code y bytes maxL none :: ws') (hini : Cond.initialized y.cls ∈ Ts) (hlk : Cond.methodLink own index y ∈ Ts) (hin : Cond.instanceMethod y ∈ Ts) (hy1 : y.name = "<init>") (hd : y.cls ≠ "java/lang/invoke/MethodHandle" ∧ y.cls ≠ "java/lang/invoke/VarHandle" ∧ (parseMethodDescriptor y.desc).map (fun d => d.parameters.length) = some 0)
    (hR : rm.frames + 1 ≤ R.frames ∧ 8 + (maxL + 11) + rm.locals ≤ R.locals) (hrc : rm.cells = mc ∧ rm.slots = ms)
    (hK : zK D tys s) (hAO : va_AO RX3 s) (hP : va_P D vwCl (wr ++ [(b, e0)]) H) (hD : va_D A (wr ++ [(b, e0)])) (hS : va_S A H0 H locs) (hA : ∀ q, H0.size ≤ q → A q)
    (hl : ls.size = nL) (hcat : (rest.map fun v => v.category).sum ≤ 8) (hf : cells + mc ≤ R.cells ∧ slots + ms ≤ R.slots) (hdg : decode cc pc = .ok (.invokespecial index, 3))
    (k : ∀ (hh : Nat → Nat → Nat) (H1 : Heap) (locs1 : List Loc), hh 0 0 = b → va_P D vwCl (wr ++ mk hh) H1 → va_D A (wr ++ mk hh) → va_S A H0 H1 locs1 → W p l e R s m args below meth c H1 locs1 (cells + mc) (slots + ms) Q (F0 m (pc + 3) ls rest)) : W p l e R s m args below meth c H locs cells slots Q (F0 m pc ls (.ref b :: rest)) := by
  refine zcallC (va_runI (As := []) (rest := rest) ⟨hexec, hb, hml, hown, hts⟩ hM (cwI 0 hts hG hw hrc.1 hrc.2 (hts _ hini) (hts _ hlk) (hts _ hin) hy1 hd hR) ⟨zPreC_blind, fun U hU hW => ⟨rfl, by rw [hU], by rw [hU]; exact zP_mem.mpr (fun x hx => zP_mem.mp hP x (List.mem_append_right _ hx)), zK.warm hW hK, va_AO.moved hW.alike hAO⟩⟩ rfl rfl hl rfl (lv_room hcat) hdg hf) hP hD hS hA k
theorem zcCN {D : va_G} {tys : List (ClassId × FieldType)} {y : MethodName} {ws : List Cond} {rm : Room} {wr : va_W} {b : Nat} {e0 : va_E} {mk : (Nat → Nat → Nat) → va_W} {mc ms : Nat} {Ts ws' : List Cond} {own host : String} {nL index maxL : Nat} {bytes : ByteArray}
    (hM : Ct l D tys y ws rm b H.size e0 mk mc ms) (hexec : p.tables.exec = Jvm.exec) (hb : c.code = cc) (hml : c.maxLocals = nL) (hown : s.vm.findClass own = some m.cls) (hts : ∀ w ∈ Ts, w.before args s = true)
    (hG : GoodIn Ts ws) (hw : ws = Cond.code y bytes maxL none :: ws') (hini : Cond.initialized y.cls ∈ Ts) (hlk : Cond.methodLinkNest own index y host ∈ zNw) (hin : Cond.instanceMethod y ∈ Ts) (hy1 : y.name = "<init>") (hd : y.cls ≠ "java/lang/invoke/MethodHandle" ∧ y.cls ≠ "java/lang/invoke/VarHandle" ∧ (parseMethodDescriptor y.desc).map (fun d => d.parameters.length) = some 0)
    (hR : rm.frames + 1 ≤ R.frames ∧ 8 + (maxL + 11) + rm.locals ≤ R.locals) (hrc : rm.cells = mc ∧ rm.slots = ms)
    (hK : zK D tys s) (hAO : va_AO RX3 s) (hP : va_P D vwCl (wr ++ [(b, e0)]) H) (hD : va_D A (wr ++ [(b, e0)])) (hS : va_S A H0 H locs) (hA : ∀ q, H0.size ≤ q → A q)
    (hl : ls.size = nL) (hcat : (rest.map fun v => v.category).sum ≤ 8) (hf : cells + mc ≤ R.cells ∧ slots + ms ≤ R.slots) (hdg : decode cc pc = .ok (.invokespecial index, 3))
    (k : ∀ (hh : Nat → Nat → Nat) (H1 : Heap) (locs1 : List Loc), hh 0 0 = b → va_P D vwCl (wr ++ mk hh) H1 → va_D A (wr ++ mk hh) → va_S A H0 H1 locs1 → W p l e R s m args below meth c H1 locs1 (cells + mc) (slots + ms) Q (F0 m (pc + 3) ls rest)) : W p l e R s m args below meth c H locs cells slots Q (F0 m pc ls (.ref b :: rest)) := by
  refine zcallC (va_runIN (As := []) (rest := rest) ⟨hexec, hb, hml, hown, hts⟩ hM ⟨va_cnB 0 hts hG hw hrc.1 hrc.2 (hK.2 _ hlk) (hts _ hini) hd hR, hy1, hts _ hin⟩ ⟨zPreC_blind, fun U hU hW => ⟨rfl, by rw [hU], by rw [hU]; exact zP_mem.mpr (fun x hx => zP_mem.mp hP x (List.mem_append_right _ hx)), zK.warm hW hK, va_AO.moved hW.alike hAO⟩⟩ rfl rfl hl rfl (lv_room hcat) hdg hf) hP hD hS hA k
end ZC
theorem zarrR {D : va_G} {cl : List vw_C} {a n : Nat} {c : ClassId} {f g : Nat → Option Nat} {H : Heap} (h : ∀ j, j < n → f j = g j) (hf : va_at D cl (a, .inl (c, n, .inr (.inr (.inr (.inr f))))) H) : va_at D cl (a, .inl (c, n, .inr (.inr (.inr (.inr g))))) H := by
  have e : (fun j : Fin n => va_rf (f j.val)) = fun j : Fin n => va_rf (g j.val) := funext fun j => by rw [h j.val j.isLt]
  have e2 : vp_cell c (n, .inr (.inr (.inr (.inr f)))) = vp_cell c (n, .inr (.inr (.inr (.inr g)))) := by
    show arrV c n (fun j => va_rf (f j)) = arrV c n (fun j => va_rf (g j))
    unfold arrV
    rw [e]
  show H[a]? = some (vp_cell c (n, .inr (.inr (.inr (.inr g)))))
  rw [← e2]
  exact hf
/-- the first state of a town, of the history, of the reference -/
def zT0 : Nat → Nat → Int32 := fun k i => if k = 9 then nI (11 * (i + 1)) else if k = 10 then -1 else 0
def zO0 : Nat → Nat → Int32 := fun _ _ => 0
def zM0 : Nat → Nat → Int32 := fun k i => if k = 0 then (if i = 2 then 11 else if i = 3 then 22 else if i = 4 then 33 else if 53 ≤ i ∧ i < 353 then -1 else 0) else 0
