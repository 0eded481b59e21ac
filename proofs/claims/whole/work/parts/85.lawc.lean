/-! the law's calls of its helpers -/
section ZLC
variable {p : Program} {l : Launch} {e : Env} {R : Room} {s : State} {m : MethodId} {args : Array Value} {below : List Frame} {meth : Method} {c : Code} {H H0 : Heap} {locs : List Loc} {cells slots : Nat} {Q : State → Prop} {pc : Nat} {ls : Array Slot} {rest st0 : List Value} {cc : ByteArray} {A : Nat → Prop}
theorem zcallL {D : va_G} {wc wc' : va_W} {v : Option Value} {mc ms : Nat} {aa : Array Value} (hr : va_Run p l e R s m args below meth c H locs cells slots mc ms (F0 m pc ls st0) rest (zQw D wc v wc' aa) (zA wc)) (hS : va_S A H0 H locs) (hA : ∀ q, zA wc q → A q)
    (k : ∀ (H1 : Heap) (locs1 : List Loc), va_P D vwCl wc' H1 → (∀ q : Nat, q < H.size → ¬ zA wc q → H1[q]? = H[q]?) → va_S A H0 H1 locs1 → W p l e R s m args below meth c H1 locs1 (cells + mc) (slots + ms) Q (F0 m (pc + 3) ls (v.toList ++ rest))) : W p l e R s m args below meth c H locs cells slots Q (F0 m pc ls st0) := by
  intro T hT X
  obtain ⟨v', st₀, t, T', L, h0, X', hL, e1, e2, ⟨hv, hP1, hz, hk⟩, st⟩ := hr T hT X
  cases hv
  rw [h0] at hz hk
  obtain ⟨t2, a1, b1⟩ := k T'.heap (locs ++ L) (by rw [e1]; exact hP1) (fun q h1 h2 => by rw [e1]; exact hk q h1 h2)
    ⟨Nat.le_trans hS.1 (by rw [e1]; exact hz), fun q h1 h2 => by rw [e1, hk q (Nat.lt_of_lt_of_le h1 hS.1) (fun z => h2 (hA q z))]; exact hS.2.1 q h1 h2, fun q hq => by
      rcases List.mem_append.mp hq with h | h
      · exact hS.2.2 q h
      · exact hA _ (hL q h)⟩ T' rfl X'
  exact ⟨t2, st t2 a1, b1⟩
/-- a static helper, that catches -/
theorem zcLS {D : va_G} {tys : List (ClassId × FieldType)} {hp : Nat} {y : MethodName} {ws : List Cond} {rm : Room} {wc wc' : va_W} {k9 : Int32} {Ts ws' : List Cond} {own : String} {As : List Value} {nL n index maxL : Nat} {bytes : ByteArray} {ret : Option FieldType} {hh : List (Nat × Nat × Nat × Nat)}
    (hM : Lw l D tys hp y ws rm As wc k9 wc') (hexec : p.tables.exec = Jvm.exec) (hb : c.code = cc) (hml : c.maxLocals = nL) (hown : s.vm.findClass own = some m.cls) (hts : ∀ w ∈ Ts, w.before args s = true)
    (hG : GoodIn Ts (va_wsS own index y ws)) (hw : ws = Cond.codeWith y bytes maxL ret hh :: ws') (hd : y.cls ≠ "java/lang/invoke/MethodHandle" ∧ y.cls ≠ "java/lang/invoke/VarHandle" ∧ (parseMethodDescriptor y.desc).map (fun d => d.parameters.length) = some n)
    (hR : rm.frames + 1 ≤ R.frames ∧ 8 + (maxL + 11) + rm.locals ≤ R.locals) (hrc : rm.cells = 1 ∧ rm.slots = 6)
    (hK : zK D tys s) (hP : va_P D vwCl wc H) (hD : va_D A wc) (hDp : va_D (fun q => hp ≤ q) wc) (hE : zE hp s) (hEH : ∀ q : Nat, q < hp → H[q]? = s.heap[q]?) (hS : va_S A H0 H locs)
    (hl : ls.size = nL) (hn : As.length = n) (hst : st0 = As.reverse ++ rest) (hcat : (rest.map fun v => v.category).sum ≤ 8) (hf : cells + 1 ≤ R.cells ∧ slots + 6 ≤ R.slots) (hdg : decode cc pc = .ok (.invokestatic index, 3))
    (k : ∀ (H1 : Heap) (locs1 : List Loc), va_P D vwCl wc' H1 → (∀ q : Nat, q < H.size → ¬ zA wc q → H1[q]? = H[q]?) → va_S A H0 H1 locs1 → W p l e R s m args below meth c H1 locs1 (cells + 1) (slots + 6) Q (F0 m (pc + 3) ls (.int k9 :: rest))) : W p l e R s m args below meth c H locs cells slots Q (F0 m pc ls st0) :=
  zcallL (vx_runSW (As := As) (rest := rest) ⟨hexec, hb, hml, hown, hts⟩ hM (vx_cwSW n hts hG hw hrc.1 hrc.2 hd hR) ⟨zPreX_blind, fun U hU hW => ⟨⟨rfl, by rw [hU]; exact hP, zK.warm hW hK⟩, hDp, zE.moved hW (fun a _ h2 => by rw [hU]; exact hEH a (by omega)) hE⟩⟩ rfl hn hl hst (lv_room hcat) hdg hf) hS (fun q ⟨k9, e9, h9⟩ => hD.2 k9 _ h9) k
end ZLC
