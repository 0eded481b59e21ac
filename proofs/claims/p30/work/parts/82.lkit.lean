/-! the law's own arrays: of ints (its numbers, its breads), of longs (who owns, held in, held out, ate) -/
def zB_LI (cI : ClassId) (y : Nat → Nat) (I : Nat → Nat → Int32) : va_W := [(y 1, .inl (cI, 7, .inl (I 0))), (y 2, .inl (cI, 30, .inl (I 1)))]
def zB_LQ (cL : ClassId) (y : Nat → Nat) (Q : Nat → Nat → Int64) : va_W := [(y 1, .inl (cL, 10, .inr (.inl (Q 0)))), (y 2, .inl (cL, 15, .inr (.inl (Q 1)))), (y 3, .inl (cL, 15, .inr (.inl (Q 2)))), (y 4, .inl (cL, 15, .inr (.inl (Q 3))))]
theorem zad_LI (cI : ClassId) (y : Nat → Nat) (I : Nat → Nat → Int32) : (zB_LI cI y I).map Prod.fst = [y 1, y 2] := rfl
theorem zad_LQ (cL : ClassId) (y : Nat → Nat) (Q : Nat → Nat → Int64) : (zB_LQ cL y Q).map Prod.fst = [y 1, y 2, y 3, y 4] := rfl
section ZL30
variable {p : Program} {l : Launch} {e : Env} {R : Room} {s : State} {m : MethodId} {args : Array Value} {below : List Frame} {meth : Method} {c : Code} {H H0 : Heap} {locs : List Loc} {cells slots : Nat} {Q : State → Prop} {pc : Nat} {ls : Array Slot} {rest st0 : List Value} {cc : ByteArray} {A : Nat → Prop}
theorem z_lald {D : va_G} {tys : List (ClassId × FieldType)} {ws : va_W} {a : Nat} (hexec : p.tables.exec = Jvm.exec) (hb : c.code = cc) (hK : zK D tys s) (hP : va_P D vwCl ws H) (q0 t0 : Nat) {cA : ClassId} {n i : Nat} {f : Nat → Int64} (ha : ws[q0]? = some (a, .inl (cA, n, .inr (.inl f)))) (ht : tys[t0]? = some (cA, .long)) (hin : i < n) (hn : n < 2 ^ 31) (hdg : decode cc pc = .ok (.laload, 1))
    (kk : W p l e R s m args below meth c H locs cells slots Q (F0 m (pc + 1) ls (.long (f i) :: rest))) : W p l e R s m args below meth c H locs cells slots Q (F0 m pc ls (.int (nI i) :: .ref a :: rest)) := by
  refine va_lald hexec hb hK.1 hP q0 t0 ha ht (vp_in_nI hin hn) hdg ?_
  rw [nI_clamp (by omega)]
  exact kk
theorem z_last {D : va_G} {tys : List (ClassId × FieldType)} {ws : va_W} {a : Nat} (hexec : p.tables.exec = Jvm.exec) (hb : c.code = cc) (hK : zK D tys s) (hP : va_P D vwCl ws H) (hD : va_D A ws) (hS : va_S A H0 H locs) (q0 t0 : Nat) {cA : ClassId} {n i : Nat} {f : Nat → Int64} (ha : ws[q0]? = some (a, .inl (cA, n, .inr (.inl f)))) (ht : tys[t0]? = some (cA, .long)) {x : Int64} (hin : i < n) (hn : n < 2 ^ 31) (hdg : decode cc pc = .ok (.lastore, 1))
    (kk : ∀ (H1 : Heap) (locs1 : List Loc), va_P D vwCl (ws.set q0 (a, .inl (cA, n, .inr (.inl (vp_updL f i x))))) H1 → va_D A (ws.set q0 (a, .inl (cA, n, .inr (.inl (vp_updL f i x))))) → va_S A H0 H1 locs1 → W p l e R s m args below meth c H1 locs1 cells slots Q (F0 m (pc + 1) ls rest)) : W p l e R s m args below meth c H locs cells slots Q (F0 m pc ls (.long x :: .int (nI i) :: .ref a :: rest)) := by
  refine va_last hexec hb hK.1 hP hD hS q0 t0 ha ht (vp_in_nI hin hn) hdg ?_
  rw [nI_clamp (by omega)]
  exact kk
/-- a static call that writes -/
theorem zcSw {D : va_G} {tys : List (ClassId × FieldType)} {y : MethodName} {ws : List Cond} {rm : Room} {wc wc' : va_W} {v : Option Value} {Ts ws' : List Cond} {own : String} {As : List Value} {nL n index maxL : Nat} {bytes : ByteArray} {ret : Option FieldType}
    (hM : Wr l D tys y ws rm As wc v wc') (hexec : p.tables.exec = Jvm.exec) (hb : c.code = cc) (hml : c.maxLocals = nL) (hown : s.vm.findClass own = some m.cls) (hts : ∀ w ∈ Ts, w.before args s = true)
    (hG : GoodIn Ts (va_wsS own index y ws)) (hw : ws = Cond.code y bytes maxL ret :: ws') (hd : y.cls ≠ "java/lang/invoke/MethodHandle" ∧ y.cls ≠ "java/lang/invoke/VarHandle" ∧ (parseMethodDescriptor y.desc).map (fun d => d.parameters.length) = some n)
    (hR : rm.frames + 1 ≤ R.frames ∧ 8 + (maxL + 11) + rm.locals ≤ R.locals) (hrc : rm.cells = 0 ∧ rm.slots = 0)
    (hK : zK D tys s) (hP : va_P D vwCl wc H) (hD : va_D A wc)
    (hS : va_S A H0 H locs)
    (hl : ls.size = nL) (hn : As.length = n) (hst : st0 = As.reverse ++ rest) (hcat : (rest.map fun v => v.category).sum ≤ 8) (hf : cells ≤ R.cells ∧ slots ≤ R.slots) (hdg : decode cc pc = .ok (.invokestatic index, 3))
    (k : ∀ (H1 : Heap) (locs1 : List Loc), va_P D vwCl wc' H1 → (∀ q : Nat, q < H.size → ¬ zA wc q → H1[q]? = H[q]?) → va_S A H0 H1 locs1 → W p l e R s m args below meth c H1 locs1 cells slots Q (F0 m (pc + 3) ls (v.toList ++ rest))) : W p l e R s m args below meth c H locs cells slots Q (F0 m pc ls st0) :=
  zcallw (va_runS (As := As) (rest := rest) ⟨hexec, hb, hml, hown, hts⟩ hM (va_cwS n hts hG hw hrc.1 hrc.2 hd hR) ⟨zPreW_blind, fun U hU hW => ⟨⟨rfl, by rw [hU]; exact hP, zK.warm hW hK⟩, hD.1, fun _ _ _ => trivial⟩⟩ rfl hn hl hst (lv_room hcat) hdg hf) hS (fun q ⟨k9, e9, h9⟩ => hD.2 k9 _ h9) k
end ZL30
/-! pure: numbers that the law makes -/
def zgr (x : Int32) : Prop := x = -1 ∨ vp_in x 3
theorem zgr_in {x : Int32} (h : zgr x) (c : 0 ≤ x) : vp_in x 3 := h.resolve_left (fun e => by rw [e] at c; exact absurd c (by decide))
theorem zgr_in' {x : Int32} (h : zgr x) (c : ¬ x < 0) : vp_in x 3 := h.resolve_left (fun e => by rw [e] at c; exact absurd (by decide) c)
theorem zsh1u (x : Int32) : ∃ j, j < 2 ^ 31 ∧ (Int32.toUInt32 x >>> (Int32.toUInt32 1 &&& Int32.toUInt32 31)).toInt32 = nI j := by
  refine ⟨x.toBitVec.toNat / 2, by have := x.toBitVec.isLt; omega, b_ext fun i hi => ?_⟩
  have h := b_ushr 1 (by decide) x i
  rw [bt_nI hi]
  refine h.trans ?_
  show x.toBitVec.getLsbD (1 + i) = _
  rw [BitVec.getLsbD, Nat.add_comm 1 i, ← Nat.testBit_div_two]
theorem zlat {x : Int32} {n : Nat} (h0 : 0 < n) (hn : n < 2 ^ 31) : vp_in ((Int32.toUInt32 x >>> (Int32.toUInt32 1 &&& Int32.toUInt32 31)).toInt32 - (Int32.toUInt32 x >>> (Int32.toUInt32 1 &&& Int32.toUInt32 31)).toInt32 / nI n * nI n) n := by
  obtain ⟨j, hj, e⟩ := zsh1u x
  rw [e, pk_rem hj h0 hn]
  exact vp_in_nI (Nat.mod_lt _ h0) hn
theorem znb5 {x : Int32} {b : Nat} (h : vp_in x 6) (c : ¬ x ≤ nI b) (hb : b ≤ 5) : b < 5 := by
  obtain ⟨j, hj, rfl⟩ := vp_in_of h (by decide)
  rw [Int32.le_iff_toInt_le, nI_toInt (by omega), nI_toInt (by omega)] at c
  omega
theorem zdiv50 {k : Nat} (h : k < 2 ^ 31) : nI k / 50 = nI (k / 50) := zdivn (b := 50) h (by decide) (by decide)
theorem zrem50 {k : Nat} (h : k < 2 ^ 31) : nI k - nI k / 50 * 50 = nI (k % 50) := pk_rem (d := 50) h (by decide) (by decide)
