/-- a method that throws E, and may have written before -/
def zXX (D : va_G) (wc : va_W) (E : String) (wc' : va_W) : String → State → State → Prop := fun E' st t => E' = E ∧ va_P D vwCl wc' t.heap ∧ va_F (zA wc) st t
def Tx (l : Launch) (D : va_G) (tys : List (ClassId × FieldType)) (hp : Nat) (y : MethodName) (ws : List Cond) (rm : Room) (av : List Value) (wc : va_W) (E : String) (wc' : va_W) : Prop :=
  vx_Met l y ws rm (zPreX D tys hp av wc) zNo (zXX D wc E wc') 1 6 (zA wc)
theorem Tx.of {l : Launch} {D : va_G} {tys : List (ClassId × FieldType)} {hp : Nat} {y : MethodName} {ws ws' : List Cond} {rm : Room} {av : List Value} {wc wc' : va_W} {E : String} {cc : ByteArray} {maxL : Nat} {ret : Option FieldType}
    (hy : plainName y.cls = true) (hw : ws = Cond.code y cc maxL ret :: ws') (hlen : (lg_sl av).length ≤ maxL)
    (body : ∀ p e s m below meth c ls, p.tables.exec = Jvm.exec → c.code = cc → c.maxLocals = maxL → s.vm.findClass y.cls = some m.cls → (∀ w ∈ ws, w.before av.toArray s = true) → meth.locks = false → (∀ x ∈ c.exceptionTable.toList, False) →
      va_P D vwCl wc s.heap → va_D (zA wc) wc → va_S (zA wc) s.heap s.heap [] → zK D tys s → zE hp s → (∀ q, zA wc q → hp ≤ q) → lv_has ls maxL (lv_args 0 av) →
      W p l e rm s m av.toArray below meth c s.heap [] 0 0 (vx_MQ below zNo (zXX D wc E wc') av.toArray s 1 6 (zA wc)) (F0 m 0 ls [])) : Tx l D tys hp y ws rm av wc E wc' := by
  refine vx_ofW (cc := cc) (maxL := maxL) (ret := ret) hy hw ?_
  intro p e s m args below meth c s₁ B hml ht hv
  obtain ⟨⟨rfl, hP, hK⟩, hD, hE⟩ := hv
  rw [lg_entry_eq]
  exact body p e s m below meth c _ B.exec B.bytes hml (findClass_of_methodNamed B.named) (atoms_spec (ws := ws) B.pre) B.notSynchronized ht hP ⟨hD.1, fun k q hk => ⟨k, q.2, hk⟩⟩ va_S.rf hK hE (fun q ⟨k, e9, h9⟩ => hD.2 k _ h9) (lv_entry av hlen)
section ZTH
variable {p : Program} {l : Launch} {e : Env} {R : Room} {s : State} {m : MethodId} {args : Array Value} {below : List Frame} {meth : Method} {c : Code} {H : Heap} {locs : List Loc} {cells slots : Nat} {Q : State → Prop} {pc : Nat} {ls : Array Slot} {rest st0 : List Value} {cc : ByteArray}
end ZTH
