/-! worlds of many blocks -/
abbrev zF (bs : List va_W) : va_W := bs.flatten
theorem zF1 (a : va_W) : a = zF [a] := by simp [zF]
theorem zF2 (a b : va_W) : a ++ b = zF [a, b] := by simp [zF]
theorem zP_mem {D : va_G} {cl : List vw_C} {ws : va_W} {H : Heap} : va_P D cl ws H ↔ ∀ q ∈ ws, va_at D cl q H := by
  constructor
  · intro h q hq
    obtain ⟨k, hk⟩ := List.getElem?_of_mem hq
    exact h k q hk
  · intro h k q hk
    exact h q (List.mem_of_getElem? hk)
theorem zA_mem {ws : va_W} {q : Nat} : zA ws q ↔ ∃ e, (q, e) ∈ ws := by
  constructor
  · rintro ⟨k, e, h⟩; exact ⟨e, List.mem_of_getElem? h⟩
  · rintro ⟨e, h⟩
    obtain ⟨k, hk⟩ := List.getElem?_of_mem h
    exact ⟨k, e, hk⟩
/-- apart, block by block -/
def zDB (A : Nat → Prop) (bs : List va_W) : Prop := (∀ b ∈ bs, va_D A b) ∧ ∀ (i j : Nat) (b c : va_W), bs[i]? = some b → bs[j]? = some c → i ≠ j → ∀ x ∈ b, ∀ y ∈ c, x.1 ≠ y.1
theorem zD_left {A : Nat → Prop} {a r : va_W} (h : va_D A (a ++ r)) : va_D A a := by
  have key : ∀ (k : Nat) (q : Nat × va_E), a[k]? = some q → (a ++ r)[k]? = some q := fun k q hq => by
    rw [List.getElem?_append_left (List.getElem?_eq_some_iff.mp hq).1]; exact hq
  exact ⟨fun i j p q hp hq e => h.1 i j p q (key i p hp) (key j q hq) e, fun k q hq => h.2 k q (key k q hq)⟩
theorem zD_right {A : Nat → Prop} {a r : va_W} (h : va_D A (a ++ r)) : va_D A r := by
  have key : ∀ (k : Nat) (q : Nat × va_E), r[k]? = some q → (a ++ r)[a.length + k]? = some q := fun k q hq => by
    rw [List.getElem?_append_right (Nat.le_add_right _ _), Nat.add_sub_cancel_left]; exact hq
  exact ⟨fun i j p q hp hq e => by have := h.1 _ _ p q (key i p hp) (key j q hq) e; omega, fun k q hq => h.2 _ q (key k q hq)⟩
theorem zD_apart {A : Nat → Prop} {a r : va_W} (h : va_D A (a ++ r)) : ∀ x ∈ a, ∀ y ∈ r, x.1 ≠ y.1 := by
  intro x hx y hy e
  obtain ⟨i, hi⟩ := List.getElem?_of_mem hx
  obtain ⟨j, hj⟩ := List.getElem?_of_mem hy
  have hil := (List.getElem?_eq_some_iff.mp hi).1
  have h1 : (a ++ r)[i]? = some x := by rw [List.getElem?_append_left hil]; exact hi
  have h2 : (a ++ r)[a.length + j]? = some y := by rw [List.getElem?_append_right (Nat.le_add_right _ _), Nat.add_sub_cancel_left]; exact hj
  have := h.1 _ _ x y h1 h2 e
  omega
theorem zD_app {A : Nat → Prop} {a r : va_W} (h1 : va_D A a) (h2 : va_D A r) (h3 : ∀ x ∈ a, ∀ y ∈ r, x.1 ≠ y.1) : va_D A (a ++ r) :=
  va_D.app h1 h2 (fun i j x y hx hy => h3 x (List.mem_of_getElem? hx) y (List.mem_of_getElem? hy))
theorem zDB_of {A : Nat → Prop} : ∀ (bs : List va_W), va_D A (zF bs) → zDB A bs
  | [], _ => ⟨fun b hb => absurd hb List.not_mem_nil, fun i j b c hb => by simp at hb⟩
  | a :: bs, h => by
    have h0 : va_D A (a ++ zF bs) := h
    have ih := zDB_of bs (zD_right h0)
    have hap := zD_apart h0
    refine ⟨fun b hb => ?_, fun i j b c hb hc hij x hx y hy => ?_⟩
    · rcases List.mem_cons.mp hb with e | e
      · rw [e]; exact zD_left h0
      · exact ih.1 b e
    · cases i with
      | zero =>
        cases j with
        | zero => exact absurd rfl hij
        | succ j =>
          have e1 : a = b := Option.some.inj hb
          have e2 : bs[j]? = some c := by simpa using hc
          subst e1
          exact hap x hx y (List.mem_flatten.mpr ⟨c, List.mem_of_getElem? e2, hy⟩)
      | succ i =>
        have e1 : bs[i]? = some b := by simpa using hb
        cases j with
        | zero =>
          have e2 : a = c := Option.some.inj hc
          subst e2
          exact fun e => hap y hy x (List.mem_flatten.mpr ⟨b, List.mem_of_getElem? e1, hx⟩) e.symm
        | succ j =>
          have e2 : bs[j]? = some c := by simpa using hc
          exact ih.2 i j b c e1 e2 (fun e => hij (by rw [e])) x hx y hy
theorem zDB_to {A : Nat → Prop} : ∀ (bs : List va_W), zDB A bs → va_D A (zF bs)
  | [], _ => ⟨fun i j p q hp => by simp [zF] at hp, fun k q hq => by simp [zF] at hq⟩
  | a :: bs, h => by
    have ih : va_D A (zF bs) := zDB_to bs ⟨fun b hb => h.1 b (List.mem_cons_of_mem _ hb), fun i j b c hb hc hij => h.2 (i + 1) (j + 1) b c (by simpa using hb) (by simpa using hc) (fun e => hij (by omega))⟩
    refine zD_app (h.1 a List.mem_cons_self) ih (fun x hx y hy => ?_)
    obtain ⟨c, hc, hyc⟩ := List.mem_flatten.mp hy
    obtain ⟨j, hj⟩ := List.getElem?_of_mem hc
    exact h.2 0 (j + 1) a c rfl (by simpa using hj) (by omega) x hx y hyc
theorem zatB {bs cs : List va_W} {is : List Nat} (hs : is.map (fun i => bs[i]?) = cs.map some) {j : Nat} {q : va_W} (hq : cs[j]? = some q) : ∃ i, is[j]? = some i ∧ bs[i]? = some q := by
  have h1 : (is.map (fun i => bs[i]?))[j]? = some (some q) := by rw [hs, List.getElem?_map, hq]; rfl
  rw [List.getElem?_map] at h1
  cases hi : is[j]? with
  | none => rw [hi] at h1; cases h1
  | some i => rw [hi] at h1; exact ⟨i, rfl, Option.some.inj h1⟩
theorem zsubB {D : va_G} {bs cs : List va_W} {wc : va_W} {H : Heap} (hP : va_P D vwCl (zF bs) H) (is : List Nat) (hC : is.map (fun i => bs[i]?) = cs.map some) (hw : wc = zF cs) : va_P D vwCl wc H := by
  subst hw
  rw [zP_mem] at hP ⊢
  intro q hq
  obtain ⟨c, hc, hqc⟩ := List.mem_flatten.mp hq
  obtain ⟨j, hj⟩ := List.getElem?_of_mem hc
  obtain ⟨i, -, hi⟩ := zatB hC hj
  exact hP q (List.mem_flatten.mpr ⟨c, List.mem_of_getElem? hi, hqc⟩)
theorem znd_inj {is : List Nat} (h : is.Nodup) {j1 j2 i : Nat} (h1 : is[j1]? = some i) (h2 : is[j2]? = some i) : j1 = j2 := by
  have l1 := (List.getElem?_eq_some_iff.mp h1).1
  exact (List.getElem?_inj l1 h).mp (h1.trans h2.symm)
theorem zDsubB {A : Nat → Prop} {bs cs : List va_W} {wc : va_W} (hD : va_D A (zF bs)) (is : List Nat) (hn : is.Nodup) (hC : is.map (fun i => bs[i]?) = cs.map some) (hw : wc = zF cs) : va_D A wc := by
  subst hw
  have h := zDB_of bs hD
  refine zDB_to cs ⟨fun b hb => ?_, fun i j b c hb hc hij x hx y hy => ?_⟩
  · obtain ⟨j, hj⟩ := List.getElem?_of_mem hb
    obtain ⟨i, -, hi⟩ := zatB hC hj
    exact h.1 b (List.mem_of_getElem? hi)
  · obtain ⟨i1, h1, h2⟩ := zatB hC hb
    obtain ⟨i2, h3, h4⟩ := zatB hC hc
    exact h.2 i1 i2 b c h2 h4 (fun e => hij (znd_inj hn h1 (by rw [e]; exact h3))) x hx y hy
def zputB : List va_W → List Nat → List va_W → List va_W
  | bs, [], _ => bs
  | bs, _ :: _, [] => bs
  | bs, i :: is, c :: cs => zputB (bs.set i c) is cs
theorem zputB_at : ∀ (is : List Nat) (cs bs : List va_W), is.length = cs.length → (∀ i ∈ is, i < bs.length) → ∀ (k : Nat) (q : va_W), (zputB bs is cs)[k]? = some q → (∃ j : Nat, is[j]? = some k ∧ cs[j]? = some q) ∨ (k ∉ is ∧ bs[k]? = some q)
  | [], _, bs, _, _, k, q, h => Or.inr ⟨List.not_mem_nil, by simpa [zputB] using h⟩
  | i :: is, [], bs, hl, _, k, q, h => by cases hl
  | i :: is, c :: cs, bs, hl, hi, k, q, h => by
    have h1 := zputB_at is cs (bs.set i c) (by simpa using hl) (fun j hj => by rw [List.length_set]; exact hi j (List.mem_cons_of_mem _ hj)) k q h
    rcases h1 with ⟨j, h2, h3⟩ | ⟨h2, h3⟩
    · exact Or.inl ⟨j + 1, by simpa using h2, by simpa using h3⟩
    · by_cases hk : k = i
      · subst hk
        rw [List.getElem?_set_self (hi k List.mem_cons_self)] at h3
        exact Or.inl ⟨0, rfl, h3⟩
      · rw [List.getElem?_set_ne (Ne.symm hk)] at h3
        exact Or.inr ⟨fun z => (List.mem_cons.mp z).elim hk h2, h3⟩
theorem zjoinB {A : Nat → Prop} {D : va_G} {bs cs cs' : List va_W} {wc wc' : va_W} {H H1 : Heap} (hP : va_P D vwCl (zF bs) H) (hD : va_D A (zF bs)) (is : List Nat) (hn : is.Nodup) (hC : is.map (fun i => bs[i]?) = cs.map some) (ha : cs'.map (fun c => c.map Prod.fst) = cs.map (fun c => c.map Prod.fst)) (hw : wc = zF cs) (hw' : wc' = zF cs')
    (hk : ∀ q : Nat, q < H.size → ¬ zA wc q → H1[q]? = H[q]?) (hP1 : va_P D vwCl wc' H1) : va_P D vwCl (zF (zputB bs is cs')) H1 ∧ va_D A (zF (zputB bs is cs')) := by
  subst hw; subst hw'
  have hDB := zDB_of bs hD
  rw [zP_mem] at hP hP1
  have hlen : is.length = cs.length := by
    have := congrArg List.length hC
    simpa using this
  have hlen' : cs'.length = cs.length := by
    have := congrArg List.length ha
    simpa using this
  have hin : ∀ i ∈ is, i < bs.length := by
    intro i hi
    obtain ⟨j, hj⟩ := List.getElem?_of_mem hi
    have hjl : j < cs.length := by rw [← hlen]; exact (List.getElem?_eq_some_iff.mp hj).1
    obtain ⟨i2, h1, h2⟩ := zatB hC (List.getElem?_eq_getElem hjl)
    rw [hj] at h1
    cases h1
    exact (List.getElem?_eq_some_iff.mp h2).1
  have key := zputB_at is cs' bs (by rw [hlen, hlen']) hin
  -- each block of the new list has the addresses of the old one at its place
  have addr : ∀ (k : Nat) (b : va_W), (zputB bs is cs')[k]? = some b → ∃ b0, bs[k]? = some b0 ∧ b.map Prod.fst = b0.map Prod.fst := by
    intro k b hb
    rcases key k b hb with ⟨j, h1, h2⟩ | ⟨-, h2⟩
    · have hjl : j < cs.length := by rw [← hlen']; exact (List.getElem?_eq_some_iff.mp h2).1
      obtain ⟨i2, h3, h4⟩ := zatB hC (List.getElem?_eq_getElem hjl)
      rw [h1] at h3
      cases h3
      have h5 : (cs'.map (fun c => c.map Prod.fst))[j]? = some (b.map Prod.fst) := by rw [List.getElem?_map, h2]; rfl
      rw [ha, List.getElem?_map, List.getElem?_eq_getElem hjl] at h5
      exact ⟨cs[j]'hjl, h4, (Option.some.inj h5).symm⟩
    · exact ⟨b, h2, rfl⟩
  constructor
  · rw [zP_mem]
    intro q hq
    obtain ⟨b, hb, hqb⟩ := List.mem_flatten.mp hq
    obtain ⟨k, hk2⟩ := List.getElem?_of_mem hb
    rcases key k b hk2 with ⟨j, h1, h2⟩ | ⟨h1, h2⟩
    · exact hP1 q (List.mem_flatten.mpr ⟨b, List.mem_of_getElem? h2, hqb⟩)
    · have hat := hP q (List.mem_flatten.mpr ⟨b, List.mem_of_getElem? h2, hqb⟩)
      refine hat.kept (hk q.1 hat.lt ?_)
      intro hz
      obtain ⟨e, he⟩ := zA_mem.mp hz
      obtain ⟨c, hc, hec⟩ := List.mem_flatten.mp he
      obtain ⟨j, hj⟩ := List.getElem?_of_mem hc
      obtain ⟨i, h4, h5⟩ := zatB hC hj
      have hne : k ≠ i := fun e2 => h1 (by rw [e2]; exact List.mem_of_getElem? h4)
      exact hDB.2 k i b c h2 h5 hne q hqb (q.1, e) hec rfl
  · refine zDB_to _ ⟨fun b hb => ?_, fun i j b c hb hc hij x hx y hy => ?_⟩
    · obtain ⟨k, hk2⟩ := List.getElem?_of_mem hb
      obtain ⟨b0, h1, h2⟩ := addr k b hk2
      exact zD_addr (hDB.1 b0 (List.mem_of_getElem? h1)) h2
    · obtain ⟨b0, h1, h2⟩ := addr i b hb
      obtain ⟨c0, h3, h4⟩ := addr j c hc
      have hx2 : x.1 ∈ b0.map Prod.fst := by rw [← h2]; exact List.mem_map_of_mem hx
      have hy2 : y.1 ∈ c0.map Prod.fst := by rw [← h4]; exact List.mem_map_of_mem hy
      obtain ⟨x0, hx0, ex⟩ := List.mem_map.mp hx2
      obtain ⟨y0, hy0, ey⟩ := List.mem_map.mp hy2
      rw [← ex, ← ey]
      exact hDB.2 i j b0 c0 h1 h3 hij x0 hx0 y0 hy0
