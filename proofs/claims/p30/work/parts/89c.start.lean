theorem zuin {ws big : List Cond} (h : ws.all (fun w => big.contains w) = true) : ∀ w ∈ ws, w ∈ big := fun w hw => by
  have := List.all_eq_true.mp h w hw
  simpa using this
theorem zArr {args : Array Value} {s : State} {ty : FieldType} (h : (Cond.arrayClass ty).before args s = true) : ∃ cA, ArrOfT s cA ty ∧ s.vm.findClass ("[" ++ ty.toString) = some cA := by
  obtain ⟨cA, kA, comp, h1, h2, h3⟩ := Cond.arrayClass_spec h
  exact ⟨cA, fun n z => ⟨fun k h => (by cases h), kA, h2, comp, h3⟩, h1⟩
theorem zArrT {s : State} {C : String} (h : va_AO C s) : ∃ cA, ArrOfT s cA (.object C) ∧ va_RA s cA (.object C) := by
  obtain ⟨comp, cA, kA, h1, h2, h3, h4, h5⟩ := Cond.arrayOver_spec (va_AO.use (A := #[]) h)
  exact ⟨cA, fun n z => ⟨fun k h => (by cases h), kA, h3, comp, h4⟩, kA, comp, h3, h4, h1, h5⟩
theorem zinX0 : ∀ w ∈ u_ws RX0 TX0 7, w ∈ lw_tbl := by decide +kernel
theorem zinX1 : ∀ w ∈ u_ws RX1 TX1 3, w ∈ lw_tbl := by decide +kernel
theorem zinX2 : ∀ w ∈ u_ws RX2 TX2 5, w ∈ lw_tbl := by decide +kernel
theorem zinX3 : ∀ w ∈ u_ws RX3 TX3 15, w ∈ lw_tbl := by decide +kernel
theorem zinX4 : ∀ w ∈ u_ws RX4 TX4 4, w ∈ lw_tbl := by decide +kernel
theorem zinNw : ∀ w ∈ zNw, w ∈ lw_tbl ∧ w.onTables = true := by decide +kernel
theorem zinIs : ∀ w ∈ [Cond.instantiable RX0 7, .instantiable RX1 3, .instantiable RX2 5, .instantiable RX3 15, .instantiable RX4 4, .arrayClass .int, .arrayClass .long, .arrayOver (.object RX3)], w ∈ lw_tbl := by decide +kernel
theorem zK_of {s : State} {b : Addr} (hts : ∀ w ∈ lw_tbl, w.before #[Value.ref b] s = true) : ∃ (D : va_G) (g : Nat → ClassId), zK D (zT g) s ∧ va_AO RX3 s := by
  have his : ∀ w ∈ [Cond.instantiable RX0 7, .instantiable RX1 3, .instantiable RX2 5, .instantiable RX3 15, .instantiable RX4 4, .arrayClass .int, .arrayClass .long, .arrayOver (.object RX3)], w.before #[Value.ref b] s = true := fun w h => hts w (zinIs w h)
  obtain ⟨c0, i0, k0⟩ := u_known (C := RX0) (T := TX0) (N := 7) (n := 7) hts zinX0 (his _ (List.mem_of_getElem? (i := 0) rfl))
  obtain ⟨c1, i1, k1⟩ := u_known (C := RX1) (T := TX1) (N := 3) (n := 3) hts zinX1 (his _ (List.mem_of_getElem? (i := 1) rfl))
  obtain ⟨c2, i2, k2⟩ := u_known (C := RX2) (T := TX2) (N := 5) (n := 5) hts zinX2 (his _ (List.mem_of_getElem? (i := 2) rfl))
  obtain ⟨c3, i3, k3⟩ := u_known (C := RX3) (T := TX3) (N := 15) (n := 15) hts zinX3 (his _ (List.mem_of_getElem? (i := 3) rfl))
  obtain ⟨c4, i4, k4⟩ := u_known (C := RX4) (T := TX4) (N := 4) (n := 4) hts zinX4 (his _ (List.mem_of_getElem? (i := 4) rfl))
  obtain ⟨a0, b0, d0⟩ := zArr (his _ (List.mem_of_getElem? (i := 5) rfl))
  obtain ⟨a2, b2, d2⟩ := zArr (his _ (List.mem_of_getElem? (i := 6) rfl))
  have hAO : va_AO RX3 s := va_AO.of (his _ (List.mem_of_getElem? (i := 7) rfl))
  obtain ⟨a1, b1, d1⟩ := zArrT hAO
  refine ⟨(fun k => if k = 0 then c0 else if k = 1 then c1 else if k = 2 then c2 else if k = 3 then c3 else c4, fun k => if k = 0 then i0 else if k = 1 then i1 else if k = 2 then i2 else if k = 3 then i3 else i4), fun k => if k = 0 then a0 else if k = 1 then a1 else a2, ⟨⟨fun k q hq => ?_, fun k q hq => ?_⟩, fun w hw => va_Nw.of (zinNw w hw).2 (hts w (zinNw w hw).1)⟩, hAO⟩
  · match k, hq with
    | 0, hq => cases hq; exact k0
    | 1, hq => cases hq; exact k1
    | 2, hq => cases hq; exact k2
    | 3, hq => cases hq; exact k3
    | 4, hq => cases hq; exact k4
    | k + 5, hq => simp [vwCl] at hq
  · match k, hq with
    | 0, hq => cases hq; exact ⟨b0, d0⟩
    | 1, hq => cases hq; exact ⟨b1, d1⟩
    | 2, hq => cases hq; exact ⟨b2, d2⟩
    | k + 3, hq => simp [zT] at hq
theorem zdfX4 : ∀ j, j < 4 → defaultValue (tyX4 j) = vp_V [.null, .null, .null, .null] j
  | 0, _ => rfl
  | 1, _ => rfl
  | 2, _ => rfl
  | 3, _ => rfl
  | j + 4, h => absurd h (by omega)
