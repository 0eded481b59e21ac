def zYI (q1 q2 : Nat) : Nat → Nat := fun k => if k = 1 then q1 else q2
def zYQ (q3 q4 q5 q6 : Nat) : Nat → Nat := fun k => if k = 1 then q3 else if k = 2 then q4 else if k = 3 then q5 else q6
def zI00 : Nat → Nat → Int32 := fun _ => fun _ => 0
def zI01 : Nat → Nat → Int32 := fun k => if k = 0 then upd (fun _ => 0) 4 11 else fun _ => 0
def zI02 : Nat → Nat → Int32 := fun k => if k = 0 then upd (upd (fun _ => 0) 4 11) 5 22 else fun _ => 0
set_option maxHeartbeats 1000000 in
theorem whole_start {p : Program} {e : Env} {s : State} {m : MethodId} {below : List Frame} {meth : Method} {c : Code} (l : Launch) (hflags : l.flags = flags0) {b L : Nat} {xs : Nat → Int32} (hL : L ≤ 260) (C0 : lw_At p s m meth c b L xs) : W p l e room_1 s m #[Value.ref b] below meth c s.heap [] 0 0 (lw_Z below #[Value.ref b] s) (entryFrame m ([Value.ref b] : List Value).toArray 11) := by
  obtain ⟨hx, hb, hr, hml, hown, hts0, hX, hbl, hlocks, hgv⟩ := id C0
  have hb : c.code = cL_law := hb
  have hown : s.vm.findClass RL = some m.cls := hown
  have hts : ∀ w ∈ wsL_law, w.before #[Value.ref b] s = true := fun w h => hts0 w (wsL_law_in w h)
  obtain ⟨D, g, hK, hAO⟩ := zK_of hts0
  have hA : ∀ q, s.heap.size ≤ q → (fun q : Nat => s.heap.size ≤ q) q := fun q h => h
  have hS : va_S (fun q : Nat => s.heap.size ≤ q) s.heap s.heap [] := va_S.rf
  have hP : va_P D vwCl ([] : va_W) s.heap := fun q w hq => by simp at hq
  have hD : va_D (fun q : Nat => s.heap.size ≤ q) ([] : va_W) := ⟨fun i j p q h => by simp at h, fun q w hq => by simp at hq⟩
  have hl := lv_entry ([.ref b]) (n := 11) (show 1 ≤ 11 from by decide)
  rw [lg_entry_eq]
  generalize ((lg_sl [Value.ref b] ++ List.replicate (11 - (lg_sl [Value.ref b]).length) Slot.unset).toArray) = ls at hl ⊢
  have hl : lv_has ls 11 [(0, .ref b)] := hl
  refine va_new (ci := 4) (T := TX4) (N := 4) (fs := [.null, .null, .null, .null]) hx hb hts0 zinX4 tyX4 tyX4_ok hown (hts (.classLink RL 40 RX4) (List.mem_of_getElem? (i := 0) rfl)) (hts (.instantiable RX4 4) (List.mem_of_getElem? (i := 1) rfl)) (hts (.initialized RX4) (List.mem_of_getElem? (i := 2) rfl)) hK.1 hP hD hS hA rfl zdfX4 (Nat.le_of_ble_eq_true rfl) (Nat.le_of_ble_eq_true rfl) dL_law_0 (fun n1 H hP hD hS => ?_)
  refine lv_dup hx hb dL_law_3 rfl ?_
  refine zcC (wr := []) (c_X4_init l D g n1 H.size) hx hb hml hown hts gL_law_X4_init rfl (List.mem_of_getElem? (i := 2) rfl) (List.mem_of_getElem? (i := 5) rfl) (List.mem_of_getElem? (i := 6) rfl) rfl ⟨by decide, by decide, by decide⟩ ⟨Nat.le_of_ble_eq_true rfl, Nat.le_of_ble_eq_true rfl⟩ ⟨rfl, rfl⟩ hK hAO hP hD hS hA hl.1 (Nat.le_of_ble_eq_true rfl) ⟨Nat.le_of_ble_eq_true rfl, Nat.le_of_ble_eq_true rfl⟩ dL_law_4 (fun h2 H9 locs9 h9 hP9 hD9 hS9 => ?_)
  subst h9
  have hP := hP9; have hD := hD9; have hS := hS9
  clear hP9 hD9 hS9
  refine lv_astore_n (lv' := [(1, .ref (h2 0 0)), (0, .ref b)]) hx hb dL_law_7 rfl hl (by decide) rfl (fun ls hl => ?_)
  refine lv_bipush (v := 7) hx hb dL_law_8 (by decide) ?_
  refine z_newa (N := 7) hx hb (hts _ (List.mem_of_getElem? (i := 3) rfl)) hK hP hD hS hA 0 rfl rfl (by decide) (Nat.le_of_ble_eq_true rfl) (Nat.le_of_ble_eq_true rfl) dL_law_10 (fun q1 H hP hD hS => ?_)
  refine lv_astore_n (lv' := [(2, .ref q1), (1, .ref (h2 0 0)), (0, .ref b)]) hx hb dL_law_12 rfl hl (by decide) rfl (fun ls hl => ?_)
  refine lv_bipush (v := 30) hx hb dL_law_13 (by decide) ?_
  refine z_newa (N := 30) hx hb (hts _ (List.mem_of_getElem? (i := 3) rfl)) hK hP hD hS hA 0 rfl rfl (by decide) (Nat.le_of_ble_eq_true rfl) (Nat.le_of_ble_eq_true rfl) dL_law_15 (fun q2 H hP hD hS => ?_)
  refine lv_astore_n (lv' := [(3, .ref q2), (2, .ref q1), (1, .ref (h2 0 0)), (0, .ref b)]) hx hb dL_law_17 rfl hl (by decide) rfl (fun ls hl => ?_)
  refine lv_bipush (v := 10) hx hb dL_law_18 (by decide) ?_
  refine z_newL (N := 10) hx hb (hts _ (List.mem_of_getElem? (i := 4) rfl)) hK hP hD hS hA 2 rfl rfl (by decide) (Nat.le_of_ble_eq_true rfl) (Nat.le_of_ble_eq_true rfl) dL_law_20 (fun q3 H hP hD hS => ?_)
  refine lv_astore (lv' := [(4, .ref q3), (3, .ref q2), (2, .ref q1), (1, .ref (h2 0 0)), (0, .ref b)]) hx hb dL_law_22 hl (by decide) rfl (fun ls hl => ?_)
  refine lv_bipush (v := 15) hx hb dL_law_24 (by decide) ?_
  refine z_newL (N := 15) hx hb (hts _ (List.mem_of_getElem? (i := 4) rfl)) hK hP hD hS hA 2 rfl rfl (by decide) (Nat.le_of_ble_eq_true rfl) (Nat.le_of_ble_eq_true rfl) dL_law_26 (fun q4 H hP hD hS => ?_)
  refine lv_astore (lv' := [(5, .ref q4), (4, .ref q3), (3, .ref q2), (2, .ref q1), (1, .ref (h2 0 0)), (0, .ref b)]) hx hb dL_law_28 hl (by decide) rfl (fun ls hl => ?_)
  refine lv_bipush (v := 15) hx hb dL_law_30 (by decide) ?_
  refine z_newL (N := 15) hx hb (hts _ (List.mem_of_getElem? (i := 4) rfl)) hK hP hD hS hA 2 rfl rfl (by decide) (Nat.le_of_ble_eq_true rfl) (Nat.le_of_ble_eq_true rfl) dL_law_32 (fun q5 H hP hD hS => ?_)
  refine lv_astore (lv' := [(6, .ref q5), (5, .ref q4), (4, .ref q3), (3, .ref q2), (2, .ref q1), (1, .ref (h2 0 0)), (0, .ref b)]) hx hb dL_law_34 hl (by decide) rfl (fun ls hl => ?_)
  refine lv_bipush (v := 15) hx hb dL_law_36 (by decide) ?_
  refine z_newL (N := 15) hx hb (hts _ (List.mem_of_getElem? (i := 4) rfl)) hK hP hD hS hA 2 rfl rfl (by decide) (Nat.le_of_ble_eq_true rfl) (Nat.le_of_ble_eq_true rfl) dL_law_38 (fun q6 H hP hD hS => ?_)
  refine lv_astore (lv' := [(7, .ref q6), (6, .ref q5), (5, .ref q4), (4, .ref q3), (3, .ref q2), (2, .ref q1), (1, .ref (h2 0 0)), (0, .ref b)]) hx hb dL_law_40 hl (by decide) rfl (fun ls hl => ?_)
  have hP : va_P D vwCl (zF [zB_X4 (h2 0) (h2 1) (h2 2) (h2 9) (h2 10), zB_X3 (g 0) (h2 1) zT0, zB_X1 (g 1) (h2 2) (h2 3) (h2 4) (h2 5) (h2 6) (h2 7) (h2 8) zO0, zB_X3 (g 0) (h2 3) zT0, zB_X3 (g 0) (h2 4) zT0, zB_X3 (g 0) (h2 5) zT0, zB_X3 (g 0) (h2 6) zT0, zB_X3 (g 0) (h2 7) zT0, zB_X3 (g 0) (h2 8) zT0, zB_X2 (g 0) (h2 9) zO0, zB_X0 (g 0) (h2 10) zO0, zB_LI (g 0) (zYI q1 q2) zI00, zB_LQ (g 2) (zYQ q3 q4 q5 q6) zQ0L]) _ := hP
  have hD : va_D (fun q : Nat => s.heap.size ≤ q) (zF [zB_X4 (h2 0) (h2 1) (h2 2) (h2 9) (h2 10), zB_X3 (g 0) (h2 1) zT0, zB_X1 (g 1) (h2 2) (h2 3) (h2 4) (h2 5) (h2 6) (h2 7) (h2 8) zO0, zB_X3 (g 0) (h2 3) zT0, zB_X3 (g 0) (h2 4) zT0, zB_X3 (g 0) (h2 5) zT0, zB_X3 (g 0) (h2 6) zT0, zB_X3 (g 0) (h2 7) zT0, zB_X3 (g 0) (h2 8) zT0, zB_X2 (g 0) (h2 9) zO0, zB_X0 (g 0) (h2 10) zO0, zB_LI (g 0) (zYI q1 q2) zI00, zB_LQ (g 2) (zYQ q3 q4 q5 q6) zQ0L]) := hD
  have hP := zsubB (cs := zWp g (h2 0) (h2 1) (h2 2) (h2 9) (h2 10) (h2 3) (h2 4) (h2 5) (h2 6) (h2 7) (h2 8) (zYI q1 q2) (zYQ q3 q4 q5 q6) zO0 zT0 zT0 zT0 zT0 zT0 zT0 zT0 zO0 zI00 zQ0L) hP [0, 2, 3, 4, 5, 6, 7, 8, 1, 9, 11, 12] rfl rfl
  have hD := zDsubB (cs := zWp g (h2 0) (h2 1) (h2 2) (h2 9) (h2 10) (h2 3) (h2 4) (h2 5) (h2 6) (h2 7) (h2 8) (zYI q1 q2) (zYQ q3 q4 q5 q6) zO0 zT0 zT0 zT0 zT0 zT0 zT0 zT0 zO0 zI00 zQ0L) hD [0, 2, 3, 4, 5, 6, 7, 8, 1, 9, 11, 12] (by decide) rfl rfl
  refine lv_aload_n hx hb dL_law_42 rfl (lv_at hl 5 rfl) ?_
  refine lv_iconst (v := 4) hx hb dL_law_43 (by decide) ?_
  refine lv_bipush (v := 11) hx hb dL_law_44 (by decide) ?_
  refine z_iast (i := 4) (x := 11) hx hb hK hP hD hS 84 0 rfl rfl (by decide) (by decide) dL_law_46 (fun H locs hP hD hS => ?_)
  have hP : va_P D vwCl (zF (zWp g (h2 0) (h2 1) (h2 2) (h2 9) (h2 10) (h2 3) (h2 4) (h2 5) (h2 6) (h2 7) (h2 8) (zYI q1 q2) (zYQ q3 q4 q5 q6) zO0 zT0 zT0 zT0 zT0 zT0 zT0 zT0 zO0 zI01 zQ0L)) H := hP
  have hD : va_D (fun q : Nat => s.heap.size ≤ q) (zF (zWp g (h2 0) (h2 1) (h2 2) (h2 9) (h2 10) (h2 3) (h2 4) (h2 5) (h2 6) (h2 7) (h2 8) (zYI q1 q2) (zYQ q3 q4 q5 q6) zO0 zT0 zT0 zT0 zT0 zT0 zT0 zT0 zO0 zI01 zQ0L)) := hD
  refine lv_aload_n hx hb dL_law_47 rfl (lv_at hl 5 rfl) ?_
  refine lv_iconst (v := 5) hx hb dL_law_48 (by decide) ?_
  refine lv_bipush (v := 22) hx hb dL_law_49 (by decide) ?_
  refine z_iast (i := 5) (x := 22) hx hb hK hP hD hS 84 0 rfl rfl (by decide) (by decide) dL_law_51 (fun H locs hP hD hS => ?_)
  have hP : va_P D vwCl (zF (zWp g (h2 0) (h2 1) (h2 2) (h2 9) (h2 10) (h2 3) (h2 4) (h2 5) (h2 6) (h2 7) (h2 8) (zYI q1 q2) (zYQ q3 q4 q5 q6) zO0 zT0 zT0 zT0 zT0 zT0 zT0 zT0 zO0 zI02 zQ0L)) H := hP
  have hD : va_D (fun q : Nat => s.heap.size ≤ q) (zF (zWp g (h2 0) (h2 1) (h2 2) (h2 9) (h2 10) (h2 3) (h2 4) (h2 5) (h2 6) (h2 7) (h2 8) (zYI q1 q2) (zYQ q3 q4 q5 q6) zO0 zT0 zT0 zT0 zT0 zT0 zT0 zT0 zO0 zI02 zQ0L)) := hD
  refine lv_aload_n hx hb dL_law_52 rfl (lv_at hl 5 rfl) ?_
  refine lv_bipush (v := 6) hx hb dL_law_53 (by decide) ?_
  refine lv_bipush (v := 33) hx hb dL_law_55 (by decide) ?_
  refine z_iast (i := 6) (x := 33) hx hb hK hP hD hS 84 0 rfl rfl (by decide) (by decide) dL_law_57 (fun H locs hP hD hS => ?_)
  have hP : va_P D vwCl (zF (zWp g (h2 0) (h2 1) (h2 2) (h2 9) (h2 10) (h2 3) (h2 4) (h2 5) (h2 6) (h2 7) (h2 8) (zYI q1 q2) (zYQ q3 q4 q5 q6) zO0 zT0 zT0 zT0 zT0 zT0 zT0 zT0 zO0 zI0 zQ0L)) H := hP
  have hD : va_D (fun q : Nat => s.heap.size ≤ q) (zF (zWp g (h2 0) (h2 1) (h2 2) (h2 9) (h2 10) (h2 3) (h2 4) (h2 5) (h2 6) (h2 7) (h2 8) (zYI q1 q2) (zYQ q3 q4 q5 q6) zO0 zT0 zT0 zT0 zT0 zT0 zT0 zT0 zO0 zI0 zQ0L)) := hD
  refine lv_iconst (v := 0) hx hb dL_law_58 (by decide) ?_
  refine lv_istore (lv' := [(8, .int 0), (7, .ref q6), (6, .ref q5), (5, .ref q4), (4, .ref q3), (3, .ref q2), (2, .ref q1), (1, .ref (h2 0 0)), (0, .ref b)]) hx hb dL_law_59 hl (by decide) rfl (fun ls hl => ?_)
  have hl : lv_has ls 11 [(0, .ref b), (1, .ref (h2 0 0)), (2, .ref (zYI q1 q2 1)), (3, .ref (zYI q1 q2 2)), (4, .ref (zYQ q3 q4 q5 q6 1)), (5, .ref (zYQ q3 q4 q5 q6 2)), (6, .ref (zYQ q3 q4 q5 q6 3)), (7, .ref (zYQ q3 q4 q5 q6 4)), (8, .int (nI 0))] := lv_sub hl [8, 7, 6, 5, 4, 3, 2, 1, 0] rfl
  refine lp_loop hx hb hml hown hts hX hbl hK hL (fun H' locs' ls' hS' => ?_) 27 0 _ _ ls zO0 zT0 zT0 zT0 zT0 zT0 zT0 zT0 zO0 zI0 zM0 zQ0L (by decide) (Nat.zero_le _) (Nat.le_of_ble_eq_true rfl) (Nat.le_of_ble_eq_true rfl) zPI0 hP hD hS hl
  refine lv_iconst (v := 1) hx hb dL_law_175 (by decide) ?_
  refine W.widen (k := 600130) (n := 7301080) (Nat.le_of_ble_eq_true rfl) (Nat.le_of_ble_eq_true rfl) ?_
  intro T hT X
  have X0 : Stand p l e room_1 s m #[Value.ref b] below meth c T [] 600130 7301080 := Stand.forget (locs := []) (extra := locs') X hS'.2.2
  exact lw_ret hx hb hr hlocks dL_law_176 T hT X0
