theorem whole_start {p : Program} {e : Env} {s : State} {m : MethodId} {below : List Frame} {meth : Method} {c : Code} (l : Launch) (hflags : l.flags = flags0) {b L : Nat} {xs : Nat → Int32} (hL : L ≤ 2048) (C0 : lw_At p s m meth c b L xs) : W p l e room_1 s m #[Value.ref b] below meth c s.heap [] 0 0 (lw_Z below #[Value.ref b] s) (entryFrame m ([Value.ref b] : List Value).toArray 9) := by
  obtain ⟨hx, hb, hr, hml, hown, hts0, hX, hbl, hlocks, hgv⟩ := id C0
  have hb : c.code = cL_law := hb
  have hown : s.vm.findClass RL = some m.cls := hown
  have hts : ∀ w ∈ wsL_law, w.before #[Value.ref b] s = true := fun w h => hts0 w (wsL_law_in w h)
  obtain ⟨D, g, hK, hAO⟩ := zK_of hts0
  have hE := zE_of hts0 hgv
  have hst : l.stackTraces = false := by
    unfold Launch.stackTraces; rw [hflags]; decide +kernel
  have hA : ∀ q, s.heap.size ≤ q → (fun q : Nat => s.heap.size ≤ q) q := fun q h => h
  have hS : va_S (fun q : Nat => s.heap.size ≤ q) s.heap s.heap [] := va_S.rf
  have hP : va_P D vwCl ([] : va_W) s.heap := fun q w hq => by simp at hq
  have hD : va_D (fun q : Nat => s.heap.size ≤ q) ([] : va_W) := ⟨fun i j p q h => by simp at h, fun q w hq => by simp at hq⟩
  have hl := lv_entry ([.ref b]) (n := 9) (show 1 ≤ 9 from by decide)
  rw [lg_entry_eq]
  generalize ((lg_sl [Value.ref b] ++ List.replicate (9 - (lg_sl [Value.ref b]).length) Slot.unset).toArray) = ls at hl ⊢
  have hl : lv_has ls 9 [(0, .ref b)] := hl
  refine va_new (ci := 4) (T := TX4) (N := 4) (fs := [.null, .null, .null, .null]) hx hb hts0 zinX4 tyX4 tyX4_ok hown (hts (.classLink RL 8 RX4) (List.mem_of_getElem? (i := 0) rfl)) (hts (.instantiable RX4 4) (List.mem_of_getElem? (i := 1) rfl)) (hts (.initialized RX4) (List.mem_of_getElem? (i := 2) rfl)) hK.1 hP hD hS hA rfl zdfX4 (Nat.le_of_ble_eq_true rfl) (Nat.le_of_ble_eq_true rfl) dL_law_0 (fun n1 H hP hD hS => ?_)
  refine lv_dup hx hb dL_law_3 rfl ?_
  refine zcC (wr := []) (c_X4_init l D g n1 H.size) hx hb hml hown hts gL_law_X4_init rfl (List.mem_of_getElem? (i := 2) rfl) (List.mem_of_getElem? (i := 8) rfl) (List.mem_of_getElem? (i := 9) rfl) rfl ⟨by decide, by decide, by decide⟩ ⟨Nat.le_of_ble_eq_true rfl, Nat.le_of_ble_eq_true rfl⟩ ⟨rfl, rfl⟩ hK hAO hP hD hS hA hl.1 (Nat.le_of_ble_eq_true rfl) ⟨Nat.le_of_ble_eq_true rfl, Nat.le_of_ble_eq_true rfl⟩ dL_law_4 (fun h2 H9 locs9 h9 hP9 hD9 hS9 => ?_)
  subst h9
  have hP := hP9; have hD := hD9; have hS := hS9
  clear hP9 hD9 hS9
  refine lv_astore_n (lv' := [(1, .ref (h2 0 0)), (0, .ref b)]) hx hb dL_law_7 rfl hl (by decide) rfl (fun ls hl => ?_)
  refine va_new (ci := 5) (T := TX5) (N := 13) (fs := [.null, .int 0, .null, .int 0, .null, .int 0, .null, .null, .int 0, .int 0, .int 0, .null, .long 0]) hx hb hts0 zinX5 tyX5 tyX5_ok hown (hts (.classLink RL 93 RX5) (List.mem_of_getElem? (i := 3) rfl)) (hts (.instantiable RX5 13) (List.mem_of_getElem? (i := 4) rfl)) (hts (.initialized RX5) (List.mem_of_getElem? (i := 5) rfl)) hK.1 hP hD hS hA rfl zdfX5 (Nat.le_of_ble_eq_true rfl) (Nat.le_of_ble_eq_true rfl) dL_law_8 (fun n3 H hP hD hS => ?_)
  refine lv_dup hx hb dL_law_11 rfl ?_
  refine zcC (c_X5_init l D g n3 H.size) hx hb hml hown hts gL_law_X5_init rfl (List.mem_of_getElem? (i := 5) rfl) (List.mem_of_getElem? (i := 62) rfl) (List.mem_of_getElem? (i := 63) rfl) rfl ⟨by decide, by decide, by decide⟩ ⟨Nat.le_of_ble_eq_true rfl, Nat.le_of_ble_eq_true rfl⟩ ⟨rfl, rfl⟩ hK hAO hP hD hS hA hl.1 (Nat.le_of_ble_eq_true rfl) ⟨Nat.le_of_ble_eq_true rfl, Nat.le_of_ble_eq_true rfl⟩ dL_law_12 (fun h4 H9 locs9 h9 hP9 hD9 hS9 => ?_)
  subst h9
  have hP := hP9; have hD := hD9; have hS := hS9
  clear hP9 hD9 hS9
  refine lv_astore_n (lv' := [(2, .ref (h4 0 0)), (1, .ref (h2 0 0)), (0, .ref b)]) hx hb dL_law_15 rfl hl (by decide) rfl (fun ls hl => ?_)
  refine lv_iconst (v := 1) hx hb dL_law_16 (by decide) ?_
  refine z_newJ hx hb (hts _ (List.mem_of_getElem? (i := 6) rfl)) hK hP hD hS hA 2 rfl (Nat.le_of_ble_eq_true rfl) (Nat.le_of_ble_eq_true rfl) dL_law_17 (fun q1 H hP hD hS => ?_)
  refine lv_astore_n (lv' := [(3, .ref q1), (2, .ref (h4 0 0)), (1, .ref (h2 0 0)), (0, .ref b)]) hx hb dL_law_19 rfl hl (by decide) rfl (fun ls hl => ?_)
  refine lv_iconst (v := 1) hx hb dL_law_20 (by decide) ?_
  refine z_newD hx hb (hts _ (List.mem_of_getElem? (i := 7) rfl)) hK hP hD hS hA 3 rfl (Nat.le_of_ble_eq_true rfl) (Nat.le_of_ble_eq_true rfl) dL_law_21 (fun q2 H hP hD hS => ?_)
  refine lv_astore (lv' := [(4, .ref q2), (3, .ref q1), (2, .ref (h4 0 0)), (1, .ref (h2 0 0)), (0, .ref b)]) hx hb dL_law_23 hl (by decide) rfl (fun ls hl => ?_)
  refine lv_iconst (v := 0) hx hb dL_law_25 (by decide) ?_
  refine lv_istore (lv' := [(5, .int 0), (4, .ref q2), (3, .ref q1), (2, .ref (h4 0 0)), (1, .ref (h2 0 0)), (0, .ref b)]) hx hb dL_law_26 hl (by decide) rfl (fun ls hl => ?_)
  have ef : (∀ f : Nat → Nat → Nat, True) := fun _ => trivial
  have hP : va_P D vwCl (zF [zB_X4 (h2 0) (h2 1) (h2 2) (h2 9) (h2 10), zB_X3 (g 0) (h2 1) zT0, zB_X1 (g 1) (h2 2) (h2 3) (h2 4) (h2 5) (h2 6) (h2 7) (h2 8) zO0, zB_X3 (g 0) (h2 3) zT0, zB_X3 (g 0) (h2 4) zT0, zB_X3 (g 0) (h2 5) zT0, zB_X3 (g 0) (h2 6) zT0, zB_X3 (g 0) (h2 7) zT0, zB_X3 (g 0) (h2 8) zT0, zB_X2 (g 0) (h2 9) zO0, zB_X0 (g 0) (h2 10) zO0, zB_X5 (g 0) (h4 0) zM0 0, zB_XJ (g 2) (fun _ => q1) (fun _ => 0), zB_XD (g 3) (fun _ => q2) (fun _ => 0)]) _ := hP
  have hD : va_D (fun q : Nat => s.heap.size ≤ q) (zF [zB_X4 (h2 0) (h2 1) (h2 2) (h2 9) (h2 10), zB_X3 (g 0) (h2 1) zT0, zB_X1 (g 1) (h2 2) (h2 3) (h2 4) (h2 5) (h2 6) (h2 7) (h2 8) zO0, zB_X3 (g 0) (h2 3) zT0, zB_X3 (g 0) (h2 4) zT0, zB_X3 (g 0) (h2 5) zT0, zB_X3 (g 0) (h2 6) zT0, zB_X3 (g 0) (h2 7) zT0, zB_X3 (g 0) (h2 8) zT0, zB_X2 (g 0) (h2 9) zO0, zB_X0 (g 0) (h2 10) zO0, zB_X5 (g 0) (h4 0) zM0 0, zB_XJ (g 2) (fun _ => q1) (fun _ => 0), zB_XD (g 3) (fun _ => q2) (fun _ => 0)]) := hD
  have hP2 := zsubB (cs := zWd g (h2 0) (h2 1) (h2 2) (h2 9) (h2 10) (h2 3) (h2 4) (h2 5) (h2 6) (h2 7) (h2 8) (h4 0) (fun _ => q1) (fun _ => q2) zO0 zT0 zT0 zT0 zT0 zT0 zT0 zT0 zO0 zO0 zM0 0 (fun _ => 0) (fun _ => 0)) hP [0, 2, 3, 4, 5, 6, 7, 8, 1, 9, 10, 11, 12, 13] rfl rfl
  have hD2 := zDsubB (cs := zWd g (h2 0) (h2 1) (h2 2) (h2 9) (h2 10) (h2 3) (h2 4) (h2 5) (h2 6) (h2 7) (h2 8) (h4 0) (fun _ => q1) (fun _ => q2) zO0 zT0 zT0 zT0 zT0 zT0 zT0 zT0 zO0 zO0 zM0 0 (fun _ => 0) (fun _ => 0)) hD [0, 2, 3, 4, 5, 6, 7, 8, 1, 9, 10, 11, 12, 13] (by decide) rfl rfl
  have hl : lv_has ls 9 [(0, .ref b), (1, .ref (h2 0 0)), (2, .ref (h4 0 0)), (3, .ref q1), (4, .ref q2), (5, .int (nI 0))] := ⟨hl.1, hl.2.1, fun q hq => hl.2.2 q (by
    simp only [List.mem_cons, List.not_mem_nil, or_false] at hq ⊢
    rcases hq with rfl | rfl | rfl | rfl | rfl | rfl
    · exact Or.inr (Or.inr (Or.inr (Or.inr (Or.inr rfl))))
    · exact Or.inr (Or.inr (Or.inr (Or.inr (Or.inl rfl))))
    · exact Or.inr (Or.inr (Or.inr (Or.inl rfl)))
    · exact Or.inr (Or.inr (Or.inl rfl))
    · exact Or.inr (Or.inl rfl)
    · exact Or.inl rfl)⟩
  refine lk_loop (y := fun _ => q1) (yd := fun _ => q2) hx hb hr hml hown hts hX hbl hK hE hst hL (fun H' locs' ls' k' n' hk hn hlo => ?_) (L + 1) 0 _ _ _ _ ls zO0 zT0 zT0 zT0 zT0 zT0 zT0 zT0 zO0 zO0 zM0 0 (fun _ => 0) (fun _ => 0) (by omega) (Nat.zero_le _) (Nat.le_of_ble_eq_true rfl) (Nat.le_of_ble_eq_true rfl) zinv0 hP2 hD2 hS hl
  refine lv_iconst (v := 1) hx hb dL_law_1803 (by decide) ?_
  refine W.widen (k := 601024) (n := 7293034) hk hn ?_
  intro T hT X
  have X0 : Stand p l e room_1 s m #[Value.ref b] below meth c T [] 601024 7293034 := Stand.forget (locs := []) (extra := locs') X hlo
  exact lw_ret (d0 := s.drawn) (Drawn.sameBut.refl _ _) hx hb hr hlocks dL_law_1804 T hT X0
