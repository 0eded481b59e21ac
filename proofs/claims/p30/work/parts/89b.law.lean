/-! the steps of the law's loop -/
set_option maxHeartbeats 1000000 in
set_option maxRecDepth 100000 in
theorem lp_agree {p : Program} {l : Launch} {e : Env} {s : State} {m : MethodId} {below : List Frame} {meth : Method} {c : Code} {b L : Nat} {xs : Nat → Int32} {D : va_G} {g : Nat → ClassId} {f h u o x t0 t1 t2 t3 t4 t5 yi yq : Nat → Nat} {Q9 : State → Prop} {H : Heap} {locs : List Loc} {cells slots k : Nat} {ls : Array Slot} {Z T0 T1 T2 T3 T4 T5 T O I M : Nat → Nat → Int32} {Q : Nat → Nat → Int64} {xv yv : Int32}
    (hx : p.tables.exec = Jvm.exec) (hb : c.code = cL_law) (hml : c.maxLocals = 11) (hown : s.vm.findClass RL = some m.cls) (hts : ∀ w ∈ wsL_law, w.before #[Value.ref b] s = true) (hX : va_X b L xs s s.heap) (hbl : b < s.heap.size) (hK : zK D (zT g) s) (hL : L ≤ 260)
    (V : zPI Z T M I Q) (hP : va_P D vwCl (zF (zWp g f h u o x t0 t1 t2 t3 t4 t5 yi yq Z T0 T1 T2 T3 T4 T5 T O I Q)) H) (hD : va_D (fun q : Nat => s.heap.size ≤ q) (zF (zWp g f h u o x t0 t1 t2 t3 t4 t5 yi yq Z T0 T1 T2 T3 T4 T5 T O I Q))) (hS : va_S (fun q : Nat => s.heap.size ≤ q) s.heap H locs) (hl : lv_has ls 11 [(10, .int yv), (9, .int xv), (0, .ref b), (1, .ref (f 0)), (2, .ref (yi 1)), (3, .ref (yi 2)), (4, .ref (yq 1)), (5, .ref (yq 2)), (6, .ref (yq 3)), (7, .ref (yq 4)), (8, .int (nI k))]) (hc : cells ≤ 600130) (hsl : slots ≤ 7301080)
    (kk : ∀ (H' : Heap) (locs' : List Loc) (ls' : Array Slot) (Z' T0' T1' T2' T3' T4' T5' T' O' I' M' : Nat → Nat → Int32) (Q' : Nat → Nat → Int64), zPI Z' T' M' I' Q' → va_P D vwCl (zF (zWp g f h u o x t0 t1 t2 t3 t4 t5 yi yq Z' T0' T1' T2' T3' T4' T5' T' O' I' Q')) H' → va_D (fun q : Nat => s.heap.size ≤ q) (zF (zWp g f h u o x t0 t1 t2 t3 t4 t5 yi yq Z' T0' T1' T2' T3' T4' T5' T' O' I' Q')) → va_S (fun q : Nat => s.heap.size ≤ q) s.heap H' locs' → lv_has ls' 11 [(0, .ref b), (1, .ref (f 0)), (2, .ref (yi 1)), (3, .ref (yi 2)), (4, .ref (yq 1)), (5, .ref (yq 2)), (6, .ref (yq 3)), (7, .ref (yq 4)), (8, .int (nI (k + 1)))] → W p l e room_1 s m #[Value.ref b] below meth c H' locs' cells slots Q9 (F0 m 61 ls' [])) : W p l e room_1 s m #[Value.ref b] below meth c H locs cells slots Q9 (F0 m 148 ls []) := by
  have hbA : ¬ (fun q : Nat => s.heap.size ≤ q) b := Nat.not_le.mpr hbl
  refine lv_aload_n hx hb dL_law_148 rfl (lv_at hl 3 rfl) ?_
  refine lv_iload hx hb dL_law_149 (lv_at hl 0 rfl) ?_
  refine lv_aload_n hx hb dL_law_151 rfl (lv_at hl 4 rfl) ?_
  refine lv_aload_n hx hb dL_law_152 rfl (lv_at hl 5 rfl) ?_
  refine lv_aload hx hb dL_law_153 (lv_at hl 6 rfl) ?_
  refine lv_aload hx hb dL_law_155 (lv_at hl 7 rfl) ?_
  refine lv_aload hx hb dL_law_157 (lv_at hl 8 rfl) ?_
  refine lv_aload hx hb dL_law_159 (lv_at hl 9 rfl) ?_
  refine zcSO (n := 8) (c_L_agree l D g f h u o x t0 t1 t2 t3 t4 t5 yi yq Z T0 T1 T2 T3 T4 T5 T O I Q yv M V) hx hb hml hown hts gL_law_L_agree rfl ⟨by decide, by decide, by decide⟩ ⟨Nat.le_of_ble_eq_true rfl, Nat.le_of_ble_eq_true rfl⟩ ⟨rfl, rfl⟩ hK hP hl.1 rfl rfl (Nat.le_of_ble_eq_true rfl) ⟨hc, hsl⟩ dL_law_161 ?_
  refine zif_ne (tgt := 169) hx hb dL_law_164 (by decide) (fun c9 => ?_) (fun c9 => ?_)
  · refine lv_iinc (v := nI (k + 1)) (lv' := [(8, .int (nI (k + 1))), (10, .int yv), (9, .int xv), (0, .ref b), (1, .ref (f 0)), (2, .ref (yi 1)), (3, .ref (yi 2)), (4, .ref (yq 1)), (5, .ref (yq 2)), (6, .ref (yq 3)), (7, .ref (yq 4))]) hx hb dL_law_169 hl (k := 10) rfl (nI_add _ 1) (by decide) rfl (fun ls hl => ?_)
    refine lv_goto (tgt := 61) hx hb dL_law_172 (by decide) ?_
    exact kk H locs ls Z T0 T1 T2 T3 T4 T5 T O I M Q V hP hD hS (lv_sub hl [3, 4, 5, 6, 7, 8, 9, 10, 0] rfl)
  · cases c9
set_option maxHeartbeats 1000000 in
set_option maxRecDepth 100000 in
theorem lp_breads {p : Program} {l : Launch} {e : Env} {s : State} {m : MethodId} {below : List Frame} {meth : Method} {c : Code} {b L : Nat} {xs : Nat → Int32} {D : va_G} {g : Nat → ClassId} {f h u o x t0 t1 t2 t3 t4 t5 yi yq : Nat → Nat} {Q9 : State → Prop} {H : Heap} {locs : List Loc} {cells slots k : Nat} {ls : Array Slot} {Z T0 T1 T2 T3 T4 T5 T O I M : Nat → Nat → Int32} {Q : Nat → Nat → Int64} {xv yv : Int32}
    (hx : p.tables.exec = Jvm.exec) (hb : c.code = cL_law) (hml : c.maxLocals = 11) (hown : s.vm.findClass RL = some m.cls) (hts : ∀ w ∈ wsL_law, w.before #[Value.ref b] s = true) (hX : va_X b L xs s s.heap) (hbl : b < s.heap.size) (hK : zK D (zT g) s) (hL : L ≤ 260)
    (V : zPI Z T M I Q) (hP : va_P D vwCl (zF (zWp g f h u o x t0 t1 t2 t3 t4 t5 yi yq Z T0 T1 T2 T3 T4 T5 T O I Q)) H) (hD : va_D (fun q : Nat => s.heap.size ≤ q) (zF (zWp g f h u o x t0 t1 t2 t3 t4 t5 yi yq Z T0 T1 T2 T3 T4 T5 T O I Q))) (hS : va_S (fun q : Nat => s.heap.size ≤ q) s.heap H locs) (hl : lv_has ls 11 [(10, .int yv), (9, .int xv), (0, .ref b), (1, .ref (f 0)), (2, .ref (yi 1)), (3, .ref (yi 2)), (4, .ref (yq 1)), (5, .ref (yq 2)), (6, .ref (yq 3)), (7, .ref (yq 4)), (8, .int (nI k))]) (hc : cells ≤ 600130) (hsl : slots ≤ 7301080)
    (kk : ∀ (H' : Heap) (locs' : List Loc) (ls' : Array Slot) (Z' T0' T1' T2' T3' T4' T5' T' O' I' M' : Nat → Nat → Int32) (Q' : Nat → Nat → Int64), zPI Z' T' M' I' Q' → va_P D vwCl (zF (zWp g f h u o x t0 t1 t2 t3 t4 t5 yi yq Z' T0' T1' T2' T3' T4' T5' T' O' I' Q')) H' → va_D (fun q : Nat => s.heap.size ≤ q) (zF (zWp g f h u o x t0 t1 t2 t3 t4 t5 yi yq Z' T0' T1' T2' T3' T4' T5' T' O' I' Q')) → va_S (fun q : Nat => s.heap.size ≤ q) s.heap H' locs' → lv_has ls' 11 [(0, .ref b), (1, .ref (f 0)), (2, .ref (yi 1)), (3, .ref (yi 2)), (4, .ref (yq 1)), (5, .ref (yq 2)), (6, .ref (yq 3)), (7, .ref (yq 4)), (8, .int (nI (k + 1)))] → W p l e room_1 s m #[Value.ref b] below meth c H' locs' cells slots Q9 (F0 m 61 ls' [])) : W p l e room_1 s m #[Value.ref b] below meth c H locs cells slots Q9 (F0 m 103 ls []) := by
  refine lv_aload_n hx hb dL_law_103 rfl (lv_at hl 3 rfl) ?_
  refine lv_iload hx hb dL_law_104 (lv_at hl 1 rfl) ?_
  refine lv_iload hx hb dL_law_106 (lv_at hl 0 rfl) ?_
  refine lv_aload_n hx hb dL_law_108 rfl (lv_at hl 4 rfl) ?_
  refine lv_aload_n hx hb dL_law_109 rfl (lv_at hl 5 rfl) ?_
  refine lv_aload hx hb dL_law_110 (lv_at hl 6 rfl) ?_
  refine lv_aload hx hb dL_law_112 (lv_at hl 7 rfl) ?_
  refine lv_aload hx hb dL_law_114 (lv_at hl 8 rfl) ?_
  refine lv_aload hx hb dL_law_116 (lv_at hl 9 rfl) ?_
  refine zcSw (n := 9) (c_L_breads l D g f h u o x t0 t1 t2 t3 t4 t5 yi yq Z T0 T1 T2 T3 T4 T5 T O I Q xv yv M V) hx hb hml hown hts gL_law_L_breads rfl ⟨by decide, by decide, by decide⟩ ⟨Nat.le_of_ble_eq_true rfl, Nat.le_of_ble_eq_true rfl⟩ ⟨rfl, rfl⟩ hK hP hD hS hl.1 rfl rfl (Nat.le_of_ble_eq_true rfl) ⟨hc, hsl⟩ dL_law_118 (fun H1 locs1 hP1 hk1 hS1 => ?_)
  have G := zb_all (T0 := T0) (T1 := T1) (T2 := T2) (T3 := T3) (T4 := T4) (T5 := T5) (O := O) V xv yv
  generalize v_L_breads Z T0 T1 T2 T3 T4 T5 T O I Q xv yv = r at G hP1 ⊢
  obtain ⟨r1, M', V'⟩ := G
  have hP1 : va_P D vwCl (zF (zWp g f h u o x t0 t1 t2 t3 t4 t5 yi yq r.2.1 r.2.2.1 r.2.2.2.1 r.2.2.2.2.1 r.2.2.2.2.2.1 r.2.2.2.2.2.2.1 r.2.2.2.2.2.2.2.1 r.2.2.2.2.2.2.2.2.1 r.2.2.2.2.2.2.2.2.2.1 r.2.2.2.2.2.2.2.2.2.2.1 r.2.2.2.2.2.2.2.2.2.2.2)) H1 := hP1
  have hD1 : va_D (fun q : Nat => s.heap.size ≤ q) (zF (zWp g f h u o x t0 t1 t2 t3 t4 t5 yi yq r.2.1 r.2.2.1 r.2.2.2.1 r.2.2.2.2.1 r.2.2.2.2.2.1 r.2.2.2.2.2.2.1 r.2.2.2.2.2.2.2.1 r.2.2.2.2.2.2.2.2.1 r.2.2.2.2.2.2.2.2.2.1 r.2.2.2.2.2.2.2.2.2.2.1 r.2.2.2.2.2.2.2.2.2.2.2)) := zD_addr hD (zad_Wp g f h u o x t0 t1 t2 t3 t4 t5 yi yq Z T0 T1 T2 T3 T4 T5 T O I r.2.1 r.2.2.1 r.2.2.2.1 r.2.2.2.2.1 r.2.2.2.2.2.1 r.2.2.2.2.2.2.1 r.2.2.2.2.2.2.2.1 r.2.2.2.2.2.2.2.2.1 r.2.2.2.2.2.2.2.2.2.1 r.2.2.2.2.2.2.2.2.2.2.1 Q r.2.2.2.2.2.2.2.2.2.2.2)
  refine zif_eq (tgt := 167) hx hb dL_law_121 (by decide) (fun c9 => ?_) (fun c9 => ?_)
  · rw [r1] at c9; cases c9
  · refine lv_goto (tgt := 148) hx hb dL_law_124 (by decide) ?_
    exact lp_agree hx hb hml hown hts hX hbl hK hL V' hP1 hD1 hS1 hl hc hsl kk
set_option maxHeartbeats 1000000 in
set_option maxRecDepth 100000 in
theorem lp_persons {p : Program} {l : Launch} {e : Env} {s : State} {m : MethodId} {below : List Frame} {meth : Method} {c : Code} {b L : Nat} {xs : Nat → Int32} {D : va_G} {g : Nat → ClassId} {f h u o x t0 t1 t2 t3 t4 t5 yi yq : Nat → Nat} {Q9 : State → Prop} {H : Heap} {locs : List Loc} {cells slots k : Nat} {ls : Array Slot} {Z T0 T1 T2 T3 T4 T5 T O I M : Nat → Nat → Int32} {Q : Nat → Nat → Int64} {xv yv : Int32}
    (hx : p.tables.exec = Jvm.exec) (hb : c.code = cL_law) (hml : c.maxLocals = 11) (hown : s.vm.findClass RL = some m.cls) (hts : ∀ w ∈ wsL_law, w.before #[Value.ref b] s = true) (hX : va_X b L xs s s.heap) (hbl : b < s.heap.size) (hK : zK D (zT g) s) (hL : L ≤ 260)
    (V : zPI Z T M I Q) (hP : va_P D vwCl (zF (zWp g f h u o x t0 t1 t2 t3 t4 t5 yi yq Z T0 T1 T2 T3 T4 T5 T O I Q)) H) (hD : va_D (fun q : Nat => s.heap.size ≤ q) (zF (zWp g f h u o x t0 t1 t2 t3 t4 t5 yi yq Z T0 T1 T2 T3 T4 T5 T O I Q))) (hS : va_S (fun q : Nat => s.heap.size ≤ q) s.heap H locs) (hl : lv_has ls 11 [(10, .int yv), (9, .int xv), (0, .ref b), (1, .ref (f 0)), (2, .ref (yi 1)), (3, .ref (yi 2)), (4, .ref (yq 1)), (5, .ref (yq 2)), (6, .ref (yq 3)), (7, .ref (yq 4)), (8, .int (nI k))]) (hc : cells ≤ 600130) (hsl : slots ≤ 7301080)
    (kk : ∀ (H' : Heap) (locs' : List Loc) (ls' : Array Slot) (Z' T0' T1' T2' T3' T4' T5' T' O' I' M' : Nat → Nat → Int32) (Q' : Nat → Nat → Int64), zPI Z' T' M' I' Q' → va_P D vwCl (zF (zWp g f h u o x t0 t1 t2 t3 t4 t5 yi yq Z' T0' T1' T2' T3' T4' T5' T' O' I' Q')) H' → va_D (fun q : Nat => s.heap.size ≤ q) (zF (zWp g f h u o x t0 t1 t2 t3 t4 t5 yi yq Z' T0' T1' T2' T3' T4' T5' T' O' I' Q')) → va_S (fun q : Nat => s.heap.size ≤ q) s.heap H' locs' → lv_has ls' 11 [(0, .ref b), (1, .ref (f 0)), (2, .ref (yi 1)), (3, .ref (yi 2)), (4, .ref (yq 1)), (5, .ref (yq 2)), (6, .ref (yq 3)), (7, .ref (yq 4)), (8, .int (nI (k + 1)))] → W p l e room_1 s m #[Value.ref b] below meth c H' locs' cells slots Q9 (F0 m 61 ls' [])) : W p l e room_1 s m #[Value.ref b] below meth c H locs cells slots Q9 (F0 m 127 ls []) := by
  refine lv_aload_n hx hb dL_law_127 rfl (lv_at hl 3 rfl) ?_
  refine lv_iload hx hb dL_law_128 (lv_at hl 1 rfl) ?_
  refine lv_iload hx hb dL_law_130 (lv_at hl 0 rfl) ?_
  refine lv_aload_n hx hb dL_law_132 rfl (lv_at hl 4 rfl) ?_
  refine lv_aload_n hx hb dL_law_133 rfl (lv_at hl 5 rfl) ?_
  refine lv_aload hx hb dL_law_134 (lv_at hl 6 rfl) ?_
  refine lv_aload hx hb dL_law_136 (lv_at hl 7 rfl) ?_
  refine lv_aload hx hb dL_law_138 (lv_at hl 8 rfl) ?_
  refine lv_aload hx hb dL_law_140 (lv_at hl 9 rfl) ?_
  refine zcSw (n := 9) (c_L_persons l D g f h u o x t0 t1 t2 t3 t4 t5 yi yq Z T0 T1 T2 T3 T4 T5 T O I Q xv yv M V) hx hb hml hown hts gL_law_L_persons rfl ⟨by decide, by decide, by decide⟩ ⟨Nat.le_of_ble_eq_true rfl, Nat.le_of_ble_eq_true rfl⟩ ⟨rfl, rfl⟩ hK hP hD hS hl.1 rfl rfl (Nat.le_of_ble_eq_true rfl) ⟨hc, hsl⟩ dL_law_142 (fun H1 locs1 hP1 hk1 hS1 => ?_)
  have G := zp_all (T0 := T0) (T1 := T1) (T2 := T2) (T3 := T3) (T4 := T4) (T5 := T5) (O := O) V xv yv
  generalize v_L_persons Z T0 T1 T2 T3 T4 T5 T O I Q xv yv = r at G hP1 ⊢
  obtain ⟨r1, M', V'⟩ := G
  have hP1 : va_P D vwCl (zF (zWp g f h u o x t0 t1 t2 t3 t4 t5 yi yq r.2.1 r.2.2.1 r.2.2.2.1 r.2.2.2.2.1 r.2.2.2.2.2.1 r.2.2.2.2.2.2.1 r.2.2.2.2.2.2.2.1 r.2.2.2.2.2.2.2.2.1 r.2.2.2.2.2.2.2.2.2.1 r.2.2.2.2.2.2.2.2.2.2.1 r.2.2.2.2.2.2.2.2.2.2.2)) H1 := hP1
  have hD1 : va_D (fun q : Nat => s.heap.size ≤ q) (zF (zWp g f h u o x t0 t1 t2 t3 t4 t5 yi yq r.2.1 r.2.2.1 r.2.2.2.1 r.2.2.2.2.1 r.2.2.2.2.2.1 r.2.2.2.2.2.2.1 r.2.2.2.2.2.2.2.1 r.2.2.2.2.2.2.2.2.1 r.2.2.2.2.2.2.2.2.2.1 r.2.2.2.2.2.2.2.2.2.2.1 r.2.2.2.2.2.2.2.2.2.2.2)) := zD_addr hD (zad_Wp g f h u o x t0 t1 t2 t3 t4 t5 yi yq Z T0 T1 T2 T3 T4 T5 T O I r.2.1 r.2.2.1 r.2.2.2.1 r.2.2.2.2.1 r.2.2.2.2.2.1 r.2.2.2.2.2.2.1 r.2.2.2.2.2.2.2.1 r.2.2.2.2.2.2.2.2.1 r.2.2.2.2.2.2.2.2.2.1 r.2.2.2.2.2.2.2.2.2.2.1 Q r.2.2.2.2.2.2.2.2.2.2.2)
  refine zif_eq (tgt := 167) hx hb dL_law_145 (by decide) (fun c9 => ?_) (fun c9 => ?_)
  · rw [r1] at c9; cases c9
  · exact lp_agree hx hb hml hown hts hX hbl hK hL V' hP1 hD1 hS1 hl hc hsl kk
set_option maxHeartbeats 1000000 in
set_option maxRecDepth 100000 in
theorem lp_step {p : Program} {l : Launch} {e : Env} {s : State} {m : MethodId} {below : List Frame} {meth : Method} {c : Code} {b L : Nat} {xs : Nat → Int32} {D : va_G} {g : Nat → ClassId} {f h u o x t0 t1 t2 t3 t4 t5 yi yq : Nat → Nat} {Q9 : State → Prop} {H : Heap} {locs : List Loc} {cells slots k : Nat} {ls : Array Slot} {Z T0 T1 T2 T3 T4 T5 T O I M : Nat → Nat → Int32} {Q : Nat → Nat → Int64}
    (hx : p.tables.exec = Jvm.exec) (hb : c.code = cL_law) (hml : c.maxLocals = 11) (hown : s.vm.findClass RL = some m.cls) (hts : ∀ w ∈ wsL_law, w.before #[Value.ref b] s = true) (hX : va_X b L xs s s.heap) (hbl : b < s.heap.size) (hK : zK D (zT g) s) (hL : L ≤ 260)
    (V : zPI Z T M I Q) (hP : va_P D vwCl (zF (zWp g f h u o x t0 t1 t2 t3 t4 t5 yi yq Z T0 T1 T2 T3 T4 T5 T O I Q)) H) (hD : va_D (fun q : Nat => s.heap.size ≤ q) (zF (zWp g f h u o x t0 t1 t2 t3 t4 t5 yi yq Z T0 T1 T2 T3 T4 T5 T O I Q))) (hS : va_S (fun q : Nat => s.heap.size ≤ q) s.heap H locs) (hl : lv_has ls 11 [(0, .ref b), (1, .ref (f 0)), (2, .ref (yi 1)), (3, .ref (yi 2)), (4, .ref (yq 1)), (5, .ref (yq 2)), (6, .ref (yq 3)), (7, .ref (yq 4)), (8, .int (nI k))]) (hk : k < 26) (hc : cells ≤ 600130) (hsl : slots ≤ 7301080)
    (kk : ∀ (H' : Heap) (locs' : List Loc) (ls' : Array Slot) (Z' T0' T1' T2' T3' T4' T5' T' O' I' M' : Nat → Nat → Int32) (Q' : Nat → Nat → Int64), zPI Z' T' M' I' Q' → va_P D vwCl (zF (zWp g f h u o x t0 t1 t2 t3 t4 t5 yi yq Z' T0' T1' T2' T3' T4' T5' T' O' I' Q')) H' → va_D (fun q : Nat => s.heap.size ≤ q) (zF (zWp g f h u o x t0 t1 t2 t3 t4 t5 yi yq Z' T0' T1' T2' T3' T4' T5' T' O' I' Q')) → va_S (fun q : Nat => s.heap.size ≤ q) s.heap H' locs' → lv_has ls' 11 [(0, .ref b), (1, .ref (f 0)), (2, .ref (yi 1)), (3, .ref (yi 2)), (4, .ref (yq 1)), (5, .ref (yq 2)), (6, .ref (yq 3)), (7, .ref (yq 4)), (8, .int (nI (k + 1)))] → W p l e room_1 s m #[Value.ref b] below meth c H' locs' cells slots Q9 (F0 m 61 ls' [])) : W p l e room_1 s m #[Value.ref b] below meth c H locs cells slots Q9 (F0 m 68 ls []) := by
  have hbA : ¬ (fun q : Nat => s.heap.size ≤ q) b := Nat.not_le.mpr hbl
  refine lv_aload_n hx hb dL_law_68 rfl (lv_at hl 0 rfl) ?_
  refine lv_iconst (v := 2) hx hb dL_law_69 (by decide) ?_
  refine lv_iload hx hb dL_law_70 (lv_at hl 8 rfl) ?_
  refine lv_imul hx hb dL_law_72 ?_
  refine lv_is (show (2 : Int32) * nI k = nI (2 * k) from pk_mul 2 k) ?_
  refine zcCell (n := 2) (c_L_cell l b L xs (2 * k) (by omega) hL) hx hb hml hown hts gL_law_L_cell rfl ⟨by decide, by decide, by decide⟩ ⟨Nat.le_of_ble_eq_true rfl, Nat.le_of_ble_eq_true rfl⟩ ⟨rfl, rfl⟩ hX hbl hbA hS hl.1 rfl rfl (Nat.le_of_ble_eq_true rfl) ⟨hc, hsl⟩ dL_law_73 ?_
  refine lv_istore (lv' := [(9, .int (v_L_cell L xs (2 * k))), (0, .ref b), (1, .ref (f 0)), (2, .ref (yi 1)), (3, .ref (yi 2)), (4, .ref (yq 1)), (5, .ref (yq 2)), (6, .ref (yq 3)), (7, .ref (yq 4)), (8, .int (nI k))]) hx hb dL_law_76 hl (by decide) rfl (fun ls hl => ?_)
  refine lv_aload_n hx hb dL_law_78 rfl (lv_at hl 1 rfl) ?_
  refine lv_iconst (v := 2) hx hb dL_law_79 (by decide) ?_
  refine lv_iload hx hb dL_law_80 (lv_at hl 9 rfl) ?_
  refine lv_imul hx hb dL_law_82 ?_
  refine lv_is (show (2 : Int32) * nI k = nI (2 * k) from pk_mul 2 k) ?_
  refine lv_iconst (v := 1) hx hb dL_law_83 (by decide) ?_
  refine lv_iadd hx hb dL_law_84 ?_
  refine lv_is (show nI (2 * k) + 1 = nI (2 * k + 1) from nI_1 _) ?_
  refine zcCell (n := 2) (c_L_cell l b L xs (2 * k + 1) (by omega) hL) hx hb hml hown hts gL_law_L_cell rfl ⟨by decide, by decide, by decide⟩ ⟨Nat.le_of_ble_eq_true rfl, Nat.le_of_ble_eq_true rfl⟩ ⟨rfl, rfl⟩ hX hbl hbA hS hl.1 rfl rfl (Nat.le_of_ble_eq_true rfl) ⟨hc, hsl⟩ dL_law_85 ?_
  refine lv_istore (lv' := [(10, .int (v_L_cell L xs (2 * k + 1))), (9, .int (v_L_cell L xs (2 * k))), (0, .ref b), (1, .ref (f 0)), (2, .ref (yi 1)), (3, .ref (yi 2)), (4, .ref (yq 1)), (5, .ref (yq 2)), (6, .ref (yq 3)), (7, .ref (yq 4)), (8, .int (nI k))]) hx hb dL_law_88 hl (by decide) rfl (fun ls hl => ?_)
  generalize v_L_cell L xs (2 * k) = xv at hl ⊢
  generalize v_L_cell L xs (2 * k + 1) = yv at hl ⊢
  refine lv_iload hx hb dL_law_90 (lv_at hl 1 rfl) ?_
  refine lv_bipush (v := 20) hx hb dL_law_92 (by decide) ?_
  refine lv_ishr hx hb dL_law_94 ?_
  refine lv_iconst (v := 3) hx hb dL_law_95 (by decide) ?_
  refine zcSO (n := 2) (c_L_at l D g (xv >>> (20 &&& 31)) 3 (by decide)) hx hb hml hown hts gL_law_L_at rfl ⟨by decide, by decide, by decide⟩ ⟨Nat.le_of_ble_eq_true rfl, Nat.le_of_ble_eq_true rfl⟩ ⟨rfl, rfl⟩ hK (hP.sub [] rfl) hl.1 rfl rfl (Nat.le_of_ble_eq_true rfl) ⟨hc, hsl⟩ dL_law_96 ?_
  refine lv_iconst (v := 2) hx hb dL_law_99 (by decide) ?_
  refine lv_icmp_ge (tgt := 127) hx hb dL_law_100 (by decide) (fun c9 => ?_) (fun c9 => ?_)
  · exact lp_persons hx hb hml hown hts hX hbl hK hL V hP hD hS hl hc hsl kk
  · exact lp_breads hx hb hml hown hts hX hbl hK hL V hP hD hS hl hc hsl kk
set_option maxHeartbeats 1000000 in
set_option maxRecDepth 100000 in
theorem lp_loop {p : Program} {l : Launch} {e : Env} {s : State} {m : MethodId} {below : List Frame} {meth : Method} {c : Code} {b L : Nat} {xs : Nat → Int32} {D : va_G} {g : Nat → ClassId} {f h u o x t0 t1 t2 t3 t4 t5 yi yq : Nat → Nat} {Q9 : State → Prop} {cells slots : Nat}
    (hx : p.tables.exec = Jvm.exec) (hb : c.code = cL_law) (hml : c.maxLocals = 11) (hown : s.vm.findClass RL = some m.cls) (hts : ∀ w ∈ wsL_law, w.before #[Value.ref b] s = true) (hX : va_X b L xs s s.heap) (hbl : b < s.heap.size) (hK : zK D (zT g) s) (hL : L ≤ 260)
    (kend : ∀ (H' : Heap) (locs' : List Loc) (ls' : Array Slot), va_S (fun q : Nat => s.heap.size ≤ q) s.heap H' locs' → W p l e room_1 s m #[Value.ref b] below meth c H' locs' cells slots Q9 (F0 m 175 ls' [])) :
    ∀ (n k : Nat) (H : Heap) (locs : List Loc) (ls : Array Slot) (Z T0 T1 T2 T3 T4 T5 T O I M : Nat → Nat → Int32) (Q : Nat → Nat → Int64), 26 - k < n → k ≤ 26 → cells ≤ 600130 → slots ≤ 7301080 → zPI Z T M I Q → va_P D vwCl (zF (zWp g f h u o x t0 t1 t2 t3 t4 t5 yi yq Z T0 T1 T2 T3 T4 T5 T O I Q)) H → va_D (fun q : Nat => s.heap.size ≤ q) (zF (zWp g f h u o x t0 t1 t2 t3 t4 t5 yi yq Z T0 T1 T2 T3 T4 T5 T O I Q)) → va_S (fun q : Nat => s.heap.size ≤ q) s.heap H locs → lv_has ls 11 [(0, .ref b), (1, .ref (f 0)), (2, .ref (yi 1)), (3, .ref (yi 2)), (4, .ref (yq 1)), (5, .ref (yq 2)), (6, .ref (yq 3)), (7, .ref (yq 4)), (8, .int (nI k))] → W p l e room_1 s m #[Value.ref b] below meth c H locs cells slots Q9 (F0 m 61 ls []) := by
  intro n
  induction n with
  | zero => intro k H locs ls Z T0 T1 T2 T3 T4 T5 T O I M Q hn; exact absurd hn (Nat.not_lt_zero _)
  | succ n ih =>
    intro k H locs ls Z T0 T1 T2 T3 T4 T5 T O I M Q hn hk hc hsl V hP hD hS hl
    refine lv_iload hx hb dL_law_61 (lv_at hl 8 rfl) ?_
    refine lv_bipush (v := 26) hx hb dL_law_63 (by decide) ?_
    refine lv_icmp_ge (tgt := 175) hx hb dL_law_65 (by decide) (fun c9 => ?_) (fun c9 => ?_)
    · exact kend H locs ls hS
    · have c9 : k < 26 := by
        rcases Nat.lt_or_ge k 26 with q | q
        · exact q
        · exact absurd ((zlei (a := 26) (by decide) (by omega)).mpr q) c9
      exact lp_step hx hb hml hown hts hX hbl hK hL V hP hD hS hl c9 hc hsl (fun H' locs' ls' Z' T0' T1' T2' T3' T4' T5' T' O' I' M' Q' V' hP' hD' hS' hl' => ih (k + 1) H' locs' ls' Z' T0' T1' T2' T3' T4' T5' T' O' I' M' Q' (by omega) (by omega) hc hsl V' hP' hD' hS' hl')
