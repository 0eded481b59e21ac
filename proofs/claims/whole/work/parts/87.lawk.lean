/-! the law's cases -/
abbrev zWd (g : Nat → ClassId) (f h u o x t0 t1 t2 t3 t4 t5 uM y yd : Nat → Nat) (Z T0 T1 T2 T3 T4 T5 T O X M : Nat → Nat → Int32) (w : Int64) (J : Nat → Int64) (JD : Nat → UInt64) : List va_W := [zB_X4 f h u o x, zB_X1 (g 1) u t0 t1 t2 t3 t4 t5 Z, zB_X3 (g 0) t0 T0, zB_X3 (g 0) t1 T1, zB_X3 (g 0) t2 T2, zB_X3 (g 0) t3 T3, zB_X3 (g 0) t4 T4, zB_X3 (g 0) t5 T5, zB_X3 (g 0) h T, zB_X2 (g 0) o O, zB_X0 (g 0) x X, zB_X5 (g 0) uM M w, zB_XJ (g 2) y J, zB_XD (g 3) yd JD]
theorem zlin {i k L : Nat} (h : i + k < L) (hL : L < 2 ^ 31) : vp_in (nI i + nI k) L := by
  have e : nI i + nI k = nI (i + k) := (nI_addN i k).symm
  rw [e]; exact vp_in_nI h hL
theorem zlg0 {x y : Int64} (h : x = y) : lg_cmp x y = 0 := by subst h; unfold lg_cmp; simp
theorem lvb2 {ls : Array Slot} {q7 q6 : Nat × Value} {B : List (Nat × Value)} (h : lv_has ls 9 (q7 :: q6 :: B)) : lv_has ls 9 B := ⟨h.1, h.2.1, fun q hq => h.2.2 q (List.mem_cons_of_mem _ (List.mem_cons_of_mem _ hq))⟩
theorem lk_open_t {p : Program} {l : Launch} {e : Env} {s : State} {m : MethodId} {below : List Frame} {meth : Method} {c : Code} {b L : Nat} {xs : Nat → Int32} {D : va_G} {g : Nat → ClassId} {f h u o x t0 t1 t2 t3 t4 t5 uM y yd : Nat → Nat} {Q : State → Prop} {H : Heap} {locs : List Loc} {cells slots i : Nat} {ls : Array Slot} {Z T0 T1 T2 T3 T4 T5 T O X M : Nat → Nat → Int32} {w : Int64} {J : Nat → Int64} {JD : Nat → UInt64} (hx : p.tables.exec = Jvm.exec) (hb : c.code = cL_law) (hml : c.maxLocals = 9) (hown : s.vm.findClass RL = some m.cls) (hts : ∀ w ∈ wsL_law, w.before #[Value.ref b] s = true) (hX : va_X b L xs s s.heap) (hbl : b < s.heap.size) (hK : zK D (zT g) s) (hE : zE s.heap.size s) (hst : l.stackTraces = false)
    (V : zInv Z T0 T1 T2 T3 T4 T5 T X M) (hP : va_P D vwCl (zF (zWd g f h u o x t0 t1 t2 t3 t4 t5 uM y yd Z T0 T1 T2 T3 T4 T5 T O X M w J JD)) H) (hD : va_D (fun q : Nat => s.heap.size ≤ q) (zF (zWd g f h u o x t0 t1 t2 t3 t4 t5 uM y yd Z T0 T1 T2 T3 T4 T5 T O X M w J JD))) (hS : va_S (fun q : Nat => s.heap.size ≤ q) s.heap H locs) (hl : lv_has ls 9 [(0, .ref b), (1, .ref (f 0)), (2, .ref (uM 0)), (3, .ref (y 0)), (4, .ref (yd 0)), (5, .int (nI i))]) (hi : i + 4 ≤ L) (hL : L ≤ 2048) (hc : cells + 1 ≤ 601024) (hsl : slots + 6 ≤ 7293034)
    (kk : ∀ (H' : Heap) (locs' : List Loc) (ls' : Array Slot) (Z' T0' T1' T2' T3' T4' T5' T' O' X' M' : Nat → Nat → Int32) (w' : Int64) (J' : Nat → Int64) (JD' : Nat → UInt64), zInv Z' T0' T1' T2' T3' T4' T5' T' X' M' → va_P D vwCl (zF (zWd g f h u o x t0 t1 t2 t3 t4 t5 uM y yd Z' T0' T1' T2' T3' T4' T5' T' O' X' M' w' J' JD')) H' → va_D (fun q : Nat => s.heap.size ≤ q) (zF (zWd g f h u o x t0 t1 t2 t3 t4 t5 uM y yd Z' T0' T1' T2' T3' T4' T5' T' O' X' M' w' J' JD')) → va_S (fun q : Nat => s.heap.size ≤ q) s.heap H' locs' → lv_has ls' 9 [(0, .ref b), (1, .ref (f 0)), (2, .ref (uM 0)), (3, .ref (y 0)), (4, .ref (yd 0)), (5, .int (nI i))] → W p l e room_1 s m #[Value.ref b] below meth c H' locs' (cells + 1) (slots + 6) Q (F0 m 1797 ls' [])) (c3 : ¬ (xs (Int32.toNatClampNeg (nI i + 3))) = 0) : W p l e room_1 s m #[Value.ref b] below meth c H locs cells slots Q (F0 m 168 ls []) := by
  have hbA : ¬ (fun q : Nat => s.heap.size ≤ q) b := Nat.not_le.mpr hbl
  obtain ⟨k9, Z9, T09, T19, T29, T39, T49, T59, T9, J9, hM, h5, hJ, V1⟩ := Lr_open l D g s.heap.size f h u o x t0 t1 t2 t3 t4 t5 y Z T0 T1 T2 T3 T4 T5 T J (xs (Int32.toNatClampNeg (nI i + 1))) (xs (Int32.toNatClampNeg (nI i + 2))) true X M hst V
  refine lv_aload_n hx hb dL_law_168 rfl (lv_at hl 1 rfl) ?_
  refine lv_aload_n hx hb dL_law_169 rfl (lv_at hl 0 rfl) ?_
  refine lv_iload hx hb dL_law_170 (lv_at hl 5 rfl) ?_
  refine lv_iconst (v := 1) hx hb dL_law_172 (by decide) ?_
  refine lv_iadd hx hb dL_law_173 ?_
  refine va_sld hx hb hX hbl hbA hS (zlin (k := 1) (by omega) (by omega)) dL_law_174 ?_
  refine lv_aload_n hx hb dL_law_175 rfl (lv_at hl 0 rfl) ?_
  refine lv_iload hx hb dL_law_176 (lv_at hl 5 rfl) ?_
  refine lv_iconst (v := 2) hx hb dL_law_178 (by decide) ?_
  refine lv_iadd hx hb dL_law_179 ?_
  refine va_sld hx hb hX hbl hbA hS (zlin (k := 2) (by omega) (by omega)) dL_law_180 ?_
  refine lv_aload_n hx hb dL_law_181 rfl (lv_at hl 0 rfl) ?_
  refine lv_iload hx hb dL_law_182 (lv_at hl 5 rfl) ?_
  refine lv_iconst (v := 3) hx hb dL_law_184 (by decide) ?_
  refine lv_iadd hx hb dL_law_185 ?_
  refine va_sld hx hb hX hbl hbA hS (zlin (k := 3) (by omega) (by omega)) dL_law_186 ?_
  refine lv_if_eq (tgt := 194) hx hb dL_law_187 (by decide) (fun c9 => absurd c9 c3) (fun _ => ?_)
  refine lv_iconst (v := 1) hx hb dL_law_190 (by decide) ?_
  refine lv_goto (tgt := 195) hx hb dL_law_191 (by decide) ?_
  refine lv_aload_n hx hb dL_law_195 rfl (lv_at hl 3 rfl) ?_
  refine zcLS (n := 5) hM hx hb hml hown hts gL_law_L_open rfl ⟨by decide, by decide, by decide⟩ ⟨Nat.le_of_ble_eq_true rfl, Nat.le_of_ble_eq_true rfl⟩ ⟨rfl, rfl⟩ hK (zsubB (cs := [zB_X4 f h u o x, zB_X1 (g 1) u t0 t1 t2 t3 t4 t5 Z, zB_X3 (g 0) t0 T0, zB_X3 (g 0) t1 T1, zB_X3 (g 0) t2 T2, zB_X3 (g 0) t3 T3, zB_X3 (g 0) t4 T4, zB_X3 (g 0) t5 T5, zB_X3 (g 0) h T, zB_XJ (g 2) y J]) hP [0, 1, 2, 3, 4, 5, 6, 7, 8, 12] rfl rfl) (zDsubB (cs := [zB_X4 f h u o x, zB_X1 (g 1) u t0 t1 t2 t3 t4 t5 Z, zB_X3 (g 0) t0 T0, zB_X3 (g 0) t1 T1, zB_X3 (g 0) t2 T2, zB_X3 (g 0) t3 T3, zB_X3 (g 0) t4 T4, zB_X3 (g 0) t5 T5, zB_X3 (g 0) h T, zB_XJ (g 2) y J]) hD [0, 1, 2, 3, 4, 5, 6, 7, 8, 12] (by decide) rfl rfl) (zDsubB (cs := [zB_X4 f h u o x, zB_X1 (g 1) u t0 t1 t2 t3 t4 t5 Z, zB_X3 (g 0) t0 T0, zB_X3 (g 0) t1 T1, zB_X3 (g 0) t2 T2, zB_X3 (g 0) t3 T3, zB_X3 (g 0) t4 T4, zB_X3 (g 0) t5 T5, zB_X3 (g 0) h T, zB_XJ (g 2) y J]) hD [0, 1, 2, 3, 4, 5, 6, 7, 8, 12] (by decide) rfl rfl) hE (fun q hq => hS.2.1 q hq (Nat.not_le.mpr hq)) hS hl.1 rfl rfl (Nat.le_of_ble_eq_true rfl) ⟨hc, hsl⟩ dL_law_196 (fun H1 locs1 hP1 hk1 hS => ?_)
  obtain ⟨hP, hD⟩ := zjoinB (cs := [zB_X4 f h u o x, zB_X1 (g 1) u t0 t1 t2 t3 t4 t5 Z, zB_X3 (g 0) t0 T0, zB_X3 (g 0) t1 T1, zB_X3 (g 0) t2 T2, zB_X3 (g 0) t3 T3, zB_X3 (g 0) t4 T4, zB_X3 (g 0) t5 T5, zB_X3 (g 0) h T, zB_XJ (g 2) y J]) (cs' := [zB_X4 f h u o x, zB_X1 (g 1) u t0 t1 t2 t3 t4 t5 Z9, zB_X3 (g 0) t0 T09, zB_X3 (g 0) t1 T19, zB_X3 (g 0) t2 T29, zB_X3 (g 0) t3 T39, zB_X3 (g 0) t4 T49, zB_X3 (g 0) t5 T59, zB_X3 (g 0) h T9, zB_XJ (g 2) y J9]) hP hD [0, 1, 2, 3, 4, 5, 6, 7, 8, 12] (by decide) rfl rfl rfl rfl hk1 hP1
  clear hP1 hk1
  have hP : va_P D vwCl (zF (zWd g f h u o x t0 t1 t2 t3 t4 t5 uM y yd Z9 T09 T19 T29 T39 T49 T59 T9 O X M w J9 JD)) H1 := hP
  have hD : va_D (fun q : Nat => s.heap.size ≤ q) (zF (zWd g f h u o x t0 t1 t2 t3 t4 t5 uM y yd Z9 T09 T19 T29 T39 T49 T59 T9 O X M w J9 JD)) := hD
  refine lv_istore (lv' := [(6, .int k9), (0, .ref b), (1, .ref (f 0)), (2, .ref (uM 0)), (3, .ref (y 0)), (4, .ref (yd 0)), (5, .int (nI i))]) hx hb dL_law_199 hl (by decide) rfl (fun ls hl => ?_)
  refine lv_aload_n hx hb dL_law_201 rfl (lv_at hl 3 rfl) ?_
  refine lv_aload_n hx hb dL_law_202 rfl (lv_at hl 1 rfl) ?_
  refine lv_iload hx hb dL_law_203 (lv_at hl 6 rfl) ?_
  refine lv_iconst (v := 1) hx hb dL_law_205 (by decide) ?_
  refine lv_iadd hx hb dL_law_206 ?_
  refine va_sld hx hb hX hbl hbA hS (zlin (k := 1) (by omega) (by omega)) dL_law_207 ?_
  refine lv_aload_n hx hb dL_law_208 rfl (lv_at hl 1 rfl) ?_
  refine lv_iload hx hb dL_law_209 (lv_at hl 6 rfl) ?_
  refine lv_iconst (v := 2) hx hb dL_law_211 (by decide) ?_
  refine lv_iadd hx hb dL_law_212 ?_
  refine va_sld hx hb hX hbl hbA hS (zlin (k := 2) (by omega) (by omega)) dL_law_213 ?_
  refine lv_aload_n hx hb dL_law_214 rfl (lv_at hl 1 rfl) ?_
  refine lv_iload hx hb dL_law_215 (lv_at hl 6 rfl) ?_
  refine lv_iconst (v := 3) hx hb dL_law_217 (by decide) ?_
  refine lv_iadd hx hb dL_law_218 ?_
  refine va_sld hx hb hX hbl hbA hS (zlin (k := 3) (by omega) (by omega)) dL_law_219 ?_
  refine lv_if_eq (tgt := 227) hx hb dL_law_220 (by decide) (fun c9 => absurd c9 c3) (fun _ => ?_)
  refine lv_iconst (v := 1) hx hb dL_law_223 (by decide) ?_
  refine lv_goto (tgt := 228) hx hb dL_law_224 (by decide) ?_
  refine zcVw (ci := 5) (n := 3) (c_X5_open l D g uM M w (xs (Int32.toNatClampNeg (nI i + 1))) (xs (Int32.toNatClampNeg (nI i + 2))) true V.ro V.hi.1) hx hb hml hown hts gL_law_X5_open rfl ⟨rfl, by decide, by decide, by decide⟩ ⟨Nat.le_of_ble_eq_true rfl, Nat.le_of_ble_eq_true rfl⟩ ⟨rfl, rfl⟩ hK (zsubB (cs := [zB_X5 (g 0) uM M w]) hP [11] rfl (zF1 _)) (zDsubB (cs := [zB_X5 (g 0) uM M w]) hD [11] (by decide) rfl (zF1 _)) rfl rfl rfl hS hl.1 rfl rfl (Nat.le_of_ble_eq_true rfl) ⟨hc, hsl⟩ dL_law_228 (fun H2 locs2 hP2 hk2 hS => ?_)
  obtain ⟨hP, hD⟩ := zjoinB (cs := [zB_X5 (g 0) uM M w]) (cs' := [zB_X5 (g 0) uM (v_X5_open M (xs (Int32.toNatClampNeg (nI i + 1))) (xs (Int32.toNatClampNeg (nI i + 2))) true).2 w]) hP hD [11] (by decide) rfl rfl (zF1 _) (zF1 _) hk2 hP2
  clear hP2 hk2
  have hP : va_P D vwCl (zF (zWd g f h u o x t0 t1 t2 t3 t4 t5 uM y yd Z9 T09 T19 T29 T39 T49 T59 T9 O X ((v_X5_open M (xs (Int32.toNatClampNeg (nI i + 1))) (xs (Int32.toNatClampNeg (nI i + 2))) true).2) w J9 JD)) H2 := hP
  have hD : va_D (fun q : Nat => s.heap.size ≤ q) (zF (zWd g f h u o x t0 t1 t2 t3 t4 t5 uM y yd Z9 T09 T19 T29 T39 T49 T59 T9 O X ((v_X5_open M (xs (Int32.toNatClampNeg (nI i + 1))) (xs (Int32.toNatClampNeg (nI i + 2))) true).2) w J9 JD)) := hD
  refine lv_istore (lv' := [(7, .int (v_X5_open M (xs (Int32.toNatClampNeg (nI i + 1))) (xs (Int32.toNatClampNeg (nI i + 2))) true).1), (6, .int k9), (0, .ref b), (1, .ref (f 0)), (2, .ref (uM 0)), (3, .ref (y 0)), (4, .ref (yd 0)), (5, .int (nI i))]) hx hb dL_law_231 hl (by decide) rfl (fun ls hl => ?_)
  refine lv_aload_n hx hb dL_law_233 rfl (lv_at hl 4 rfl) ?_
  refine zcV (ci := 5) (n := 0) (c_X5_thrown l D g uM (v_X5_open M (xs (Int32.toNatClampNeg (nI i + 1))) (xs (Int32.toNatClampNeg (nI i + 2))) true).2 w) hx hb hml hown hts gL_law_X5_thrown rfl ⟨rfl, by decide, by decide, by decide⟩ ⟨Nat.le_of_ble_eq_true rfl, Nat.le_of_ble_eq_true rfl⟩ ⟨rfl, rfl⟩ hK (zsubB (cs := [zB_X5 (g 0) uM (v_X5_open M (xs (Int32.toNatClampNeg (nI i + 1))) (xs (Int32.toNatClampNeg (nI i + 2))) true).2 w]) hP [11] rfl (zF1 _)) rfl rfl rfl hl.1 rfl rfl (Nat.le_of_ble_eq_true rfl) ⟨hc, hsl⟩ dL_law_234 ?_
  refine lv_iload hx hb dL_law_237 (lv_at hl 1 rfl) ?_
  refine lv_icmp_eq (tgt := 244) hx hb dL_law_239 (by decide) (fun _ => ?_) (fun c9 => absurd h5.symm c9)
  refine lv_iload hx hb dL_law_244 (lv_at hl 1 rfl) ?_
  have fin : W p l e room_1 s m #[Value.ref b] below meth c H2 locs2 (cells + 1) (slots + 6) Q (F0 m 261 ls []) := by
    refine lv_goto (tgt := 1797) hx hb dL_law_261 (by decide) ?_
    exact kk H2 locs2 ls Z9 T09 T19 T29 T39 T49 T59 T9 O X ((v_X5_open M (xs (Int32.toNatClampNeg (nI i + 1))) (xs (Int32.toNatClampNeg (nI i + 2))) true).2) w J9 JD V1 hP hD hS (lvb2 hl)
  refine lv_if_ne (tgt := 261) hx hb dL_law_246 (by decide) (fun _ => fin) (fun k0 => ?_)
  refine lv_aload_n hx hb dL_law_249 rfl (lv_at hl 5 rfl) ?_
  refine lv_iconst (v := 0) hx hb dL_law_250 (by decide) ?_
  refine va_lald hx hb hK.1 hP 93 2 rfl rfl (vp_in_nI (n := 0) (N := 1) (by decide) (by decide)) dL_law_251 ?_
  refine lv_iload hx hb dL_law_252 (lv_at hl 0 rfl) ?_
  refine lv_i2l hx hb dL_law_254 rfl ?_
  refine W.lcmp hx hb dL_law_255 ?_
  refine lv_if_eq (tgt := 261) hx hb dL_law_256 (by decide) (fun _ => fin) (fun c9 => absurd ?_ c9)
  exact zlg0 (hJ k0)
theorem lk_open_f {p : Program} {l : Launch} {e : Env} {s : State} {m : MethodId} {below : List Frame} {meth : Method} {c : Code} {b L : Nat} {xs : Nat → Int32} {D : va_G} {g : Nat → ClassId} {f h u o x t0 t1 t2 t3 t4 t5 uM y yd : Nat → Nat} {Q : State → Prop} {H : Heap} {locs : List Loc} {cells slots i : Nat} {ls : Array Slot} {Z T0 T1 T2 T3 T4 T5 T O X M : Nat → Nat → Int32} {w : Int64} {J : Nat → Int64} {JD : Nat → UInt64} (hx : p.tables.exec = Jvm.exec) (hb : c.code = cL_law) (hml : c.maxLocals = 9) (hown : s.vm.findClass RL = some m.cls) (hts : ∀ w ∈ wsL_law, w.before #[Value.ref b] s = true) (hX : va_X b L xs s s.heap) (hbl : b < s.heap.size) (hK : zK D (zT g) s) (hE : zE s.heap.size s) (hst : l.stackTraces = false)
    (V : zInv Z T0 T1 T2 T3 T4 T5 T X M) (hP : va_P D vwCl (zF (zWd g f h u o x t0 t1 t2 t3 t4 t5 uM y yd Z T0 T1 T2 T3 T4 T5 T O X M w J JD)) H) (hD : va_D (fun q : Nat => s.heap.size ≤ q) (zF (zWd g f h u o x t0 t1 t2 t3 t4 t5 uM y yd Z T0 T1 T2 T3 T4 T5 T O X M w J JD))) (hS : va_S (fun q : Nat => s.heap.size ≤ q) s.heap H locs) (hl : lv_has ls 9 [(0, .ref b), (1, .ref (f 0)), (2, .ref (uM 0)), (3, .ref (y 0)), (4, .ref (yd 0)), (5, .int (nI i))]) (hi : i + 4 ≤ L) (hL : L ≤ 2048) (hc : cells + 1 ≤ 601024) (hsl : slots + 6 ≤ 7293034)
    (kk : ∀ (H' : Heap) (locs' : List Loc) (ls' : Array Slot) (Z' T0' T1' T2' T3' T4' T5' T' O' X' M' : Nat → Nat → Int32) (w' : Int64) (J' : Nat → Int64) (JD' : Nat → UInt64), zInv Z' T0' T1' T2' T3' T4' T5' T' X' M' → va_P D vwCl (zF (zWd g f h u o x t0 t1 t2 t3 t4 t5 uM y yd Z' T0' T1' T2' T3' T4' T5' T' O' X' M' w' J' JD')) H' → va_D (fun q : Nat => s.heap.size ≤ q) (zF (zWd g f h u o x t0 t1 t2 t3 t4 t5 uM y yd Z' T0' T1' T2' T3' T4' T5' T' O' X' M' w' J' JD')) → va_S (fun q : Nat => s.heap.size ≤ q) s.heap H' locs' → lv_has ls' 9 [(0, .ref b), (1, .ref (f 0)), (2, .ref (uM 0)), (3, .ref (y 0)), (4, .ref (yd 0)), (5, .int (nI i))] → W p l e room_1 s m #[Value.ref b] below meth c H' locs' (cells + 1) (slots + 6) Q (F0 m 1797 ls' [])) (c3 : (xs (Int32.toNatClampNeg (nI i + 3))) = 0) : W p l e room_1 s m #[Value.ref b] below meth c H locs cells slots Q (F0 m 168 ls []) := by
  have hbA : ¬ (fun q : Nat => s.heap.size ≤ q) b := Nat.not_le.mpr hbl
  obtain ⟨k9, Z9, T09, T19, T29, T39, T49, T59, T9, J9, hM, h5, hJ, V1⟩ := Lr_open l D g s.heap.size f h u o x t0 t1 t2 t3 t4 t5 y Z T0 T1 T2 T3 T4 T5 T J (xs (Int32.toNatClampNeg (nI i + 1))) (xs (Int32.toNatClampNeg (nI i + 2))) false X M hst V
  refine lv_aload_n hx hb dL_law_168 rfl (lv_at hl 1 rfl) ?_
  refine lv_aload_n hx hb dL_law_169 rfl (lv_at hl 0 rfl) ?_
  refine lv_iload hx hb dL_law_170 (lv_at hl 5 rfl) ?_
  refine lv_iconst (v := 1) hx hb dL_law_172 (by decide) ?_
  refine lv_iadd hx hb dL_law_173 ?_
  refine va_sld hx hb hX hbl hbA hS (zlin (k := 1) (by omega) (by omega)) dL_law_174 ?_
  refine lv_aload_n hx hb dL_law_175 rfl (lv_at hl 0 rfl) ?_
  refine lv_iload hx hb dL_law_176 (lv_at hl 5 rfl) ?_
  refine lv_iconst (v := 2) hx hb dL_law_178 (by decide) ?_
  refine lv_iadd hx hb dL_law_179 ?_
  refine va_sld hx hb hX hbl hbA hS (zlin (k := 2) (by omega) (by omega)) dL_law_180 ?_
  refine lv_aload_n hx hb dL_law_181 rfl (lv_at hl 0 rfl) ?_
  refine lv_iload hx hb dL_law_182 (lv_at hl 5 rfl) ?_
  refine lv_iconst (v := 3) hx hb dL_law_184 (by decide) ?_
  refine lv_iadd hx hb dL_law_185 ?_
  refine va_sld hx hb hX hbl hbA hS (zlin (k := 3) (by omega) (by omega)) dL_law_186 ?_
  refine lv_if_eq (tgt := 194) hx hb dL_law_187 (by decide) (fun _ => ?_) (fun c9 => absurd c3 c9)
  refine lv_iconst (v := 0) hx hb dL_law_194 (by decide) ?_
  refine lv_aload_n hx hb dL_law_195 rfl (lv_at hl 3 rfl) ?_
  refine zcLS (n := 5) hM hx hb hml hown hts gL_law_L_open rfl ⟨by decide, by decide, by decide⟩ ⟨Nat.le_of_ble_eq_true rfl, Nat.le_of_ble_eq_true rfl⟩ ⟨rfl, rfl⟩ hK (zsubB (cs := [zB_X4 f h u o x, zB_X1 (g 1) u t0 t1 t2 t3 t4 t5 Z, zB_X3 (g 0) t0 T0, zB_X3 (g 0) t1 T1, zB_X3 (g 0) t2 T2, zB_X3 (g 0) t3 T3, zB_X3 (g 0) t4 T4, zB_X3 (g 0) t5 T5, zB_X3 (g 0) h T, zB_XJ (g 2) y J]) hP [0, 1, 2, 3, 4, 5, 6, 7, 8, 12] rfl rfl) (zDsubB (cs := [zB_X4 f h u o x, zB_X1 (g 1) u t0 t1 t2 t3 t4 t5 Z, zB_X3 (g 0) t0 T0, zB_X3 (g 0) t1 T1, zB_X3 (g 0) t2 T2, zB_X3 (g 0) t3 T3, zB_X3 (g 0) t4 T4, zB_X3 (g 0) t5 T5, zB_X3 (g 0) h T, zB_XJ (g 2) y J]) hD [0, 1, 2, 3, 4, 5, 6, 7, 8, 12] (by decide) rfl rfl) (zDsubB (cs := [zB_X4 f h u o x, zB_X1 (g 1) u t0 t1 t2 t3 t4 t5 Z, zB_X3 (g 0) t0 T0, zB_X3 (g 0) t1 T1, zB_X3 (g 0) t2 T2, zB_X3 (g 0) t3 T3, zB_X3 (g 0) t4 T4, zB_X3 (g 0) t5 T5, zB_X3 (g 0) h T, zB_XJ (g 2) y J]) hD [0, 1, 2, 3, 4, 5, 6, 7, 8, 12] (by decide) rfl rfl) hE (fun q hq => hS.2.1 q hq (Nat.not_le.mpr hq)) hS hl.1 rfl rfl (Nat.le_of_ble_eq_true rfl) ⟨hc, hsl⟩ dL_law_196 (fun H1 locs1 hP1 hk1 hS => ?_)
  obtain ⟨hP, hD⟩ := zjoinB (cs := [zB_X4 f h u o x, zB_X1 (g 1) u t0 t1 t2 t3 t4 t5 Z, zB_X3 (g 0) t0 T0, zB_X3 (g 0) t1 T1, zB_X3 (g 0) t2 T2, zB_X3 (g 0) t3 T3, zB_X3 (g 0) t4 T4, zB_X3 (g 0) t5 T5, zB_X3 (g 0) h T, zB_XJ (g 2) y J]) (cs' := [zB_X4 f h u o x, zB_X1 (g 1) u t0 t1 t2 t3 t4 t5 Z9, zB_X3 (g 0) t0 T09, zB_X3 (g 0) t1 T19, zB_X3 (g 0) t2 T29, zB_X3 (g 0) t3 T39, zB_X3 (g 0) t4 T49, zB_X3 (g 0) t5 T59, zB_X3 (g 0) h T9, zB_XJ (g 2) y J9]) hP hD [0, 1, 2, 3, 4, 5, 6, 7, 8, 12] (by decide) rfl rfl rfl rfl hk1 hP1
  clear hP1 hk1
  have hP : va_P D vwCl (zF (zWd g f h u o x t0 t1 t2 t3 t4 t5 uM y yd Z9 T09 T19 T29 T39 T49 T59 T9 O X M w J9 JD)) H1 := hP
  have hD : va_D (fun q : Nat => s.heap.size ≤ q) (zF (zWd g f h u o x t0 t1 t2 t3 t4 t5 uM y yd Z9 T09 T19 T29 T39 T49 T59 T9 O X M w J9 JD)) := hD
  refine lv_istore (lv' := [(6, .int k9), (0, .ref b), (1, .ref (f 0)), (2, .ref (uM 0)), (3, .ref (y 0)), (4, .ref (yd 0)), (5, .int (nI i))]) hx hb dL_law_199 hl (by decide) rfl (fun ls hl => ?_)
  refine lv_aload_n hx hb dL_law_201 rfl (lv_at hl 3 rfl) ?_
  refine lv_aload_n hx hb dL_law_202 rfl (lv_at hl 1 rfl) ?_
  refine lv_iload hx hb dL_law_203 (lv_at hl 6 rfl) ?_
  refine lv_iconst (v := 1) hx hb dL_law_205 (by decide) ?_
  refine lv_iadd hx hb dL_law_206 ?_
  refine va_sld hx hb hX hbl hbA hS (zlin (k := 1) (by omega) (by omega)) dL_law_207 ?_
  refine lv_aload_n hx hb dL_law_208 rfl (lv_at hl 1 rfl) ?_
  refine lv_iload hx hb dL_law_209 (lv_at hl 6 rfl) ?_
  refine lv_iconst (v := 2) hx hb dL_law_211 (by decide) ?_
  refine lv_iadd hx hb dL_law_212 ?_
  refine va_sld hx hb hX hbl hbA hS (zlin (k := 2) (by omega) (by omega)) dL_law_213 ?_
  refine lv_aload_n hx hb dL_law_214 rfl (lv_at hl 1 rfl) ?_
  refine lv_iload hx hb dL_law_215 (lv_at hl 6 rfl) ?_
  refine lv_iconst (v := 3) hx hb dL_law_217 (by decide) ?_
  refine lv_iadd hx hb dL_law_218 ?_
  refine va_sld hx hb hX hbl hbA hS (zlin (k := 3) (by omega) (by omega)) dL_law_219 ?_
  refine lv_if_eq (tgt := 227) hx hb dL_law_220 (by decide) (fun _ => ?_) (fun c9 => absurd c3 c9)
  refine lv_iconst (v := 0) hx hb dL_law_227 (by decide) ?_
  refine zcVw (ci := 5) (n := 3) (c_X5_open l D g uM M w (xs (Int32.toNatClampNeg (nI i + 1))) (xs (Int32.toNatClampNeg (nI i + 2))) false V.ro V.hi.1) hx hb hml hown hts gL_law_X5_open rfl ⟨rfl, by decide, by decide, by decide⟩ ⟨Nat.le_of_ble_eq_true rfl, Nat.le_of_ble_eq_true rfl⟩ ⟨rfl, rfl⟩ hK (zsubB (cs := [zB_X5 (g 0) uM M w]) hP [11] rfl (zF1 _)) (zDsubB (cs := [zB_X5 (g 0) uM M w]) hD [11] (by decide) rfl (zF1 _)) rfl rfl rfl hS hl.1 rfl rfl (Nat.le_of_ble_eq_true rfl) ⟨hc, hsl⟩ dL_law_228 (fun H2 locs2 hP2 hk2 hS => ?_)
  obtain ⟨hP, hD⟩ := zjoinB (cs := [zB_X5 (g 0) uM M w]) (cs' := [zB_X5 (g 0) uM (v_X5_open M (xs (Int32.toNatClampNeg (nI i + 1))) (xs (Int32.toNatClampNeg (nI i + 2))) false).2 w]) hP hD [11] (by decide) rfl rfl (zF1 _) (zF1 _) hk2 hP2
  clear hP2 hk2
  have hP : va_P D vwCl (zF (zWd g f h u o x t0 t1 t2 t3 t4 t5 uM y yd Z9 T09 T19 T29 T39 T49 T59 T9 O X ((v_X5_open M (xs (Int32.toNatClampNeg (nI i + 1))) (xs (Int32.toNatClampNeg (nI i + 2))) false).2) w J9 JD)) H2 := hP
  have hD : va_D (fun q : Nat => s.heap.size ≤ q) (zF (zWd g f h u o x t0 t1 t2 t3 t4 t5 uM y yd Z9 T09 T19 T29 T39 T49 T59 T9 O X ((v_X5_open M (xs (Int32.toNatClampNeg (nI i + 1))) (xs (Int32.toNatClampNeg (nI i + 2))) false).2) w J9 JD)) := hD
  refine lv_istore (lv' := [(7, .int (v_X5_open M (xs (Int32.toNatClampNeg (nI i + 1))) (xs (Int32.toNatClampNeg (nI i + 2))) false).1), (6, .int k9), (0, .ref b), (1, .ref (f 0)), (2, .ref (uM 0)), (3, .ref (y 0)), (4, .ref (yd 0)), (5, .int (nI i))]) hx hb dL_law_231 hl (by decide) rfl (fun ls hl => ?_)
  refine lv_aload_n hx hb dL_law_233 rfl (lv_at hl 4 rfl) ?_
  refine zcV (ci := 5) (n := 0) (c_X5_thrown l D g uM (v_X5_open M (xs (Int32.toNatClampNeg (nI i + 1))) (xs (Int32.toNatClampNeg (nI i + 2))) false).2 w) hx hb hml hown hts gL_law_X5_thrown rfl ⟨rfl, by decide, by decide, by decide⟩ ⟨Nat.le_of_ble_eq_true rfl, Nat.le_of_ble_eq_true rfl⟩ ⟨rfl, rfl⟩ hK (zsubB (cs := [zB_X5 (g 0) uM (v_X5_open M (xs (Int32.toNatClampNeg (nI i + 1))) (xs (Int32.toNatClampNeg (nI i + 2))) false).2 w]) hP [11] rfl (zF1 _)) rfl rfl rfl hl.1 rfl rfl (Nat.le_of_ble_eq_true rfl) ⟨hc, hsl⟩ dL_law_234 ?_
  refine lv_iload hx hb dL_law_237 (lv_at hl 1 rfl) ?_
  refine lv_icmp_eq (tgt := 244) hx hb dL_law_239 (by decide) (fun _ => ?_) (fun c9 => absurd h5.symm c9)
  refine lv_iload hx hb dL_law_244 (lv_at hl 1 rfl) ?_
  have fin : W p l e room_1 s m #[Value.ref b] below meth c H2 locs2 (cells + 1) (slots + 6) Q (F0 m 261 ls []) := by
    refine lv_goto (tgt := 1797) hx hb dL_law_261 (by decide) ?_
    exact kk H2 locs2 ls Z9 T09 T19 T29 T39 T49 T59 T9 O X ((v_X5_open M (xs (Int32.toNatClampNeg (nI i + 1))) (xs (Int32.toNatClampNeg (nI i + 2))) false).2) w J9 JD V1 hP hD hS (lvb2 hl)
  refine lv_if_ne (tgt := 261) hx hb dL_law_246 (by decide) (fun _ => fin) (fun k0 => ?_)
  refine lv_aload_n hx hb dL_law_249 rfl (lv_at hl 5 rfl) ?_
  refine lv_iconst (v := 0) hx hb dL_law_250 (by decide) ?_
  refine va_lald hx hb hK.1 hP 93 2 rfl rfl (vp_in_nI (n := 0) (N := 1) (by decide) (by decide)) dL_law_251 ?_
  refine lv_iload hx hb dL_law_252 (lv_at hl 0 rfl) ?_
  refine lv_i2l hx hb dL_law_254 rfl ?_
  refine W.lcmp hx hb dL_law_255 ?_
  refine lv_if_eq (tgt := 261) hx hb dL_law_256 (by decide) (fun _ => fin) (fun c9 => absurd ?_ c9)
  exact zlg0 (hJ k0)
theorem lk_open {p : Program} {l : Launch} {e : Env} {s : State} {m : MethodId} {below : List Frame} {meth : Method} {c : Code} {b L : Nat} {xs : Nat → Int32} {D : va_G} {g : Nat → ClassId} {f h u o x t0 t1 t2 t3 t4 t5 uM y yd : Nat → Nat} {Q : State → Prop} {H : Heap} {locs : List Loc} {cells slots i : Nat} {ls : Array Slot} {Z T0 T1 T2 T3 T4 T5 T O X M : Nat → Nat → Int32} {w : Int64} {J : Nat → Int64} {JD : Nat → UInt64} (hx : p.tables.exec = Jvm.exec) (hb : c.code = cL_law) (hml : c.maxLocals = 9) (hown : s.vm.findClass RL = some m.cls) (hts : ∀ w ∈ wsL_law, w.before #[Value.ref b] s = true) (hX : va_X b L xs s s.heap) (hbl : b < s.heap.size) (hK : zK D (zT g) s) (hE : zE s.heap.size s) (hst : l.stackTraces = false)
    (V : zInv Z T0 T1 T2 T3 T4 T5 T X M) (hP : va_P D vwCl (zF (zWd g f h u o x t0 t1 t2 t3 t4 t5 uM y yd Z T0 T1 T2 T3 T4 T5 T O X M w J JD)) H) (hD : va_D (fun q : Nat => s.heap.size ≤ q) (zF (zWd g f h u o x t0 t1 t2 t3 t4 t5 uM y yd Z T0 T1 T2 T3 T4 T5 T O X M w J JD))) (hS : va_S (fun q : Nat => s.heap.size ≤ q) s.heap H locs) (hl : lv_has ls 9 [(0, .ref b), (1, .ref (f 0)), (2, .ref (uM 0)), (3, .ref (y 0)), (4, .ref (yd 0)), (5, .int (nI i))]) (hi : i + 4 ≤ L) (hL : L ≤ 2048) (hc : cells + 1 ≤ 601024) (hsl : slots + 6 ≤ 7293034)
    (kk : ∀ (H' : Heap) (locs' : List Loc) (ls' : Array Slot) (Z' T0' T1' T2' T3' T4' T5' T' O' X' M' : Nat → Nat → Int32) (w' : Int64) (J' : Nat → Int64) (JD' : Nat → UInt64), zInv Z' T0' T1' T2' T3' T4' T5' T' X' M' → va_P D vwCl (zF (zWd g f h u o x t0 t1 t2 t3 t4 t5 uM y yd Z' T0' T1' T2' T3' T4' T5' T' O' X' M' w' J' JD')) H' → va_D (fun q : Nat => s.heap.size ≤ q) (zF (zWd g f h u o x t0 t1 t2 t3 t4 t5 uM y yd Z' T0' T1' T2' T3' T4' T5' T' O' X' M' w' J' JD')) → va_S (fun q : Nat => s.heap.size ≤ q) s.heap H' locs' → lv_has ls' 9 [(0, .ref b), (1, .ref (f 0)), (2, .ref (uM 0)), (3, .ref (y 0)), (4, .ref (yd 0)), (5, .int (nI i))] → W p l e room_1 s m #[Value.ref b] below meth c H' locs' (cells + 1) (slots + 6) Q (F0 m 1797 ls' [])) : W p l e room_1 s m #[Value.ref b] below meth c H locs cells slots Q (F0 m 168 ls []) := by
  by_cases c3 : (xs (Int32.toNatClampNeg (nI i + 3))) = 0
  · exact lk_open_f hx hb hml hown hts hX hbl hK hE hst V hP hD hS hl hi hL hc hsl kk c3
  · exact lk_open_t hx hb hml hown hts hX hbl hK hE hst V hP hD hS hl hi hL hc hsl kk c3
theorem lk_end {p : Program} {l : Launch} {e : Env} {s : State} {m : MethodId} {below : List Frame} {meth : Method} {c : Code} {b L : Nat} {xs : Nat → Int32} {D : va_G} {g : Nat → ClassId} {f h u o x t0 t1 t2 t3 t4 t5 uM y yd : Nat → Nat} {Q : State → Prop} {H : Heap} {locs : List Loc} {cells slots i : Nat} {ls : Array Slot} {Z T0 T1 T2 T3 T4 T5 T O X M : Nat → Nat → Int32} {w : Int64} {J : Nat → Int64} {JD : Nat → UInt64} (hx : p.tables.exec = Jvm.exec) (hb : c.code = cL_law) (hml : c.maxLocals = 9) (hown : s.vm.findClass RL = some m.cls) (hts : ∀ w ∈ wsL_law, w.before #[Value.ref b] s = true) (hX : va_X b L xs s s.heap) (hbl : b < s.heap.size) (hK : zK D (zT g) s) (hE : zE s.heap.size s) (hst : l.stackTraces = false)
    (V : zInv Z T0 T1 T2 T3 T4 T5 T X M) (hP : va_P D vwCl (zF (zWd g f h u o x t0 t1 t2 t3 t4 t5 uM y yd Z T0 T1 T2 T3 T4 T5 T O X M w J JD)) H) (hD : va_D (fun q : Nat => s.heap.size ≤ q) (zF (zWd g f h u o x t0 t1 t2 t3 t4 t5 uM y yd Z T0 T1 T2 T3 T4 T5 T O X M w J JD))) (hS : va_S (fun q : Nat => s.heap.size ≤ q) s.heap H locs) (hl : lv_has ls 9 [(0, .ref b), (1, .ref (f 0)), (2, .ref (uM 0)), (3, .ref (y 0)), (4, .ref (yd 0)), (5, .int (nI i))]) (hi : i + 4 ≤ L) (hL : L ≤ 2048) (hc : cells + 1 ≤ 601024) (hsl : slots + 6 ≤ 7293034)
    (kk : ∀ (H' : Heap) (locs' : List Loc) (ls' : Array Slot) (Z' T0' T1' T2' T3' T4' T5' T' O' X' M' : Nat → Nat → Int32) (w' : Int64) (J' : Nat → Int64) (JD' : Nat → UInt64), zInv Z' T0' T1' T2' T3' T4' T5' T' X' M' → va_P D vwCl (zF (zWd g f h u o x t0 t1 t2 t3 t4 t5 uM y yd Z' T0' T1' T2' T3' T4' T5' T' O' X' M' w' J' JD')) H' → va_D (fun q : Nat => s.heap.size ≤ q) (zF (zWd g f h u o x t0 t1 t2 t3 t4 t5 uM y yd Z' T0' T1' T2' T3' T4' T5' T' O' X' M' w' J' JD')) → va_S (fun q : Nat => s.heap.size ≤ q) s.heap H' locs' → lv_has ls' 9 [(0, .ref b), (1, .ref (f 0)), (2, .ref (uM 0)), (3, .ref (y 0)), (4, .ref (yd 0)), (5, .int (nI i))] → W p l e room_1 s m #[Value.ref b] below meth c H' locs' (cells + 1) (slots + 6) Q (F0 m 1797 ls' [])) : W p l e room_1 s m #[Value.ref b] below meth c H locs cells slots Q (F0 m 264 ls []) := by
  have hbA : ¬ (fun q : Nat => s.heap.size ≤ q) b := Nat.not_le.mpr hbl
  obtain ⟨k9, Z9, T09, T19, T29, T39, T49, T59, T9, J9, hM, h5, hJ, V1⟩ := Lr_end l D g s.heap.size f h u o x t0 t1 t2 t3 t4 t5 y Z T0 T1 T2 T3 T4 T5 T J (xs (Int32.toNatClampNeg (nI i + 1))) X M hst V
  refine lv_aload_n hx hb dL_law_264 rfl (lv_at hl 1 rfl) ?_
  refine lv_aload_n hx hb dL_law_265 rfl (lv_at hl 0 rfl) ?_
  refine lv_iload hx hb dL_law_266 (lv_at hl 5 rfl) ?_
  refine lv_iconst (v := 1) hx hb dL_law_268 (by decide) ?_
  refine lv_iadd hx hb dL_law_269 ?_
  refine va_sld hx hb hX hbl hbA hS (zlin (k := 1) (by omega) (by omega)) dL_law_270 ?_
  refine lv_aload_n hx hb dL_law_271 rfl (lv_at hl 3 rfl) ?_
  refine zcLS (n := 3) hM hx hb hml hown hts gL_law_L_end rfl ⟨by decide, by decide, by decide⟩ ⟨Nat.le_of_ble_eq_true rfl, Nat.le_of_ble_eq_true rfl⟩ ⟨rfl, rfl⟩ hK (zsubB (cs := [zB_X4 f h u o x, zB_X1 (g 1) u t0 t1 t2 t3 t4 t5 Z, zB_X3 (g 0) t0 T0, zB_X3 (g 0) t1 T1, zB_X3 (g 0) t2 T2, zB_X3 (g 0) t3 T3, zB_X3 (g 0) t4 T4, zB_X3 (g 0) t5 T5, zB_X3 (g 0) h T, zB_XJ (g 2) y J]) hP [0, 1, 2, 3, 4, 5, 6, 7, 8, 12] rfl rfl) (zDsubB (cs := [zB_X4 f h u o x, zB_X1 (g 1) u t0 t1 t2 t3 t4 t5 Z, zB_X3 (g 0) t0 T0, zB_X3 (g 0) t1 T1, zB_X3 (g 0) t2 T2, zB_X3 (g 0) t3 T3, zB_X3 (g 0) t4 T4, zB_X3 (g 0) t5 T5, zB_X3 (g 0) h T, zB_XJ (g 2) y J]) hD [0, 1, 2, 3, 4, 5, 6, 7, 8, 12] (by decide) rfl rfl) (zDsubB (cs := [zB_X4 f h u o x, zB_X1 (g 1) u t0 t1 t2 t3 t4 t5 Z, zB_X3 (g 0) t0 T0, zB_X3 (g 0) t1 T1, zB_X3 (g 0) t2 T2, zB_X3 (g 0) t3 T3, zB_X3 (g 0) t4 T4, zB_X3 (g 0) t5 T5, zB_X3 (g 0) h T, zB_XJ (g 2) y J]) hD [0, 1, 2, 3, 4, 5, 6, 7, 8, 12] (by decide) rfl rfl) hE (fun q hq => hS.2.1 q hq (Nat.not_le.mpr hq)) hS hl.1 rfl rfl (Nat.le_of_ble_eq_true rfl) ⟨hc, hsl⟩ dL_law_272 (fun H1 locs1 hP1 hk1 hS => ?_)
  obtain ⟨hP, hD⟩ := zjoinB (cs := [zB_X4 f h u o x, zB_X1 (g 1) u t0 t1 t2 t3 t4 t5 Z, zB_X3 (g 0) t0 T0, zB_X3 (g 0) t1 T1, zB_X3 (g 0) t2 T2, zB_X3 (g 0) t3 T3, zB_X3 (g 0) t4 T4, zB_X3 (g 0) t5 T5, zB_X3 (g 0) h T, zB_XJ (g 2) y J]) (cs' := [zB_X4 f h u o x, zB_X1 (g 1) u t0 t1 t2 t3 t4 t5 Z9, zB_X3 (g 0) t0 T09, zB_X3 (g 0) t1 T19, zB_X3 (g 0) t2 T29, zB_X3 (g 0) t3 T39, zB_X3 (g 0) t4 T49, zB_X3 (g 0) t5 T59, zB_X3 (g 0) h T9, zB_XJ (g 2) y J9]) hP hD [0, 1, 2, 3, 4, 5, 6, 7, 8, 12] (by decide) rfl rfl rfl rfl hk1 hP1
  clear hP1 hk1
  have hP : va_P D vwCl (zF (zWd g f h u o x t0 t1 t2 t3 t4 t5 uM y yd Z9 T09 T19 T29 T39 T49 T59 T9 O X M w J9 JD)) H1 := hP
  have hD : va_D (fun q : Nat => s.heap.size ≤ q) (zF (zWd g f h u o x t0 t1 t2 t3 t4 t5 uM y yd Z9 T09 T19 T29 T39 T49 T59 T9 O X M w J9 JD)) := hD
  refine lv_istore (lv' := [(6, .int k9), (0, .ref b), (1, .ref (f 0)), (2, .ref (uM 0)), (3, .ref (y 0)), (4, .ref (yd 0)), (5, .int (nI i))]) hx hb dL_law_275 hl (by decide) rfl (fun ls hl => ?_)
  refine lv_aload_n hx hb dL_law_277 rfl (lv_at hl 3 rfl) ?_
  refine lv_aload_n hx hb dL_law_278 rfl (lv_at hl 1 rfl) ?_
  refine lv_iload hx hb dL_law_279 (lv_at hl 6 rfl) ?_
  refine lv_iconst (v := 1) hx hb dL_law_281 (by decide) ?_
  refine lv_iadd hx hb dL_law_282 ?_
  refine va_sld hx hb hX hbl hbA hS (zlin (k := 1) (by omega) (by omega)) dL_law_283 ?_
  refine zcVw (ci := 5) (n := 1) (c_X5_end l D g uM M w (xs (Int32.toNatClampNeg (nI i + 1))) V.ro V.hi.1) hx hb hml hown hts gL_law_X5_end rfl ⟨rfl, by decide, by decide, by decide⟩ ⟨Nat.le_of_ble_eq_true rfl, Nat.le_of_ble_eq_true rfl⟩ ⟨rfl, rfl⟩ hK (zsubB (cs := [zB_X5 (g 0) uM M w]) hP [11] rfl (zF1 _)) (zDsubB (cs := [zB_X5 (g 0) uM M w]) hD [11] (by decide) rfl (zF1 _)) rfl rfl rfl hS hl.1 rfl rfl (Nat.le_of_ble_eq_true rfl) ⟨hc, hsl⟩ dL_law_284 (fun H2 locs2 hP2 hk2 hS => ?_)
  obtain ⟨hP, hD⟩ := zjoinB (cs := [zB_X5 (g 0) uM M w]) (cs' := [zB_X5 (g 0) uM (v_X5_end M (xs (Int32.toNatClampNeg (nI i + 1)))).2 w]) hP hD [11] (by decide) rfl rfl (zF1 _) (zF1 _) hk2 hP2
  clear hP2 hk2
  have hP : va_P D vwCl (zF (zWd g f h u o x t0 t1 t2 t3 t4 t5 uM y yd Z9 T09 T19 T29 T39 T49 T59 T9 O X ((v_X5_end M (xs (Int32.toNatClampNeg (nI i + 1)))).2) w J9 JD)) H2 := hP
  have hD : va_D (fun q : Nat => s.heap.size ≤ q) (zF (zWd g f h u o x t0 t1 t2 t3 t4 t5 uM y yd Z9 T09 T19 T29 T39 T49 T59 T9 O X ((v_X5_end M (xs (Int32.toNatClampNeg (nI i + 1)))).2) w J9 JD)) := hD
  refine lv_istore (lv' := [(7, .int (v_X5_end M (xs (Int32.toNatClampNeg (nI i + 1)))).1), (6, .int k9), (0, .ref b), (1, .ref (f 0)), (2, .ref (uM 0)), (3, .ref (y 0)), (4, .ref (yd 0)), (5, .int (nI i))]) hx hb dL_law_287 hl (by decide) rfl (fun ls hl => ?_)
  refine lv_aload_n hx hb dL_law_289 rfl (lv_at hl 4 rfl) ?_
  refine zcV (ci := 5) (n := 0) (c_X5_thrown l D g uM (v_X5_end M (xs (Int32.toNatClampNeg (nI i + 1)))).2 w) hx hb hml hown hts gL_law_X5_thrown rfl ⟨rfl, by decide, by decide, by decide⟩ ⟨Nat.le_of_ble_eq_true rfl, Nat.le_of_ble_eq_true rfl⟩ ⟨rfl, rfl⟩ hK (zsubB (cs := [zB_X5 (g 0) uM (v_X5_end M (xs (Int32.toNatClampNeg (nI i + 1)))).2 w]) hP [11] rfl (zF1 _)) rfl rfl rfl hl.1 rfl rfl (Nat.le_of_ble_eq_true rfl) ⟨hc, hsl⟩ dL_law_290 ?_
  refine lv_iload hx hb dL_law_293 (lv_at hl 1 rfl) ?_
  refine lv_icmp_eq (tgt := 300) hx hb dL_law_295 (by decide) (fun _ => ?_) (fun c9 => absurd h5.symm c9)
  refine lv_iload hx hb dL_law_300 (lv_at hl 1 rfl) ?_
  have fin : W p l e room_1 s m #[Value.ref b] below meth c H2 locs2 (cells + 1) (slots + 6) Q (F0 m 317 ls []) := by
    refine lv_goto (tgt := 1797) hx hb dL_law_317 (by decide) ?_
    exact kk H2 locs2 ls Z9 T09 T19 T29 T39 T49 T59 T9 O X ((v_X5_end M (xs (Int32.toNatClampNeg (nI i + 1)))).2) w J9 JD V1 hP hD hS (lvb2 hl)
  refine lv_if_ne (tgt := 317) hx hb dL_law_302 (by decide) (fun _ => fin) (fun k0 => ?_)
  refine lv_aload_n hx hb dL_law_305 rfl (lv_at hl 5 rfl) ?_
  refine lv_iconst (v := 0) hx hb dL_law_306 (by decide) ?_
  refine va_lald hx hb hK.1 hP 93 2 rfl rfl (vp_in_nI (n := 0) (N := 1) (by decide) (by decide)) dL_law_307 ?_
  refine lv_iload hx hb dL_law_308 (lv_at hl 0 rfl) ?_
  refine lv_i2l hx hb dL_law_310 rfl ?_
  refine W.lcmp hx hb dL_law_311 ?_
  refine lv_if_eq (tgt := 317) hx hb dL_law_312 (by decide) (fun _ => fin) (fun c9 => absurd ?_ c9)
  exact zlg0 (hJ k0)
theorem lk_raise {p : Program} {l : Launch} {e : Env} {s : State} {m : MethodId} {below : List Frame} {meth : Method} {c : Code} {b L : Nat} {xs : Nat → Int32} {D : va_G} {g : Nat → ClassId} {f h u o x t0 t1 t2 t3 t4 t5 uM y yd : Nat → Nat} {Q : State → Prop} {H : Heap} {locs : List Loc} {cells slots i : Nat} {ls : Array Slot} {Z T0 T1 T2 T3 T4 T5 T O X M : Nat → Nat → Int32} {w : Int64} {J : Nat → Int64} {JD : Nat → UInt64} (hx : p.tables.exec = Jvm.exec) (hb : c.code = cL_law) (hml : c.maxLocals = 9) (hown : s.vm.findClass RL = some m.cls) (hts : ∀ w ∈ wsL_law, w.before #[Value.ref b] s = true) (hX : va_X b L xs s s.heap) (hbl : b < s.heap.size) (hK : zK D (zT g) s) (hE : zE s.heap.size s) (hst : l.stackTraces = false)
    (V : zInv Z T0 T1 T2 T3 T4 T5 T X M) (hP : va_P D vwCl (zF (zWd g f h u o x t0 t1 t2 t3 t4 t5 uM y yd Z T0 T1 T2 T3 T4 T5 T O X M w J JD)) H) (hD : va_D (fun q : Nat => s.heap.size ≤ q) (zF (zWd g f h u o x t0 t1 t2 t3 t4 t5 uM y yd Z T0 T1 T2 T3 T4 T5 T O X M w J JD))) (hS : va_S (fun q : Nat => s.heap.size ≤ q) s.heap H locs) (hl : lv_has ls 9 [(0, .ref b), (1, .ref (f 0)), (2, .ref (uM 0)), (3, .ref (y 0)), (4, .ref (yd 0)), (5, .int (nI i))]) (hi : i + 4 ≤ L) (hL : L ≤ 2048) (hc : cells + 1 ≤ 601024) (hsl : slots + 6 ≤ 7293034)
    (kk : ∀ (H' : Heap) (locs' : List Loc) (ls' : Array Slot) (Z' T0' T1' T2' T3' T4' T5' T' O' X' M' : Nat → Nat → Int32) (w' : Int64) (J' : Nat → Int64) (JD' : Nat → UInt64), zInv Z' T0' T1' T2' T3' T4' T5' T' X' M' → va_P D vwCl (zF (zWd g f h u o x t0 t1 t2 t3 t4 t5 uM y yd Z' T0' T1' T2' T3' T4' T5' T' O' X' M' w' J' JD')) H' → va_D (fun q : Nat => s.heap.size ≤ q) (zF (zWd g f h u o x t0 t1 t2 t3 t4 t5 uM y yd Z' T0' T1' T2' T3' T4' T5' T' O' X' M' w' J' JD')) → va_S (fun q : Nat => s.heap.size ≤ q) s.heap H' locs' → lv_has ls' 9 [(0, .ref b), (1, .ref (f 0)), (2, .ref (uM 0)), (3, .ref (y 0)), (4, .ref (yd 0)), (5, .int (nI i))] → W p l e room_1 s m #[Value.ref b] below meth c H' locs' (cells + 1) (slots + 6) Q (F0 m 1797 ls' [])) : W p l e room_1 s m #[Value.ref b] below meth c H locs cells slots Q (F0 m 320 ls []) := by
  have hbA : ¬ (fun q : Nat => s.heap.size ≤ q) b := Nat.not_le.mpr hbl
  obtain ⟨k9, Z9, T09, T19, T29, T39, T49, T59, T9, J9, hM, h5, hJ, V1⟩ := Lr_raise l D g s.heap.size f h u o x t0 t1 t2 t3 t4 t5 y Z T0 T1 T2 T3 T4 T5 T J (xs (Int32.toNatClampNeg (nI i + 1))) (xs (Int32.toNatClampNeg (nI i + 2))) X M hst V
  refine lv_aload_n hx hb dL_law_320 rfl (lv_at hl 1 rfl) ?_
  refine lv_aload_n hx hb dL_law_321 rfl (lv_at hl 0 rfl) ?_
  refine lv_iload hx hb dL_law_322 (lv_at hl 5 rfl) ?_
  refine lv_iconst (v := 1) hx hb dL_law_324 (by decide) ?_
  refine lv_iadd hx hb dL_law_325 ?_
  refine va_sld hx hb hX hbl hbA hS (zlin (k := 1) (by omega) (by omega)) dL_law_326 ?_
  refine lv_aload_n hx hb dL_law_327 rfl (lv_at hl 0 rfl) ?_
  refine lv_iload hx hb dL_law_328 (lv_at hl 5 rfl) ?_
  refine lv_iconst (v := 2) hx hb dL_law_330 (by decide) ?_
  refine lv_iadd hx hb dL_law_331 ?_
  refine va_sld hx hb hX hbl hbA hS (zlin (k := 2) (by omega) (by omega)) dL_law_332 ?_
  refine lv_aload_n hx hb dL_law_333 rfl (lv_at hl 3 rfl) ?_
  refine zcLS (n := 4) hM hx hb hml hown hts gL_law_L_raise rfl ⟨by decide, by decide, by decide⟩ ⟨Nat.le_of_ble_eq_true rfl, Nat.le_of_ble_eq_true rfl⟩ ⟨rfl, rfl⟩ hK (zsubB (cs := [zB_X4 f h u o x, zB_X1 (g 1) u t0 t1 t2 t3 t4 t5 Z, zB_X3 (g 0) t0 T0, zB_X3 (g 0) t1 T1, zB_X3 (g 0) t2 T2, zB_X3 (g 0) t3 T3, zB_X3 (g 0) t4 T4, zB_X3 (g 0) t5 T5, zB_X3 (g 0) h T, zB_XJ (g 2) y J]) hP [0, 1, 2, 3, 4, 5, 6, 7, 8, 12] rfl rfl) (zDsubB (cs := [zB_X4 f h u o x, zB_X1 (g 1) u t0 t1 t2 t3 t4 t5 Z, zB_X3 (g 0) t0 T0, zB_X3 (g 0) t1 T1, zB_X3 (g 0) t2 T2, zB_X3 (g 0) t3 T3, zB_X3 (g 0) t4 T4, zB_X3 (g 0) t5 T5, zB_X3 (g 0) h T, zB_XJ (g 2) y J]) hD [0, 1, 2, 3, 4, 5, 6, 7, 8, 12] (by decide) rfl rfl) (zDsubB (cs := [zB_X4 f h u o x, zB_X1 (g 1) u t0 t1 t2 t3 t4 t5 Z, zB_X3 (g 0) t0 T0, zB_X3 (g 0) t1 T1, zB_X3 (g 0) t2 T2, zB_X3 (g 0) t3 T3, zB_X3 (g 0) t4 T4, zB_X3 (g 0) t5 T5, zB_X3 (g 0) h T, zB_XJ (g 2) y J]) hD [0, 1, 2, 3, 4, 5, 6, 7, 8, 12] (by decide) rfl rfl) hE (fun q hq => hS.2.1 q hq (Nat.not_le.mpr hq)) hS hl.1 rfl rfl (Nat.le_of_ble_eq_true rfl) ⟨hc, hsl⟩ dL_law_334 (fun H1 locs1 hP1 hk1 hS => ?_)
  obtain ⟨hP, hD⟩ := zjoinB (cs := [zB_X4 f h u o x, zB_X1 (g 1) u t0 t1 t2 t3 t4 t5 Z, zB_X3 (g 0) t0 T0, zB_X3 (g 0) t1 T1, zB_X3 (g 0) t2 T2, zB_X3 (g 0) t3 T3, zB_X3 (g 0) t4 T4, zB_X3 (g 0) t5 T5, zB_X3 (g 0) h T, zB_XJ (g 2) y J]) (cs' := [zB_X4 f h u o x, zB_X1 (g 1) u t0 t1 t2 t3 t4 t5 Z9, zB_X3 (g 0) t0 T09, zB_X3 (g 0) t1 T19, zB_X3 (g 0) t2 T29, zB_X3 (g 0) t3 T39, zB_X3 (g 0) t4 T49, zB_X3 (g 0) t5 T59, zB_X3 (g 0) h T9, zB_XJ (g 2) y J9]) hP hD [0, 1, 2, 3, 4, 5, 6, 7, 8, 12] (by decide) rfl rfl rfl rfl hk1 hP1
  clear hP1 hk1
  have hP : va_P D vwCl (zF (zWd g f h u o x t0 t1 t2 t3 t4 t5 uM y yd Z9 T09 T19 T29 T39 T49 T59 T9 O X M w J9 JD)) H1 := hP
  have hD : va_D (fun q : Nat => s.heap.size ≤ q) (zF (zWd g f h u o x t0 t1 t2 t3 t4 t5 uM y yd Z9 T09 T19 T29 T39 T49 T59 T9 O X M w J9 JD)) := hD
  refine lv_istore (lv' := [(6, .int k9), (0, .ref b), (1, .ref (f 0)), (2, .ref (uM 0)), (3, .ref (y 0)), (4, .ref (yd 0)), (5, .int (nI i))]) hx hb dL_law_337 hl (by decide) rfl (fun ls hl => ?_)
  refine lv_aload_n hx hb dL_law_339 rfl (lv_at hl 3 rfl) ?_
  refine lv_aload_n hx hb dL_law_340 rfl (lv_at hl 1 rfl) ?_
  refine lv_iload hx hb dL_law_341 (lv_at hl 6 rfl) ?_
  refine lv_iconst (v := 1) hx hb dL_law_343 (by decide) ?_
  refine lv_iadd hx hb dL_law_344 ?_
  refine va_sld hx hb hX hbl hbA hS (zlin (k := 1) (by omega) (by omega)) dL_law_345 ?_
  refine lv_aload_n hx hb dL_law_346 rfl (lv_at hl 1 rfl) ?_
  refine lv_iload hx hb dL_law_347 (lv_at hl 6 rfl) ?_
  refine lv_iconst (v := 2) hx hb dL_law_349 (by decide) ?_
  refine lv_iadd hx hb dL_law_350 ?_
  refine va_sld hx hb hX hbl hbA hS (zlin (k := 2) (by omega) (by omega)) dL_law_351 ?_
  refine zcVw (ci := 5) (n := 2) (c_X5_raise l D g uM M w (xs (Int32.toNatClampNeg (nI i + 1))) (xs (Int32.toNatClampNeg (nI i + 2))) V.ro V.hi.1) hx hb hml hown hts gL_law_X5_raise rfl ⟨rfl, by decide, by decide, by decide⟩ ⟨Nat.le_of_ble_eq_true rfl, Nat.le_of_ble_eq_true rfl⟩ ⟨rfl, rfl⟩ hK (zsubB (cs := [zB_X5 (g 0) uM M w]) hP [11] rfl (zF1 _)) (zDsubB (cs := [zB_X5 (g 0) uM M w]) hD [11] (by decide) rfl (zF1 _)) rfl rfl rfl hS hl.1 rfl rfl (Nat.le_of_ble_eq_true rfl) ⟨hc, hsl⟩ dL_law_352 (fun H2 locs2 hP2 hk2 hS => ?_)
  obtain ⟨hP, hD⟩ := zjoinB (cs := [zB_X5 (g 0) uM M w]) (cs' := [zB_X5 (g 0) uM (v_X5_raise M (xs (Int32.toNatClampNeg (nI i + 1))) (xs (Int32.toNatClampNeg (nI i + 2)))).2 w]) hP hD [11] (by decide) rfl rfl (zF1 _) (zF1 _) hk2 hP2
  clear hP2 hk2
  have hP : va_P D vwCl (zF (zWd g f h u o x t0 t1 t2 t3 t4 t5 uM y yd Z9 T09 T19 T29 T39 T49 T59 T9 O X ((v_X5_raise M (xs (Int32.toNatClampNeg (nI i + 1))) (xs (Int32.toNatClampNeg (nI i + 2)))).2) w J9 JD)) H2 := hP
  have hD : va_D (fun q : Nat => s.heap.size ≤ q) (zF (zWd g f h u o x t0 t1 t2 t3 t4 t5 uM y yd Z9 T09 T19 T29 T39 T49 T59 T9 O X ((v_X5_raise M (xs (Int32.toNatClampNeg (nI i + 1))) (xs (Int32.toNatClampNeg (nI i + 2)))).2) w J9 JD)) := hD
  refine lv_istore (lv' := [(7, .int (v_X5_raise M (xs (Int32.toNatClampNeg (nI i + 1))) (xs (Int32.toNatClampNeg (nI i + 2)))).1), (6, .int k9), (0, .ref b), (1, .ref (f 0)), (2, .ref (uM 0)), (3, .ref (y 0)), (4, .ref (yd 0)), (5, .int (nI i))]) hx hb dL_law_355 hl (by decide) rfl (fun ls hl => ?_)
  refine lv_aload_n hx hb dL_law_357 rfl (lv_at hl 4 rfl) ?_
  refine zcV (ci := 5) (n := 0) (c_X5_thrown l D g uM (v_X5_raise M (xs (Int32.toNatClampNeg (nI i + 1))) (xs (Int32.toNatClampNeg (nI i + 2)))).2 w) hx hb hml hown hts gL_law_X5_thrown rfl ⟨rfl, by decide, by decide, by decide⟩ ⟨Nat.le_of_ble_eq_true rfl, Nat.le_of_ble_eq_true rfl⟩ ⟨rfl, rfl⟩ hK (zsubB (cs := [zB_X5 (g 0) uM (v_X5_raise M (xs (Int32.toNatClampNeg (nI i + 1))) (xs (Int32.toNatClampNeg (nI i + 2)))).2 w]) hP [11] rfl (zF1 _)) rfl rfl rfl hl.1 rfl rfl (Nat.le_of_ble_eq_true rfl) ⟨hc, hsl⟩ dL_law_358 ?_
  refine lv_iload hx hb dL_law_361 (lv_at hl 1 rfl) ?_
  refine lv_icmp_eq (tgt := 368) hx hb dL_law_363 (by decide) (fun _ => ?_) (fun c9 => absurd h5.symm c9)
  refine lv_iload hx hb dL_law_368 (lv_at hl 1 rfl) ?_
  have fin : W p l e room_1 s m #[Value.ref b] below meth c H2 locs2 (cells + 1) (slots + 6) Q (F0 m 385 ls []) := by
    refine lv_goto (tgt := 1797) hx hb dL_law_385 (by decide) ?_
    exact kk H2 locs2 ls Z9 T09 T19 T29 T39 T49 T59 T9 O X ((v_X5_raise M (xs (Int32.toNatClampNeg (nI i + 1))) (xs (Int32.toNatClampNeg (nI i + 2)))).2) w J9 JD V1 hP hD hS (lvb2 hl)
  refine lv_if_ne (tgt := 385) hx hb dL_law_370 (by decide) (fun _ => fin) (fun k0 => ?_)
  refine lv_aload_n hx hb dL_law_373 rfl (lv_at hl 5 rfl) ?_
  refine lv_iconst (v := 0) hx hb dL_law_374 (by decide) ?_
  refine va_lald hx hb hK.1 hP 93 2 rfl rfl (vp_in_nI (n := 0) (N := 1) (by decide) (by decide)) dL_law_375 ?_
  refine lv_iload hx hb dL_law_376 (lv_at hl 0 rfl) ?_
  refine lv_i2l hx hb dL_law_378 rfl ?_
  refine W.lcmp hx hb dL_law_379 ?_
  refine lv_if_eq (tgt := 385) hx hb dL_law_380 (by decide) (fun _ => fin) (fun c9 => absurd ?_ c9)
  exact zlg0 (hJ k0)
theorem lk_lower {p : Program} {l : Launch} {e : Env} {s : State} {m : MethodId} {below : List Frame} {meth : Method} {c : Code} {b L : Nat} {xs : Nat → Int32} {D : va_G} {g : Nat → ClassId} {f h u o x t0 t1 t2 t3 t4 t5 uM y yd : Nat → Nat} {Q : State → Prop} {H : Heap} {locs : List Loc} {cells slots i : Nat} {ls : Array Slot} {Z T0 T1 T2 T3 T4 T5 T O X M : Nat → Nat → Int32} {w : Int64} {J : Nat → Int64} {JD : Nat → UInt64} (hx : p.tables.exec = Jvm.exec) (hb : c.code = cL_law) (hml : c.maxLocals = 9) (hown : s.vm.findClass RL = some m.cls) (hts : ∀ w ∈ wsL_law, w.before #[Value.ref b] s = true) (hX : va_X b L xs s s.heap) (hbl : b < s.heap.size) (hK : zK D (zT g) s) (hE : zE s.heap.size s) (hst : l.stackTraces = false)
    (V : zInv Z T0 T1 T2 T3 T4 T5 T X M) (hP : va_P D vwCl (zF (zWd g f h u o x t0 t1 t2 t3 t4 t5 uM y yd Z T0 T1 T2 T3 T4 T5 T O X M w J JD)) H) (hD : va_D (fun q : Nat => s.heap.size ≤ q) (zF (zWd g f h u o x t0 t1 t2 t3 t4 t5 uM y yd Z T0 T1 T2 T3 T4 T5 T O X M w J JD))) (hS : va_S (fun q : Nat => s.heap.size ≤ q) s.heap H locs) (hl : lv_has ls 9 [(0, .ref b), (1, .ref (f 0)), (2, .ref (uM 0)), (3, .ref (y 0)), (4, .ref (yd 0)), (5, .int (nI i))]) (hi : i + 4 ≤ L) (hL : L ≤ 2048) (hc : cells + 1 ≤ 601024) (hsl : slots + 6 ≤ 7293034)
    (kk : ∀ (H' : Heap) (locs' : List Loc) (ls' : Array Slot) (Z' T0' T1' T2' T3' T4' T5' T' O' X' M' : Nat → Nat → Int32) (w' : Int64) (J' : Nat → Int64) (JD' : Nat → UInt64), zInv Z' T0' T1' T2' T3' T4' T5' T' X' M' → va_P D vwCl (zF (zWd g f h u o x t0 t1 t2 t3 t4 t5 uM y yd Z' T0' T1' T2' T3' T4' T5' T' O' X' M' w' J' JD')) H' → va_D (fun q : Nat => s.heap.size ≤ q) (zF (zWd g f h u o x t0 t1 t2 t3 t4 t5 uM y yd Z' T0' T1' T2' T3' T4' T5' T' O' X' M' w' J' JD')) → va_S (fun q : Nat => s.heap.size ≤ q) s.heap H' locs' → lv_has ls' 9 [(0, .ref b), (1, .ref (f 0)), (2, .ref (uM 0)), (3, .ref (y 0)), (4, .ref (yd 0)), (5, .int (nI i))] → W p l e room_1 s m #[Value.ref b] below meth c H' locs' (cells + 1) (slots + 6) Q (F0 m 1797 ls' [])) : W p l e room_1 s m #[Value.ref b] below meth c H locs cells slots Q (F0 m 388 ls []) := by
  have hbA : ¬ (fun q : Nat => s.heap.size ≤ q) b := Nat.not_le.mpr hbl
  obtain ⟨k9, Z9, T09, T19, T29, T39, T49, T59, T9, J9, hM, h5, hJ, V1⟩ := Lr_lower l D g s.heap.size f h u o x t0 t1 t2 t3 t4 t5 y Z T0 T1 T2 T3 T4 T5 T J (xs (Int32.toNatClampNeg (nI i + 1))) (xs (Int32.toNatClampNeg (nI i + 2))) X M hst V
  refine lv_aload_n hx hb dL_law_388 rfl (lv_at hl 1 rfl) ?_
  refine lv_aload_n hx hb dL_law_389 rfl (lv_at hl 0 rfl) ?_
  refine lv_iload hx hb dL_law_390 (lv_at hl 5 rfl) ?_
  refine lv_iconst (v := 1) hx hb dL_law_392 (by decide) ?_
  refine lv_iadd hx hb dL_law_393 ?_
  refine va_sld hx hb hX hbl hbA hS (zlin (k := 1) (by omega) (by omega)) dL_law_394 ?_
  refine lv_aload_n hx hb dL_law_395 rfl (lv_at hl 0 rfl) ?_
  refine lv_iload hx hb dL_law_396 (lv_at hl 5 rfl) ?_
  refine lv_iconst (v := 2) hx hb dL_law_398 (by decide) ?_
  refine lv_iadd hx hb dL_law_399 ?_
  refine va_sld hx hb hX hbl hbA hS (zlin (k := 2) (by omega) (by omega)) dL_law_400 ?_
  refine lv_aload_n hx hb dL_law_401 rfl (lv_at hl 3 rfl) ?_
  refine zcLS (n := 4) hM hx hb hml hown hts gL_law_L_lower rfl ⟨by decide, by decide, by decide⟩ ⟨Nat.le_of_ble_eq_true rfl, Nat.le_of_ble_eq_true rfl⟩ ⟨rfl, rfl⟩ hK (zsubB (cs := [zB_X4 f h u o x, zB_X1 (g 1) u t0 t1 t2 t3 t4 t5 Z, zB_X3 (g 0) t0 T0, zB_X3 (g 0) t1 T1, zB_X3 (g 0) t2 T2, zB_X3 (g 0) t3 T3, zB_X3 (g 0) t4 T4, zB_X3 (g 0) t5 T5, zB_X3 (g 0) h T, zB_XJ (g 2) y J]) hP [0, 1, 2, 3, 4, 5, 6, 7, 8, 12] rfl rfl) (zDsubB (cs := [zB_X4 f h u o x, zB_X1 (g 1) u t0 t1 t2 t3 t4 t5 Z, zB_X3 (g 0) t0 T0, zB_X3 (g 0) t1 T1, zB_X3 (g 0) t2 T2, zB_X3 (g 0) t3 T3, zB_X3 (g 0) t4 T4, zB_X3 (g 0) t5 T5, zB_X3 (g 0) h T, zB_XJ (g 2) y J]) hD [0, 1, 2, 3, 4, 5, 6, 7, 8, 12] (by decide) rfl rfl) (zDsubB (cs := [zB_X4 f h u o x, zB_X1 (g 1) u t0 t1 t2 t3 t4 t5 Z, zB_X3 (g 0) t0 T0, zB_X3 (g 0) t1 T1, zB_X3 (g 0) t2 T2, zB_X3 (g 0) t3 T3, zB_X3 (g 0) t4 T4, zB_X3 (g 0) t5 T5, zB_X3 (g 0) h T, zB_XJ (g 2) y J]) hD [0, 1, 2, 3, 4, 5, 6, 7, 8, 12] (by decide) rfl rfl) hE (fun q hq => hS.2.1 q hq (Nat.not_le.mpr hq)) hS hl.1 rfl rfl (Nat.le_of_ble_eq_true rfl) ⟨hc, hsl⟩ dL_law_402 (fun H1 locs1 hP1 hk1 hS => ?_)
  obtain ⟨hP, hD⟩ := zjoinB (cs := [zB_X4 f h u o x, zB_X1 (g 1) u t0 t1 t2 t3 t4 t5 Z, zB_X3 (g 0) t0 T0, zB_X3 (g 0) t1 T1, zB_X3 (g 0) t2 T2, zB_X3 (g 0) t3 T3, zB_X3 (g 0) t4 T4, zB_X3 (g 0) t5 T5, zB_X3 (g 0) h T, zB_XJ (g 2) y J]) (cs' := [zB_X4 f h u o x, zB_X1 (g 1) u t0 t1 t2 t3 t4 t5 Z9, zB_X3 (g 0) t0 T09, zB_X3 (g 0) t1 T19, zB_X3 (g 0) t2 T29, zB_X3 (g 0) t3 T39, zB_X3 (g 0) t4 T49, zB_X3 (g 0) t5 T59, zB_X3 (g 0) h T9, zB_XJ (g 2) y J9]) hP hD [0, 1, 2, 3, 4, 5, 6, 7, 8, 12] (by decide) rfl rfl rfl rfl hk1 hP1
  clear hP1 hk1
  have hP : va_P D vwCl (zF (zWd g f h u o x t0 t1 t2 t3 t4 t5 uM y yd Z9 T09 T19 T29 T39 T49 T59 T9 O X M w J9 JD)) H1 := hP
  have hD : va_D (fun q : Nat => s.heap.size ≤ q) (zF (zWd g f h u o x t0 t1 t2 t3 t4 t5 uM y yd Z9 T09 T19 T29 T39 T49 T59 T9 O X M w J9 JD)) := hD
  refine lv_istore (lv' := [(6, .int k9), (0, .ref b), (1, .ref (f 0)), (2, .ref (uM 0)), (3, .ref (y 0)), (4, .ref (yd 0)), (5, .int (nI i))]) hx hb dL_law_405 hl (by decide) rfl (fun ls hl => ?_)
  refine lv_aload_n hx hb dL_law_407 rfl (lv_at hl 3 rfl) ?_
  refine lv_aload_n hx hb dL_law_408 rfl (lv_at hl 1 rfl) ?_
  refine lv_iload hx hb dL_law_409 (lv_at hl 6 rfl) ?_
  refine lv_iconst (v := 1) hx hb dL_law_411 (by decide) ?_
  refine lv_iadd hx hb dL_law_412 ?_
  refine va_sld hx hb hX hbl hbA hS (zlin (k := 1) (by omega) (by omega)) dL_law_413 ?_
  refine lv_aload_n hx hb dL_law_414 rfl (lv_at hl 1 rfl) ?_
  refine lv_iload hx hb dL_law_415 (lv_at hl 6 rfl) ?_
  refine lv_iconst (v := 2) hx hb dL_law_417 (by decide) ?_
  refine lv_iadd hx hb dL_law_418 ?_
  refine va_sld hx hb hX hbl hbA hS (zlin (k := 2) (by omega) (by omega)) dL_law_419 ?_
  refine zcVw (ci := 5) (n := 2) (c_X5_lower l D g uM M w (xs (Int32.toNatClampNeg (nI i + 1))) (xs (Int32.toNatClampNeg (nI i + 2))) V.ro V.hi.1) hx hb hml hown hts gL_law_X5_lower rfl ⟨rfl, by decide, by decide, by decide⟩ ⟨Nat.le_of_ble_eq_true rfl, Nat.le_of_ble_eq_true rfl⟩ ⟨rfl, rfl⟩ hK (zsubB (cs := [zB_X5 (g 0) uM M w]) hP [11] rfl (zF1 _)) (zDsubB (cs := [zB_X5 (g 0) uM M w]) hD [11] (by decide) rfl (zF1 _)) rfl rfl rfl hS hl.1 rfl rfl (Nat.le_of_ble_eq_true rfl) ⟨hc, hsl⟩ dL_law_420 (fun H2 locs2 hP2 hk2 hS => ?_)
  obtain ⟨hP, hD⟩ := zjoinB (cs := [zB_X5 (g 0) uM M w]) (cs' := [zB_X5 (g 0) uM (v_X5_lower M (xs (Int32.toNatClampNeg (nI i + 1))) (xs (Int32.toNatClampNeg (nI i + 2)))).2 w]) hP hD [11] (by decide) rfl rfl (zF1 _) (zF1 _) hk2 hP2
  clear hP2 hk2
  have hP : va_P D vwCl (zF (zWd g f h u o x t0 t1 t2 t3 t4 t5 uM y yd Z9 T09 T19 T29 T39 T49 T59 T9 O X ((v_X5_lower M (xs (Int32.toNatClampNeg (nI i + 1))) (xs (Int32.toNatClampNeg (nI i + 2)))).2) w J9 JD)) H2 := hP
  have hD : va_D (fun q : Nat => s.heap.size ≤ q) (zF (zWd g f h u o x t0 t1 t2 t3 t4 t5 uM y yd Z9 T09 T19 T29 T39 T49 T59 T9 O X ((v_X5_lower M (xs (Int32.toNatClampNeg (nI i + 1))) (xs (Int32.toNatClampNeg (nI i + 2)))).2) w J9 JD)) := hD
  refine lv_istore (lv' := [(7, .int (v_X5_lower M (xs (Int32.toNatClampNeg (nI i + 1))) (xs (Int32.toNatClampNeg (nI i + 2)))).1), (6, .int k9), (0, .ref b), (1, .ref (f 0)), (2, .ref (uM 0)), (3, .ref (y 0)), (4, .ref (yd 0)), (5, .int (nI i))]) hx hb dL_law_423 hl (by decide) rfl (fun ls hl => ?_)
  refine lv_aload_n hx hb dL_law_425 rfl (lv_at hl 4 rfl) ?_
  refine zcV (ci := 5) (n := 0) (c_X5_thrown l D g uM (v_X5_lower M (xs (Int32.toNatClampNeg (nI i + 1))) (xs (Int32.toNatClampNeg (nI i + 2)))).2 w) hx hb hml hown hts gL_law_X5_thrown rfl ⟨rfl, by decide, by decide, by decide⟩ ⟨Nat.le_of_ble_eq_true rfl, Nat.le_of_ble_eq_true rfl⟩ ⟨rfl, rfl⟩ hK (zsubB (cs := [zB_X5 (g 0) uM (v_X5_lower M (xs (Int32.toNatClampNeg (nI i + 1))) (xs (Int32.toNatClampNeg (nI i + 2)))).2 w]) hP [11] rfl (zF1 _)) rfl rfl rfl hl.1 rfl rfl (Nat.le_of_ble_eq_true rfl) ⟨hc, hsl⟩ dL_law_426 ?_
  refine lv_iload hx hb dL_law_429 (lv_at hl 1 rfl) ?_
  refine lv_icmp_eq (tgt := 436) hx hb dL_law_431 (by decide) (fun _ => ?_) (fun c9 => absurd h5.symm c9)
  refine lv_iload hx hb dL_law_436 (lv_at hl 1 rfl) ?_
  have fin : W p l e room_1 s m #[Value.ref b] below meth c H2 locs2 (cells + 1) (slots + 6) Q (F0 m 453 ls []) := by
    refine lv_goto (tgt := 1797) hx hb dL_law_453 (by decide) ?_
    exact kk H2 locs2 ls Z9 T09 T19 T29 T39 T49 T59 T9 O X ((v_X5_lower M (xs (Int32.toNatClampNeg (nI i + 1))) (xs (Int32.toNatClampNeg (nI i + 2)))).2) w J9 JD V1 hP hD hS (lvb2 hl)
  refine lv_if_ne (tgt := 453) hx hb dL_law_438 (by decide) (fun _ => fin) (fun k0 => ?_)
  refine lv_aload_n hx hb dL_law_441 rfl (lv_at hl 5 rfl) ?_
  refine lv_iconst (v := 0) hx hb dL_law_442 (by decide) ?_
  refine va_lald hx hb hK.1 hP 93 2 rfl rfl (vp_in_nI (n := 0) (N := 1) (by decide) (by decide)) dL_law_443 ?_
  refine lv_iload hx hb dL_law_444 (lv_at hl 0 rfl) ?_
  refine lv_i2l hx hb dL_law_446 rfl ?_
  refine W.lcmp hx hb dL_law_447 ?_
  refine lv_if_eq (tgt := 453) hx hb dL_law_448 (by decide) (fun _ => fin) (fun c9 => absurd ?_ c9)
  exact zlg0 (hJ k0)
theorem lk_resalt {p : Program} {l : Launch} {e : Env} {s : State} {m : MethodId} {below : List Frame} {meth : Method} {c : Code} {b L : Nat} {xs : Nat → Int32} {D : va_G} {g : Nat → ClassId} {f h u o x t0 t1 t2 t3 t4 t5 uM y yd : Nat → Nat} {Q : State → Prop} {H : Heap} {locs : List Loc} {cells slots i : Nat} {ls : Array Slot} {Z T0 T1 T2 T3 T4 T5 T O X M : Nat → Nat → Int32} {w : Int64} {J : Nat → Int64} {JD : Nat → UInt64} (hx : p.tables.exec = Jvm.exec) (hb : c.code = cL_law) (hml : c.maxLocals = 9) (hown : s.vm.findClass RL = some m.cls) (hts : ∀ w ∈ wsL_law, w.before #[Value.ref b] s = true) (hX : va_X b L xs s s.heap) (hbl : b < s.heap.size) (hK : zK D (zT g) s) (hE : zE s.heap.size s) (hst : l.stackTraces = false)
    (V : zInv Z T0 T1 T2 T3 T4 T5 T X M) (hP : va_P D vwCl (zF (zWd g f h u o x t0 t1 t2 t3 t4 t5 uM y yd Z T0 T1 T2 T3 T4 T5 T O X M w J JD)) H) (hD : va_D (fun q : Nat => s.heap.size ≤ q) (zF (zWd g f h u o x t0 t1 t2 t3 t4 t5 uM y yd Z T0 T1 T2 T3 T4 T5 T O X M w J JD))) (hS : va_S (fun q : Nat => s.heap.size ≤ q) s.heap H locs) (hl : lv_has ls 9 [(0, .ref b), (1, .ref (f 0)), (2, .ref (uM 0)), (3, .ref (y 0)), (4, .ref (yd 0)), (5, .int (nI i))]) (hi : i + 4 ≤ L) (hL : L ≤ 2048) (hc : cells + 1 ≤ 601024) (hsl : slots + 6 ≤ 7293034)
    (kk : ∀ (H' : Heap) (locs' : List Loc) (ls' : Array Slot) (Z' T0' T1' T2' T3' T4' T5' T' O' X' M' : Nat → Nat → Int32) (w' : Int64) (J' : Nat → Int64) (JD' : Nat → UInt64), zInv Z' T0' T1' T2' T3' T4' T5' T' X' M' → va_P D vwCl (zF (zWd g f h u o x t0 t1 t2 t3 t4 t5 uM y yd Z' T0' T1' T2' T3' T4' T5' T' O' X' M' w' J' JD')) H' → va_D (fun q : Nat => s.heap.size ≤ q) (zF (zWd g f h u o x t0 t1 t2 t3 t4 t5 uM y yd Z' T0' T1' T2' T3' T4' T5' T' O' X' M' w' J' JD')) → va_S (fun q : Nat => s.heap.size ≤ q) s.heap H' locs' → lv_has ls' 9 [(0, .ref b), (1, .ref (f 0)), (2, .ref (uM 0)), (3, .ref (y 0)), (4, .ref (yd 0)), (5, .int (nI i))] → W p l e room_1 s m #[Value.ref b] below meth c H' locs' (cells + 1) (slots + 6) Q (F0 m 1797 ls' [])) : W p l e room_1 s m #[Value.ref b] below meth c H locs cells slots Q (F0 m 456 ls []) := by
  have hbA : ¬ (fun q : Nat => s.heap.size ≤ q) b := Nat.not_le.mpr hbl
  obtain ⟨k9, Z9, T09, T19, T29, T39, T49, T59, T9, J9, hM, h5, hJ, V1⟩ := Lr_resalt l D g s.heap.size f h u o x t0 t1 t2 t3 t4 t5 y Z T0 T1 T2 T3 T4 T5 T J (xs (Int32.toNatClampNeg (nI i + 1))) (xs (Int32.toNatClampNeg (nI i + 2))) X M hst V
  refine lv_aload_n hx hb dL_law_456 rfl (lv_at hl 1 rfl) ?_
  refine lv_aload_n hx hb dL_law_457 rfl (lv_at hl 0 rfl) ?_
  refine lv_iload hx hb dL_law_458 (lv_at hl 5 rfl) ?_
  refine lv_iconst (v := 1) hx hb dL_law_460 (by decide) ?_
  refine lv_iadd hx hb dL_law_461 ?_
  refine va_sld hx hb hX hbl hbA hS (zlin (k := 1) (by omega) (by omega)) dL_law_462 ?_
  refine lv_aload_n hx hb dL_law_463 rfl (lv_at hl 0 rfl) ?_
  refine lv_iload hx hb dL_law_464 (lv_at hl 5 rfl) ?_
  refine lv_iconst (v := 2) hx hb dL_law_466 (by decide) ?_
  refine lv_iadd hx hb dL_law_467 ?_
  refine va_sld hx hb hX hbl hbA hS (zlin (k := 2) (by omega) (by omega)) dL_law_468 ?_
  refine lv_aload_n hx hb dL_law_469 rfl (lv_at hl 3 rfl) ?_
  refine zcLS (n := 4) hM hx hb hml hown hts gL_law_L_resalt rfl ⟨by decide, by decide, by decide⟩ ⟨Nat.le_of_ble_eq_true rfl, Nat.le_of_ble_eq_true rfl⟩ ⟨rfl, rfl⟩ hK (zsubB (cs := [zB_X4 f h u o x, zB_X1 (g 1) u t0 t1 t2 t3 t4 t5 Z, zB_X3 (g 0) t0 T0, zB_X3 (g 0) t1 T1, zB_X3 (g 0) t2 T2, zB_X3 (g 0) t3 T3, zB_X3 (g 0) t4 T4, zB_X3 (g 0) t5 T5, zB_X3 (g 0) h T, zB_XJ (g 2) y J]) hP [0, 1, 2, 3, 4, 5, 6, 7, 8, 12] rfl rfl) (zDsubB (cs := [zB_X4 f h u o x, zB_X1 (g 1) u t0 t1 t2 t3 t4 t5 Z, zB_X3 (g 0) t0 T0, zB_X3 (g 0) t1 T1, zB_X3 (g 0) t2 T2, zB_X3 (g 0) t3 T3, zB_X3 (g 0) t4 T4, zB_X3 (g 0) t5 T5, zB_X3 (g 0) h T, zB_XJ (g 2) y J]) hD [0, 1, 2, 3, 4, 5, 6, 7, 8, 12] (by decide) rfl rfl) (zDsubB (cs := [zB_X4 f h u o x, zB_X1 (g 1) u t0 t1 t2 t3 t4 t5 Z, zB_X3 (g 0) t0 T0, zB_X3 (g 0) t1 T1, zB_X3 (g 0) t2 T2, zB_X3 (g 0) t3 T3, zB_X3 (g 0) t4 T4, zB_X3 (g 0) t5 T5, zB_X3 (g 0) h T, zB_XJ (g 2) y J]) hD [0, 1, 2, 3, 4, 5, 6, 7, 8, 12] (by decide) rfl rfl) hE (fun q hq => hS.2.1 q hq (Nat.not_le.mpr hq)) hS hl.1 rfl rfl (Nat.le_of_ble_eq_true rfl) ⟨hc, hsl⟩ dL_law_470 (fun H1 locs1 hP1 hk1 hS => ?_)
  obtain ⟨hP, hD⟩ := zjoinB (cs := [zB_X4 f h u o x, zB_X1 (g 1) u t0 t1 t2 t3 t4 t5 Z, zB_X3 (g 0) t0 T0, zB_X3 (g 0) t1 T1, zB_X3 (g 0) t2 T2, zB_X3 (g 0) t3 T3, zB_X3 (g 0) t4 T4, zB_X3 (g 0) t5 T5, zB_X3 (g 0) h T, zB_XJ (g 2) y J]) (cs' := [zB_X4 f h u o x, zB_X1 (g 1) u t0 t1 t2 t3 t4 t5 Z9, zB_X3 (g 0) t0 T09, zB_X3 (g 0) t1 T19, zB_X3 (g 0) t2 T29, zB_X3 (g 0) t3 T39, zB_X3 (g 0) t4 T49, zB_X3 (g 0) t5 T59, zB_X3 (g 0) h T9, zB_XJ (g 2) y J9]) hP hD [0, 1, 2, 3, 4, 5, 6, 7, 8, 12] (by decide) rfl rfl rfl rfl hk1 hP1
  clear hP1 hk1
  have hP : va_P D vwCl (zF (zWd g f h u o x t0 t1 t2 t3 t4 t5 uM y yd Z9 T09 T19 T29 T39 T49 T59 T9 O X M w J9 JD)) H1 := hP
  have hD : va_D (fun q : Nat => s.heap.size ≤ q) (zF (zWd g f h u o x t0 t1 t2 t3 t4 t5 uM y yd Z9 T09 T19 T29 T39 T49 T59 T9 O X M w J9 JD)) := hD
  refine lv_istore (lv' := [(6, .int k9), (0, .ref b), (1, .ref (f 0)), (2, .ref (uM 0)), (3, .ref (y 0)), (4, .ref (yd 0)), (5, .int (nI i))]) hx hb dL_law_473 hl (by decide) rfl (fun ls hl => ?_)
  refine lv_aload_n hx hb dL_law_475 rfl (lv_at hl 3 rfl) ?_
  refine lv_aload_n hx hb dL_law_476 rfl (lv_at hl 1 rfl) ?_
  refine lv_iload hx hb dL_law_477 (lv_at hl 6 rfl) ?_
  refine lv_iconst (v := 1) hx hb dL_law_479 (by decide) ?_
  refine lv_iadd hx hb dL_law_480 ?_
  refine va_sld hx hb hX hbl hbA hS (zlin (k := 1) (by omega) (by omega)) dL_law_481 ?_
  refine lv_aload_n hx hb dL_law_482 rfl (lv_at hl 1 rfl) ?_
  refine lv_iload hx hb dL_law_483 (lv_at hl 6 rfl) ?_
  refine lv_iconst (v := 2) hx hb dL_law_485 (by decide) ?_
  refine lv_iadd hx hb dL_law_486 ?_
  refine va_sld hx hb hX hbl hbA hS (zlin (k := 2) (by omega) (by omega)) dL_law_487 ?_
  refine zcVw (ci := 5) (n := 2) (c_X5_resalt l D g uM M w (xs (Int32.toNatClampNeg (nI i + 1))) (xs (Int32.toNatClampNeg (nI i + 2))) V.ro V.hi.1) hx hb hml hown hts gL_law_X5_resalt rfl ⟨rfl, by decide, by decide, by decide⟩ ⟨Nat.le_of_ble_eq_true rfl, Nat.le_of_ble_eq_true rfl⟩ ⟨rfl, rfl⟩ hK (zsubB (cs := [zB_X5 (g 0) uM M w]) hP [11] rfl (zF1 _)) (zDsubB (cs := [zB_X5 (g 0) uM M w]) hD [11] (by decide) rfl (zF1 _)) rfl rfl rfl hS hl.1 rfl rfl (Nat.le_of_ble_eq_true rfl) ⟨hc, hsl⟩ dL_law_488 (fun H2 locs2 hP2 hk2 hS => ?_)
  obtain ⟨hP, hD⟩ := zjoinB (cs := [zB_X5 (g 0) uM M w]) (cs' := [zB_X5 (g 0) uM (v_X5_resalt M (xs (Int32.toNatClampNeg (nI i + 1))) (xs (Int32.toNatClampNeg (nI i + 2)))).2 w]) hP hD [11] (by decide) rfl rfl (zF1 _) (zF1 _) hk2 hP2
  clear hP2 hk2
  have hP : va_P D vwCl (zF (zWd g f h u o x t0 t1 t2 t3 t4 t5 uM y yd Z9 T09 T19 T29 T39 T49 T59 T9 O X ((v_X5_resalt M (xs (Int32.toNatClampNeg (nI i + 1))) (xs (Int32.toNatClampNeg (nI i + 2)))).2) w J9 JD)) H2 := hP
  have hD : va_D (fun q : Nat => s.heap.size ≤ q) (zF (zWd g f h u o x t0 t1 t2 t3 t4 t5 uM y yd Z9 T09 T19 T29 T39 T49 T59 T9 O X ((v_X5_resalt M (xs (Int32.toNatClampNeg (nI i + 1))) (xs (Int32.toNatClampNeg (nI i + 2)))).2) w J9 JD)) := hD
  refine lv_istore (lv' := [(7, .int (v_X5_resalt M (xs (Int32.toNatClampNeg (nI i + 1))) (xs (Int32.toNatClampNeg (nI i + 2)))).1), (6, .int k9), (0, .ref b), (1, .ref (f 0)), (2, .ref (uM 0)), (3, .ref (y 0)), (4, .ref (yd 0)), (5, .int (nI i))]) hx hb dL_law_491 hl (by decide) rfl (fun ls hl => ?_)
  refine lv_aload_n hx hb dL_law_493 rfl (lv_at hl 4 rfl) ?_
  refine zcV (ci := 5) (n := 0) (c_X5_thrown l D g uM (v_X5_resalt M (xs (Int32.toNatClampNeg (nI i + 1))) (xs (Int32.toNatClampNeg (nI i + 2)))).2 w) hx hb hml hown hts gL_law_X5_thrown rfl ⟨rfl, by decide, by decide, by decide⟩ ⟨Nat.le_of_ble_eq_true rfl, Nat.le_of_ble_eq_true rfl⟩ ⟨rfl, rfl⟩ hK (zsubB (cs := [zB_X5 (g 0) uM (v_X5_resalt M (xs (Int32.toNatClampNeg (nI i + 1))) (xs (Int32.toNatClampNeg (nI i + 2)))).2 w]) hP [11] rfl (zF1 _)) rfl rfl rfl hl.1 rfl rfl (Nat.le_of_ble_eq_true rfl) ⟨hc, hsl⟩ dL_law_494 ?_
  refine lv_iload hx hb dL_law_497 (lv_at hl 1 rfl) ?_
  refine lv_icmp_eq (tgt := 504) hx hb dL_law_499 (by decide) (fun _ => ?_) (fun c9 => absurd h5.symm c9)
  refine lv_iload hx hb dL_law_504 (lv_at hl 1 rfl) ?_
  have fin : W p l e room_1 s m #[Value.ref b] below meth c H2 locs2 (cells + 1) (slots + 6) Q (F0 m 521 ls []) := by
    refine lv_goto (tgt := 1797) hx hb dL_law_521 (by decide) ?_
    exact kk H2 locs2 ls Z9 T09 T19 T29 T39 T49 T59 T9 O X ((v_X5_resalt M (xs (Int32.toNatClampNeg (nI i + 1))) (xs (Int32.toNatClampNeg (nI i + 2)))).2) w J9 JD V1 hP hD hS (lvb2 hl)
  refine lv_if_ne (tgt := 521) hx hb dL_law_506 (by decide) (fun _ => fin) (fun k0 => ?_)
  refine lv_aload_n hx hb dL_law_509 rfl (lv_at hl 5 rfl) ?_
  refine lv_iconst (v := 0) hx hb dL_law_510 (by decide) ?_
  refine va_lald hx hb hK.1 hP 93 2 rfl rfl (vp_in_nI (n := 0) (N := 1) (by decide) (by decide)) dL_law_511 ?_
  refine lv_iload hx hb dL_law_512 (lv_at hl 0 rfl) ?_
  refine lv_i2l hx hb dL_law_514 rfl ?_
  refine W.lcmp hx hb dL_law_515 ?_
  refine lv_if_eq (tgt := 521) hx hb dL_law_516 (by decide) (fun _ => fin) (fun c9 => absurd ?_ c9)
  exact zlg0 (hJ k0)
theorem lk_shake {p : Program} {l : Launch} {e : Env} {s : State} {m : MethodId} {below : List Frame} {meth : Method} {c : Code} {b L : Nat} {xs : Nat → Int32} {D : va_G} {g : Nat → ClassId} {f h u o x t0 t1 t2 t3 t4 t5 uM y yd : Nat → Nat} {Q : State → Prop} {H : Heap} {locs : List Loc} {cells slots i : Nat} {ls : Array Slot} {Z T0 T1 T2 T3 T4 T5 T O X M : Nat → Nat → Int32} {w : Int64} {J : Nat → Int64} {JD : Nat → UInt64} (hx : p.tables.exec = Jvm.exec) (hb : c.code = cL_law) (hml : c.maxLocals = 9) (hown : s.vm.findClass RL = some m.cls) (hts : ∀ w ∈ wsL_law, w.before #[Value.ref b] s = true) (hX : va_X b L xs s s.heap) (hbl : b < s.heap.size) (hK : zK D (zT g) s) (hE : zE s.heap.size s) (hst : l.stackTraces = false)
    (V : zInv Z T0 T1 T2 T3 T4 T5 T X M) (hP : va_P D vwCl (zF (zWd g f h u o x t0 t1 t2 t3 t4 t5 uM y yd Z T0 T1 T2 T3 T4 T5 T O X M w J JD)) H) (hD : va_D (fun q : Nat => s.heap.size ≤ q) (zF (zWd g f h u o x t0 t1 t2 t3 t4 t5 uM y yd Z T0 T1 T2 T3 T4 T5 T O X M w J JD))) (hS : va_S (fun q : Nat => s.heap.size ≤ q) s.heap H locs) (hl : lv_has ls 9 [(0, .ref b), (1, .ref (f 0)), (2, .ref (uM 0)), (3, .ref (y 0)), (4, .ref (yd 0)), (5, .int (nI i))]) (hi : i + 4 ≤ L) (hL : L ≤ 2048) (hc : cells + 1 ≤ 601024) (hsl : slots + 6 ≤ 7293034)
    (kk : ∀ (H' : Heap) (locs' : List Loc) (ls' : Array Slot) (Z' T0' T1' T2' T3' T4' T5' T' O' X' M' : Nat → Nat → Int32) (w' : Int64) (J' : Nat → Int64) (JD' : Nat → UInt64), zInv Z' T0' T1' T2' T3' T4' T5' T' X' M' → va_P D vwCl (zF (zWd g f h u o x t0 t1 t2 t3 t4 t5 uM y yd Z' T0' T1' T2' T3' T4' T5' T' O' X' M' w' J' JD')) H' → va_D (fun q : Nat => s.heap.size ≤ q) (zF (zWd g f h u o x t0 t1 t2 t3 t4 t5 uM y yd Z' T0' T1' T2' T3' T4' T5' T' O' X' M' w' J' JD')) → va_S (fun q : Nat => s.heap.size ≤ q) s.heap H' locs' → lv_has ls' 9 [(0, .ref b), (1, .ref (f 0)), (2, .ref (uM 0)), (3, .ref (y 0)), (4, .ref (yd 0)), (5, .int (nI i))] → W p l e room_1 s m #[Value.ref b] below meth c H' locs' (cells + 1) (slots + 6) Q (F0 m 1797 ls' [])) : W p l e room_1 s m #[Value.ref b] below meth c H locs cells slots Q (F0 m 524 ls []) := by
  have hbA : ¬ (fun q : Nat => s.heap.size ≤ q) b := Nat.not_le.mpr hbl
  obtain ⟨k9, Z9, T09, T19, T29, T39, T49, T59, T9, J9, hM, h5, hJ, V1⟩ := Lr_shake l D g s.heap.size f h u o x t0 t1 t2 t3 t4 t5 y Z T0 T1 T2 T3 T4 T5 T J (xs (Int32.toNatClampNeg (nI i + 1))) (xs (Int32.toNatClampNeg (nI i + 2))) X M hst V
  refine lv_aload_n hx hb dL_law_524 rfl (lv_at hl 1 rfl) ?_
  refine lv_aload_n hx hb dL_law_525 rfl (lv_at hl 0 rfl) ?_
  refine lv_iload hx hb dL_law_526 (lv_at hl 5 rfl) ?_
  refine lv_iconst (v := 1) hx hb dL_law_528 (by decide) ?_
  refine lv_iadd hx hb dL_law_529 ?_
  refine va_sld hx hb hX hbl hbA hS (zlin (k := 1) (by omega) (by omega)) dL_law_530 ?_
  refine lv_aload_n hx hb dL_law_531 rfl (lv_at hl 0 rfl) ?_
  refine lv_iload hx hb dL_law_532 (lv_at hl 5 rfl) ?_
  refine lv_iconst (v := 2) hx hb dL_law_534 (by decide) ?_
  refine lv_iadd hx hb dL_law_535 ?_
  refine va_sld hx hb hX hbl hbA hS (zlin (k := 2) (by omega) (by omega)) dL_law_536 ?_
  refine lv_aload_n hx hb dL_law_537 rfl (lv_at hl 3 rfl) ?_
  refine zcLS (n := 4) hM hx hb hml hown hts gL_law_L_shake rfl ⟨by decide, by decide, by decide⟩ ⟨Nat.le_of_ble_eq_true rfl, Nat.le_of_ble_eq_true rfl⟩ ⟨rfl, rfl⟩ hK (zsubB (cs := [zB_X4 f h u o x, zB_X1 (g 1) u t0 t1 t2 t3 t4 t5 Z, zB_X3 (g 0) t0 T0, zB_X3 (g 0) t1 T1, zB_X3 (g 0) t2 T2, zB_X3 (g 0) t3 T3, zB_X3 (g 0) t4 T4, zB_X3 (g 0) t5 T5, zB_X3 (g 0) h T, zB_XJ (g 2) y J]) hP [0, 1, 2, 3, 4, 5, 6, 7, 8, 12] rfl rfl) (zDsubB (cs := [zB_X4 f h u o x, zB_X1 (g 1) u t0 t1 t2 t3 t4 t5 Z, zB_X3 (g 0) t0 T0, zB_X3 (g 0) t1 T1, zB_X3 (g 0) t2 T2, zB_X3 (g 0) t3 T3, zB_X3 (g 0) t4 T4, zB_X3 (g 0) t5 T5, zB_X3 (g 0) h T, zB_XJ (g 2) y J]) hD [0, 1, 2, 3, 4, 5, 6, 7, 8, 12] (by decide) rfl rfl) (zDsubB (cs := [zB_X4 f h u o x, zB_X1 (g 1) u t0 t1 t2 t3 t4 t5 Z, zB_X3 (g 0) t0 T0, zB_X3 (g 0) t1 T1, zB_X3 (g 0) t2 T2, zB_X3 (g 0) t3 T3, zB_X3 (g 0) t4 T4, zB_X3 (g 0) t5 T5, zB_X3 (g 0) h T, zB_XJ (g 2) y J]) hD [0, 1, 2, 3, 4, 5, 6, 7, 8, 12] (by decide) rfl rfl) hE (fun q hq => hS.2.1 q hq (Nat.not_le.mpr hq)) hS hl.1 rfl rfl (Nat.le_of_ble_eq_true rfl) ⟨hc, hsl⟩ dL_law_538 (fun H1 locs1 hP1 hk1 hS => ?_)
  obtain ⟨hP, hD⟩ := zjoinB (cs := [zB_X4 f h u o x, zB_X1 (g 1) u t0 t1 t2 t3 t4 t5 Z, zB_X3 (g 0) t0 T0, zB_X3 (g 0) t1 T1, zB_X3 (g 0) t2 T2, zB_X3 (g 0) t3 T3, zB_X3 (g 0) t4 T4, zB_X3 (g 0) t5 T5, zB_X3 (g 0) h T, zB_XJ (g 2) y J]) (cs' := [zB_X4 f h u o x, zB_X1 (g 1) u t0 t1 t2 t3 t4 t5 Z9, zB_X3 (g 0) t0 T09, zB_X3 (g 0) t1 T19, zB_X3 (g 0) t2 T29, zB_X3 (g 0) t3 T39, zB_X3 (g 0) t4 T49, zB_X3 (g 0) t5 T59, zB_X3 (g 0) h T9, zB_XJ (g 2) y J9]) hP hD [0, 1, 2, 3, 4, 5, 6, 7, 8, 12] (by decide) rfl rfl rfl rfl hk1 hP1
  clear hP1 hk1
  have hP : va_P D vwCl (zF (zWd g f h u o x t0 t1 t2 t3 t4 t5 uM y yd Z9 T09 T19 T29 T39 T49 T59 T9 O X M w J9 JD)) H1 := hP
  have hD : va_D (fun q : Nat => s.heap.size ≤ q) (zF (zWd g f h u o x t0 t1 t2 t3 t4 t5 uM y yd Z9 T09 T19 T29 T39 T49 T59 T9 O X M w J9 JD)) := hD
  refine lv_istore (lv' := [(6, .int k9), (0, .ref b), (1, .ref (f 0)), (2, .ref (uM 0)), (3, .ref (y 0)), (4, .ref (yd 0)), (5, .int (nI i))]) hx hb dL_law_541 hl (by decide) rfl (fun ls hl => ?_)
  refine lv_aload_n hx hb dL_law_543 rfl (lv_at hl 3 rfl) ?_
  refine lv_aload_n hx hb dL_law_544 rfl (lv_at hl 1 rfl) ?_
  refine lv_iload hx hb dL_law_545 (lv_at hl 6 rfl) ?_
  refine lv_iconst (v := 1) hx hb dL_law_547 (by decide) ?_
  refine lv_iadd hx hb dL_law_548 ?_
  refine va_sld hx hb hX hbl hbA hS (zlin (k := 1) (by omega) (by omega)) dL_law_549 ?_
  refine lv_aload_n hx hb dL_law_550 rfl (lv_at hl 1 rfl) ?_
  refine lv_iload hx hb dL_law_551 (lv_at hl 6 rfl) ?_
  refine lv_iconst (v := 2) hx hb dL_law_553 (by decide) ?_
  refine lv_iadd hx hb dL_law_554 ?_
  refine va_sld hx hb hX hbl hbA hS (zlin (k := 2) (by omega) (by omega)) dL_law_555 ?_
  refine zcVw (ci := 5) (n := 2) (c_X5_shake l D g uM M w (xs (Int32.toNatClampNeg (nI i + 1))) (xs (Int32.toNatClampNeg (nI i + 2))) V.ro V.hi.1) hx hb hml hown hts gL_law_X5_shake rfl ⟨rfl, by decide, by decide, by decide⟩ ⟨Nat.le_of_ble_eq_true rfl, Nat.le_of_ble_eq_true rfl⟩ ⟨rfl, rfl⟩ hK (zsubB (cs := [zB_X5 (g 0) uM M w]) hP [11] rfl (zF1 _)) (zDsubB (cs := [zB_X5 (g 0) uM M w]) hD [11] (by decide) rfl (zF1 _)) rfl rfl rfl hS hl.1 rfl rfl (Nat.le_of_ble_eq_true rfl) ⟨hc, hsl⟩ dL_law_556 (fun H2 locs2 hP2 hk2 hS => ?_)
  obtain ⟨hP, hD⟩ := zjoinB (cs := [zB_X5 (g 0) uM M w]) (cs' := [zB_X5 (g 0) uM (v_X5_shake M (xs (Int32.toNatClampNeg (nI i + 1))) (xs (Int32.toNatClampNeg (nI i + 2)))).2 w]) hP hD [11] (by decide) rfl rfl (zF1 _) (zF1 _) hk2 hP2
  clear hP2 hk2
  have hP : va_P D vwCl (zF (zWd g f h u o x t0 t1 t2 t3 t4 t5 uM y yd Z9 T09 T19 T29 T39 T49 T59 T9 O X ((v_X5_shake M (xs (Int32.toNatClampNeg (nI i + 1))) (xs (Int32.toNatClampNeg (nI i + 2)))).2) w J9 JD)) H2 := hP
  have hD : va_D (fun q : Nat => s.heap.size ≤ q) (zF (zWd g f h u o x t0 t1 t2 t3 t4 t5 uM y yd Z9 T09 T19 T29 T39 T49 T59 T9 O X ((v_X5_shake M (xs (Int32.toNatClampNeg (nI i + 1))) (xs (Int32.toNatClampNeg (nI i + 2)))).2) w J9 JD)) := hD
  refine lv_istore (lv' := [(7, .int (v_X5_shake M (xs (Int32.toNatClampNeg (nI i + 1))) (xs (Int32.toNatClampNeg (nI i + 2)))).1), (6, .int k9), (0, .ref b), (1, .ref (f 0)), (2, .ref (uM 0)), (3, .ref (y 0)), (4, .ref (yd 0)), (5, .int (nI i))]) hx hb dL_law_559 hl (by decide) rfl (fun ls hl => ?_)
  refine lv_aload_n hx hb dL_law_561 rfl (lv_at hl 4 rfl) ?_
  refine zcV (ci := 5) (n := 0) (c_X5_thrown l D g uM (v_X5_shake M (xs (Int32.toNatClampNeg (nI i + 1))) (xs (Int32.toNatClampNeg (nI i + 2)))).2 w) hx hb hml hown hts gL_law_X5_thrown rfl ⟨rfl, by decide, by decide, by decide⟩ ⟨Nat.le_of_ble_eq_true rfl, Nat.le_of_ble_eq_true rfl⟩ ⟨rfl, rfl⟩ hK (zsubB (cs := [zB_X5 (g 0) uM (v_X5_shake M (xs (Int32.toNatClampNeg (nI i + 1))) (xs (Int32.toNatClampNeg (nI i + 2)))).2 w]) hP [11] rfl (zF1 _)) rfl rfl rfl hl.1 rfl rfl (Nat.le_of_ble_eq_true rfl) ⟨hc, hsl⟩ dL_law_562 ?_
  refine lv_iload hx hb dL_law_565 (lv_at hl 1 rfl) ?_
  refine lv_icmp_eq (tgt := 572) hx hb dL_law_567 (by decide) (fun _ => ?_) (fun c9 => absurd h5.symm c9)
  refine lv_iload hx hb dL_law_572 (lv_at hl 1 rfl) ?_
  have fin : W p l e room_1 s m #[Value.ref b] below meth c H2 locs2 (cells + 1) (slots + 6) Q (F0 m 589 ls []) := by
    refine lv_goto (tgt := 1797) hx hb dL_law_589 (by decide) ?_
    exact kk H2 locs2 ls Z9 T09 T19 T29 T39 T49 T59 T9 O X ((v_X5_shake M (xs (Int32.toNatClampNeg (nI i + 1))) (xs (Int32.toNatClampNeg (nI i + 2)))).2) w J9 JD V1 hP hD hS (lvb2 hl)
  refine lv_if_ne (tgt := 589) hx hb dL_law_574 (by decide) (fun _ => fin) (fun k0 => ?_)
  refine lv_aload_n hx hb dL_law_577 rfl (lv_at hl 5 rfl) ?_
  refine lv_iconst (v := 0) hx hb dL_law_578 (by decide) ?_
  refine va_lald hx hb hK.1 hP 93 2 rfl rfl (vp_in_nI (n := 0) (N := 1) (by decide) (by decide)) dL_law_579 ?_
  refine lv_iload hx hb dL_law_580 (lv_at hl 0 rfl) ?_
  refine lv_i2l hx hb dL_law_582 rfl ?_
  refine W.lcmp hx hb dL_law_583 ?_
  refine lv_if_eq (tgt := 589) hx hb dL_law_584 (by decide) (fun _ => fin) (fun c9 => absurd ?_ c9)
  exact zlg0 (hJ k0)
theorem lk_hold_t {p : Program} {l : Launch} {e : Env} {s : State} {m : MethodId} {below : List Frame} {meth : Method} {c : Code} {b L : Nat} {xs : Nat → Int32} {D : va_G} {g : Nat → ClassId} {f h u o x t0 t1 t2 t3 t4 t5 uM y yd : Nat → Nat} {Q : State → Prop} {H : Heap} {locs : List Loc} {cells slots i : Nat} {ls : Array Slot} {Z T0 T1 T2 T3 T4 T5 T O X M : Nat → Nat → Int32} {w : Int64} {J : Nat → Int64} {JD : Nat → UInt64} (hx : p.tables.exec = Jvm.exec) (hb : c.code = cL_law) (hml : c.maxLocals = 9) (hown : s.vm.findClass RL = some m.cls) (hts : ∀ w ∈ wsL_law, w.before #[Value.ref b] s = true) (hX : va_X b L xs s s.heap) (hbl : b < s.heap.size) (hK : zK D (zT g) s) (hE : zE s.heap.size s) (hst : l.stackTraces = false)
    (V : zInv Z T0 T1 T2 T3 T4 T5 T X M) (hP : va_P D vwCl (zF (zWd g f h u o x t0 t1 t2 t3 t4 t5 uM y yd Z T0 T1 T2 T3 T4 T5 T O X M w J JD)) H) (hD : va_D (fun q : Nat => s.heap.size ≤ q) (zF (zWd g f h u o x t0 t1 t2 t3 t4 t5 uM y yd Z T0 T1 T2 T3 T4 T5 T O X M w J JD))) (hS : va_S (fun q : Nat => s.heap.size ≤ q) s.heap H locs) (hl : lv_has ls 9 [(0, .ref b), (1, .ref (f 0)), (2, .ref (uM 0)), (3, .ref (y 0)), (4, .ref (yd 0)), (5, .int (nI i))]) (hi : i + 4 ≤ L) (hL : L ≤ 2048) (hc : cells + 1 ≤ 601024) (hsl : slots + 6 ≤ 7293034)
    (kk : ∀ (H' : Heap) (locs' : List Loc) (ls' : Array Slot) (Z' T0' T1' T2' T3' T4' T5' T' O' X' M' : Nat → Nat → Int32) (w' : Int64) (J' : Nat → Int64) (JD' : Nat → UInt64), zInv Z' T0' T1' T2' T3' T4' T5' T' X' M' → va_P D vwCl (zF (zWd g f h u o x t0 t1 t2 t3 t4 t5 uM y yd Z' T0' T1' T2' T3' T4' T5' T' O' X' M' w' J' JD')) H' → va_D (fun q : Nat => s.heap.size ≤ q) (zF (zWd g f h u o x t0 t1 t2 t3 t4 t5 uM y yd Z' T0' T1' T2' T3' T4' T5' T' O' X' M' w' J' JD')) → va_S (fun q : Nat => s.heap.size ≤ q) s.heap H' locs' → lv_has ls' 9 [(0, .ref b), (1, .ref (f 0)), (2, .ref (uM 0)), (3, .ref (y 0)), (4, .ref (yd 0)), (5, .int (nI i))] → W p l e room_1 s m #[Value.ref b] below meth c H' locs' (cells + 1) (slots + 6) Q (F0 m 1797 ls' [])) (c3 : ¬ (xs (Int32.toNatClampNeg (nI i + 3))) = 0) : W p l e room_1 s m #[Value.ref b] below meth c H locs cells slots Q (F0 m 592 ls []) := by
  have hbA : ¬ (fun q : Nat => s.heap.size ≤ q) b := Nat.not_le.mpr hbl
  obtain ⟨k9, Z9, T09, T19, T29, T39, T49, T59, T9, J9, hM, h5, hJ, V1⟩ := Lr_hold l D g s.heap.size f h u o x t0 t1 t2 t3 t4 t5 y Z T0 T1 T2 T3 T4 T5 T J (xs (Int32.toNatClampNeg (nI i + 1))) (xs (Int32.toNatClampNeg (nI i + 2))) true X M hst V
  refine lv_aload_n hx hb dL_law_592 rfl (lv_at hl 1 rfl) ?_
  refine lv_aload_n hx hb dL_law_593 rfl (lv_at hl 0 rfl) ?_
  refine lv_iload hx hb dL_law_594 (lv_at hl 5 rfl) ?_
  refine lv_iconst (v := 1) hx hb dL_law_596 (by decide) ?_
  refine lv_iadd hx hb dL_law_597 ?_
  refine va_sld hx hb hX hbl hbA hS (zlin (k := 1) (by omega) (by omega)) dL_law_598 ?_
  refine lv_aload_n hx hb dL_law_599 rfl (lv_at hl 0 rfl) ?_
  refine lv_iload hx hb dL_law_600 (lv_at hl 5 rfl) ?_
  refine lv_iconst (v := 2) hx hb dL_law_602 (by decide) ?_
  refine lv_iadd hx hb dL_law_603 ?_
  refine va_sld hx hb hX hbl hbA hS (zlin (k := 2) (by omega) (by omega)) dL_law_604 ?_
  refine lv_aload_n hx hb dL_law_605 rfl (lv_at hl 0 rfl) ?_
  refine lv_iload hx hb dL_law_606 (lv_at hl 5 rfl) ?_
  refine lv_iconst (v := 3) hx hb dL_law_608 (by decide) ?_
  refine lv_iadd hx hb dL_law_609 ?_
  refine va_sld hx hb hX hbl hbA hS (zlin (k := 3) (by omega) (by omega)) dL_law_610 ?_
  refine lv_if_eq (tgt := 618) hx hb dL_law_611 (by decide) (fun c9 => absurd c9 c3) (fun _ => ?_)
  refine lv_iconst (v := 1) hx hb dL_law_614 (by decide) ?_
  refine lv_goto (tgt := 619) hx hb dL_law_615 (by decide) ?_
  refine lv_aload_n hx hb dL_law_619 rfl (lv_at hl 3 rfl) ?_
  refine zcLS (n := 5) hM hx hb hml hown hts gL_law_L_hold rfl ⟨by decide, by decide, by decide⟩ ⟨Nat.le_of_ble_eq_true rfl, Nat.le_of_ble_eq_true rfl⟩ ⟨rfl, rfl⟩ hK (zsubB (cs := [zB_X4 f h u o x, zB_X1 (g 1) u t0 t1 t2 t3 t4 t5 Z, zB_X3 (g 0) t0 T0, zB_X3 (g 0) t1 T1, zB_X3 (g 0) t2 T2, zB_X3 (g 0) t3 T3, zB_X3 (g 0) t4 T4, zB_X3 (g 0) t5 T5, zB_X3 (g 0) h T, zB_XJ (g 2) y J]) hP [0, 1, 2, 3, 4, 5, 6, 7, 8, 12] rfl rfl) (zDsubB (cs := [zB_X4 f h u o x, zB_X1 (g 1) u t0 t1 t2 t3 t4 t5 Z, zB_X3 (g 0) t0 T0, zB_X3 (g 0) t1 T1, zB_X3 (g 0) t2 T2, zB_X3 (g 0) t3 T3, zB_X3 (g 0) t4 T4, zB_X3 (g 0) t5 T5, zB_X3 (g 0) h T, zB_XJ (g 2) y J]) hD [0, 1, 2, 3, 4, 5, 6, 7, 8, 12] (by decide) rfl rfl) (zDsubB (cs := [zB_X4 f h u o x, zB_X1 (g 1) u t0 t1 t2 t3 t4 t5 Z, zB_X3 (g 0) t0 T0, zB_X3 (g 0) t1 T1, zB_X3 (g 0) t2 T2, zB_X3 (g 0) t3 T3, zB_X3 (g 0) t4 T4, zB_X3 (g 0) t5 T5, zB_X3 (g 0) h T, zB_XJ (g 2) y J]) hD [0, 1, 2, 3, 4, 5, 6, 7, 8, 12] (by decide) rfl rfl) hE (fun q hq => hS.2.1 q hq (Nat.not_le.mpr hq)) hS hl.1 rfl rfl (Nat.le_of_ble_eq_true rfl) ⟨hc, hsl⟩ dL_law_620 (fun H1 locs1 hP1 hk1 hS => ?_)
  obtain ⟨hP, hD⟩ := zjoinB (cs := [zB_X4 f h u o x, zB_X1 (g 1) u t0 t1 t2 t3 t4 t5 Z, zB_X3 (g 0) t0 T0, zB_X3 (g 0) t1 T1, zB_X3 (g 0) t2 T2, zB_X3 (g 0) t3 T3, zB_X3 (g 0) t4 T4, zB_X3 (g 0) t5 T5, zB_X3 (g 0) h T, zB_XJ (g 2) y J]) (cs' := [zB_X4 f h u o x, zB_X1 (g 1) u t0 t1 t2 t3 t4 t5 Z9, zB_X3 (g 0) t0 T09, zB_X3 (g 0) t1 T19, zB_X3 (g 0) t2 T29, zB_X3 (g 0) t3 T39, zB_X3 (g 0) t4 T49, zB_X3 (g 0) t5 T59, zB_X3 (g 0) h T9, zB_XJ (g 2) y J9]) hP hD [0, 1, 2, 3, 4, 5, 6, 7, 8, 12] (by decide) rfl rfl rfl rfl hk1 hP1
  clear hP1 hk1
  have hP : va_P D vwCl (zF (zWd g f h u o x t0 t1 t2 t3 t4 t5 uM y yd Z9 T09 T19 T29 T39 T49 T59 T9 O X M w J9 JD)) H1 := hP
  have hD : va_D (fun q : Nat => s.heap.size ≤ q) (zF (zWd g f h u o x t0 t1 t2 t3 t4 t5 uM y yd Z9 T09 T19 T29 T39 T49 T59 T9 O X M w J9 JD)) := hD
  refine lv_istore (lv' := [(6, .int k9), (0, .ref b), (1, .ref (f 0)), (2, .ref (uM 0)), (3, .ref (y 0)), (4, .ref (yd 0)), (5, .int (nI i))]) hx hb dL_law_623 hl (by decide) rfl (fun ls hl => ?_)
  refine lv_aload_n hx hb dL_law_625 rfl (lv_at hl 3 rfl) ?_
  refine lv_aload_n hx hb dL_law_626 rfl (lv_at hl 1 rfl) ?_
  refine lv_iload hx hb dL_law_627 (lv_at hl 6 rfl) ?_
  refine lv_iconst (v := 1) hx hb dL_law_629 (by decide) ?_
  refine lv_iadd hx hb dL_law_630 ?_
  refine va_sld hx hb hX hbl hbA hS (zlin (k := 1) (by omega) (by omega)) dL_law_631 ?_
  refine lv_aload_n hx hb dL_law_632 rfl (lv_at hl 1 rfl) ?_
  refine lv_iload hx hb dL_law_633 (lv_at hl 6 rfl) ?_
  refine lv_iconst (v := 2) hx hb dL_law_635 (by decide) ?_
  refine lv_iadd hx hb dL_law_636 ?_
  refine va_sld hx hb hX hbl hbA hS (zlin (k := 2) (by omega) (by omega)) dL_law_637 ?_
  refine lv_aload_n hx hb dL_law_638 rfl (lv_at hl 1 rfl) ?_
  refine lv_iload hx hb dL_law_639 (lv_at hl 6 rfl) ?_
  refine lv_iconst (v := 3) hx hb dL_law_641 (by decide) ?_
  refine lv_iadd hx hb dL_law_642 ?_
  refine va_sld hx hb hX hbl hbA hS (zlin (k := 3) (by omega) (by omega)) dL_law_643 ?_
  refine lv_if_eq (tgt := 651) hx hb dL_law_644 (by decide) (fun c9 => absurd c9 c3) (fun _ => ?_)
  refine lv_iconst (v := 1) hx hb dL_law_647 (by decide) ?_
  refine lv_goto (tgt := 652) hx hb dL_law_648 (by decide) ?_
  refine zcVw (ci := 5) (n := 3) (c_X5_hold l D g uM M w (xs (Int32.toNatClampNeg (nI i + 1))) (xs (Int32.toNatClampNeg (nI i + 2))) true V.ro V.hi.1) hx hb hml hown hts gL_law_X5_hold rfl ⟨rfl, by decide, by decide, by decide⟩ ⟨Nat.le_of_ble_eq_true rfl, Nat.le_of_ble_eq_true rfl⟩ ⟨rfl, rfl⟩ hK (zsubB (cs := [zB_X5 (g 0) uM M w]) hP [11] rfl (zF1 _)) (zDsubB (cs := [zB_X5 (g 0) uM M w]) hD [11] (by decide) rfl (zF1 _)) rfl rfl rfl hS hl.1 rfl rfl (Nat.le_of_ble_eq_true rfl) ⟨hc, hsl⟩ dL_law_652 (fun H2 locs2 hP2 hk2 hS => ?_)
  obtain ⟨hP, hD⟩ := zjoinB (cs := [zB_X5 (g 0) uM M w]) (cs' := [zB_X5 (g 0) uM (v_X5_hold M (xs (Int32.toNatClampNeg (nI i + 1))) (xs (Int32.toNatClampNeg (nI i + 2))) true).2 w]) hP hD [11] (by decide) rfl rfl (zF1 _) (zF1 _) hk2 hP2
  clear hP2 hk2
  have hP : va_P D vwCl (zF (zWd g f h u o x t0 t1 t2 t3 t4 t5 uM y yd Z9 T09 T19 T29 T39 T49 T59 T9 O X ((v_X5_hold M (xs (Int32.toNatClampNeg (nI i + 1))) (xs (Int32.toNatClampNeg (nI i + 2))) true).2) w J9 JD)) H2 := hP
  have hD : va_D (fun q : Nat => s.heap.size ≤ q) (zF (zWd g f h u o x t0 t1 t2 t3 t4 t5 uM y yd Z9 T09 T19 T29 T39 T49 T59 T9 O X ((v_X5_hold M (xs (Int32.toNatClampNeg (nI i + 1))) (xs (Int32.toNatClampNeg (nI i + 2))) true).2) w J9 JD)) := hD
  refine lv_istore (lv' := [(7, .int (v_X5_hold M (xs (Int32.toNatClampNeg (nI i + 1))) (xs (Int32.toNatClampNeg (nI i + 2))) true).1), (6, .int k9), (0, .ref b), (1, .ref (f 0)), (2, .ref (uM 0)), (3, .ref (y 0)), (4, .ref (yd 0)), (5, .int (nI i))]) hx hb dL_law_655 hl (by decide) rfl (fun ls hl => ?_)
  refine lv_aload_n hx hb dL_law_657 rfl (lv_at hl 4 rfl) ?_
  refine zcV (ci := 5) (n := 0) (c_X5_thrown l D g uM (v_X5_hold M (xs (Int32.toNatClampNeg (nI i + 1))) (xs (Int32.toNatClampNeg (nI i + 2))) true).2 w) hx hb hml hown hts gL_law_X5_thrown rfl ⟨rfl, by decide, by decide, by decide⟩ ⟨Nat.le_of_ble_eq_true rfl, Nat.le_of_ble_eq_true rfl⟩ ⟨rfl, rfl⟩ hK (zsubB (cs := [zB_X5 (g 0) uM (v_X5_hold M (xs (Int32.toNatClampNeg (nI i + 1))) (xs (Int32.toNatClampNeg (nI i + 2))) true).2 w]) hP [11] rfl (zF1 _)) rfl rfl rfl hl.1 rfl rfl (Nat.le_of_ble_eq_true rfl) ⟨hc, hsl⟩ dL_law_658 ?_
  refine lv_iload hx hb dL_law_661 (lv_at hl 1 rfl) ?_
  refine lv_icmp_eq (tgt := 668) hx hb dL_law_663 (by decide) (fun _ => ?_) (fun c9 => absurd h5.symm c9)
  refine lv_iload hx hb dL_law_668 (lv_at hl 1 rfl) ?_
  have fin : W p l e room_1 s m #[Value.ref b] below meth c H2 locs2 (cells + 1) (slots + 6) Q (F0 m 685 ls []) := by
    refine lv_goto (tgt := 1797) hx hb dL_law_685 (by decide) ?_
    exact kk H2 locs2 ls Z9 T09 T19 T29 T39 T49 T59 T9 O X ((v_X5_hold M (xs (Int32.toNatClampNeg (nI i + 1))) (xs (Int32.toNatClampNeg (nI i + 2))) true).2) w J9 JD V1 hP hD hS (lvb2 hl)
  refine lv_if_ne (tgt := 685) hx hb dL_law_670 (by decide) (fun _ => fin) (fun k0 => ?_)
  refine lv_aload_n hx hb dL_law_673 rfl (lv_at hl 5 rfl) ?_
  refine lv_iconst (v := 0) hx hb dL_law_674 (by decide) ?_
  refine va_lald hx hb hK.1 hP 93 2 rfl rfl (vp_in_nI (n := 0) (N := 1) (by decide) (by decide)) dL_law_675 ?_
  refine lv_iload hx hb dL_law_676 (lv_at hl 0 rfl) ?_
  refine lv_i2l hx hb dL_law_678 rfl ?_
  refine W.lcmp hx hb dL_law_679 ?_
  refine lv_if_eq (tgt := 685) hx hb dL_law_680 (by decide) (fun _ => fin) (fun c9 => absurd ?_ c9)
  exact zlg0 (hJ k0)
theorem lk_hold_f {p : Program} {l : Launch} {e : Env} {s : State} {m : MethodId} {below : List Frame} {meth : Method} {c : Code} {b L : Nat} {xs : Nat → Int32} {D : va_G} {g : Nat → ClassId} {f h u o x t0 t1 t2 t3 t4 t5 uM y yd : Nat → Nat} {Q : State → Prop} {H : Heap} {locs : List Loc} {cells slots i : Nat} {ls : Array Slot} {Z T0 T1 T2 T3 T4 T5 T O X M : Nat → Nat → Int32} {w : Int64} {J : Nat → Int64} {JD : Nat → UInt64} (hx : p.tables.exec = Jvm.exec) (hb : c.code = cL_law) (hml : c.maxLocals = 9) (hown : s.vm.findClass RL = some m.cls) (hts : ∀ w ∈ wsL_law, w.before #[Value.ref b] s = true) (hX : va_X b L xs s s.heap) (hbl : b < s.heap.size) (hK : zK D (zT g) s) (hE : zE s.heap.size s) (hst : l.stackTraces = false)
    (V : zInv Z T0 T1 T2 T3 T4 T5 T X M) (hP : va_P D vwCl (zF (zWd g f h u o x t0 t1 t2 t3 t4 t5 uM y yd Z T0 T1 T2 T3 T4 T5 T O X M w J JD)) H) (hD : va_D (fun q : Nat => s.heap.size ≤ q) (zF (zWd g f h u o x t0 t1 t2 t3 t4 t5 uM y yd Z T0 T1 T2 T3 T4 T5 T O X M w J JD))) (hS : va_S (fun q : Nat => s.heap.size ≤ q) s.heap H locs) (hl : lv_has ls 9 [(0, .ref b), (1, .ref (f 0)), (2, .ref (uM 0)), (3, .ref (y 0)), (4, .ref (yd 0)), (5, .int (nI i))]) (hi : i + 4 ≤ L) (hL : L ≤ 2048) (hc : cells + 1 ≤ 601024) (hsl : slots + 6 ≤ 7293034)
    (kk : ∀ (H' : Heap) (locs' : List Loc) (ls' : Array Slot) (Z' T0' T1' T2' T3' T4' T5' T' O' X' M' : Nat → Nat → Int32) (w' : Int64) (J' : Nat → Int64) (JD' : Nat → UInt64), zInv Z' T0' T1' T2' T3' T4' T5' T' X' M' → va_P D vwCl (zF (zWd g f h u o x t0 t1 t2 t3 t4 t5 uM y yd Z' T0' T1' T2' T3' T4' T5' T' O' X' M' w' J' JD')) H' → va_D (fun q : Nat => s.heap.size ≤ q) (zF (zWd g f h u o x t0 t1 t2 t3 t4 t5 uM y yd Z' T0' T1' T2' T3' T4' T5' T' O' X' M' w' J' JD')) → va_S (fun q : Nat => s.heap.size ≤ q) s.heap H' locs' → lv_has ls' 9 [(0, .ref b), (1, .ref (f 0)), (2, .ref (uM 0)), (3, .ref (y 0)), (4, .ref (yd 0)), (5, .int (nI i))] → W p l e room_1 s m #[Value.ref b] below meth c H' locs' (cells + 1) (slots + 6) Q (F0 m 1797 ls' [])) (c3 : (xs (Int32.toNatClampNeg (nI i + 3))) = 0) : W p l e room_1 s m #[Value.ref b] below meth c H locs cells slots Q (F0 m 592 ls []) := by
  have hbA : ¬ (fun q : Nat => s.heap.size ≤ q) b := Nat.not_le.mpr hbl
  obtain ⟨k9, Z9, T09, T19, T29, T39, T49, T59, T9, J9, hM, h5, hJ, V1⟩ := Lr_hold l D g s.heap.size f h u o x t0 t1 t2 t3 t4 t5 y Z T0 T1 T2 T3 T4 T5 T J (xs (Int32.toNatClampNeg (nI i + 1))) (xs (Int32.toNatClampNeg (nI i + 2))) false X M hst V
  refine lv_aload_n hx hb dL_law_592 rfl (lv_at hl 1 rfl) ?_
  refine lv_aload_n hx hb dL_law_593 rfl (lv_at hl 0 rfl) ?_
  refine lv_iload hx hb dL_law_594 (lv_at hl 5 rfl) ?_
  refine lv_iconst (v := 1) hx hb dL_law_596 (by decide) ?_
  refine lv_iadd hx hb dL_law_597 ?_
  refine va_sld hx hb hX hbl hbA hS (zlin (k := 1) (by omega) (by omega)) dL_law_598 ?_
  refine lv_aload_n hx hb dL_law_599 rfl (lv_at hl 0 rfl) ?_
  refine lv_iload hx hb dL_law_600 (lv_at hl 5 rfl) ?_
  refine lv_iconst (v := 2) hx hb dL_law_602 (by decide) ?_
  refine lv_iadd hx hb dL_law_603 ?_
  refine va_sld hx hb hX hbl hbA hS (zlin (k := 2) (by omega) (by omega)) dL_law_604 ?_
  refine lv_aload_n hx hb dL_law_605 rfl (lv_at hl 0 rfl) ?_
  refine lv_iload hx hb dL_law_606 (lv_at hl 5 rfl) ?_
  refine lv_iconst (v := 3) hx hb dL_law_608 (by decide) ?_
  refine lv_iadd hx hb dL_law_609 ?_
  refine va_sld hx hb hX hbl hbA hS (zlin (k := 3) (by omega) (by omega)) dL_law_610 ?_
  refine lv_if_eq (tgt := 618) hx hb dL_law_611 (by decide) (fun _ => ?_) (fun c9 => absurd c3 c9)
  refine lv_iconst (v := 0) hx hb dL_law_618 (by decide) ?_
  refine lv_aload_n hx hb dL_law_619 rfl (lv_at hl 3 rfl) ?_
  refine zcLS (n := 5) hM hx hb hml hown hts gL_law_L_hold rfl ⟨by decide, by decide, by decide⟩ ⟨Nat.le_of_ble_eq_true rfl, Nat.le_of_ble_eq_true rfl⟩ ⟨rfl, rfl⟩ hK (zsubB (cs := [zB_X4 f h u o x, zB_X1 (g 1) u t0 t1 t2 t3 t4 t5 Z, zB_X3 (g 0) t0 T0, zB_X3 (g 0) t1 T1, zB_X3 (g 0) t2 T2, zB_X3 (g 0) t3 T3, zB_X3 (g 0) t4 T4, zB_X3 (g 0) t5 T5, zB_X3 (g 0) h T, zB_XJ (g 2) y J]) hP [0, 1, 2, 3, 4, 5, 6, 7, 8, 12] rfl rfl) (zDsubB (cs := [zB_X4 f h u o x, zB_X1 (g 1) u t0 t1 t2 t3 t4 t5 Z, zB_X3 (g 0) t0 T0, zB_X3 (g 0) t1 T1, zB_X3 (g 0) t2 T2, zB_X3 (g 0) t3 T3, zB_X3 (g 0) t4 T4, zB_X3 (g 0) t5 T5, zB_X3 (g 0) h T, zB_XJ (g 2) y J]) hD [0, 1, 2, 3, 4, 5, 6, 7, 8, 12] (by decide) rfl rfl) (zDsubB (cs := [zB_X4 f h u o x, zB_X1 (g 1) u t0 t1 t2 t3 t4 t5 Z, zB_X3 (g 0) t0 T0, zB_X3 (g 0) t1 T1, zB_X3 (g 0) t2 T2, zB_X3 (g 0) t3 T3, zB_X3 (g 0) t4 T4, zB_X3 (g 0) t5 T5, zB_X3 (g 0) h T, zB_XJ (g 2) y J]) hD [0, 1, 2, 3, 4, 5, 6, 7, 8, 12] (by decide) rfl rfl) hE (fun q hq => hS.2.1 q hq (Nat.not_le.mpr hq)) hS hl.1 rfl rfl (Nat.le_of_ble_eq_true rfl) ⟨hc, hsl⟩ dL_law_620 (fun H1 locs1 hP1 hk1 hS => ?_)
  obtain ⟨hP, hD⟩ := zjoinB (cs := [zB_X4 f h u o x, zB_X1 (g 1) u t0 t1 t2 t3 t4 t5 Z, zB_X3 (g 0) t0 T0, zB_X3 (g 0) t1 T1, zB_X3 (g 0) t2 T2, zB_X3 (g 0) t3 T3, zB_X3 (g 0) t4 T4, zB_X3 (g 0) t5 T5, zB_X3 (g 0) h T, zB_XJ (g 2) y J]) (cs' := [zB_X4 f h u o x, zB_X1 (g 1) u t0 t1 t2 t3 t4 t5 Z9, zB_X3 (g 0) t0 T09, zB_X3 (g 0) t1 T19, zB_X3 (g 0) t2 T29, zB_X3 (g 0) t3 T39, zB_X3 (g 0) t4 T49, zB_X3 (g 0) t5 T59, zB_X3 (g 0) h T9, zB_XJ (g 2) y J9]) hP hD [0, 1, 2, 3, 4, 5, 6, 7, 8, 12] (by decide) rfl rfl rfl rfl hk1 hP1
  clear hP1 hk1
  have hP : va_P D vwCl (zF (zWd g f h u o x t0 t1 t2 t3 t4 t5 uM y yd Z9 T09 T19 T29 T39 T49 T59 T9 O X M w J9 JD)) H1 := hP
  have hD : va_D (fun q : Nat => s.heap.size ≤ q) (zF (zWd g f h u o x t0 t1 t2 t3 t4 t5 uM y yd Z9 T09 T19 T29 T39 T49 T59 T9 O X M w J9 JD)) := hD
  refine lv_istore (lv' := [(6, .int k9), (0, .ref b), (1, .ref (f 0)), (2, .ref (uM 0)), (3, .ref (y 0)), (4, .ref (yd 0)), (5, .int (nI i))]) hx hb dL_law_623 hl (by decide) rfl (fun ls hl => ?_)
  refine lv_aload_n hx hb dL_law_625 rfl (lv_at hl 3 rfl) ?_
  refine lv_aload_n hx hb dL_law_626 rfl (lv_at hl 1 rfl) ?_
  refine lv_iload hx hb dL_law_627 (lv_at hl 6 rfl) ?_
  refine lv_iconst (v := 1) hx hb dL_law_629 (by decide) ?_
  refine lv_iadd hx hb dL_law_630 ?_
  refine va_sld hx hb hX hbl hbA hS (zlin (k := 1) (by omega) (by omega)) dL_law_631 ?_
  refine lv_aload_n hx hb dL_law_632 rfl (lv_at hl 1 rfl) ?_
  refine lv_iload hx hb dL_law_633 (lv_at hl 6 rfl) ?_
  refine lv_iconst (v := 2) hx hb dL_law_635 (by decide) ?_
  refine lv_iadd hx hb dL_law_636 ?_
  refine va_sld hx hb hX hbl hbA hS (zlin (k := 2) (by omega) (by omega)) dL_law_637 ?_
  refine lv_aload_n hx hb dL_law_638 rfl (lv_at hl 1 rfl) ?_
  refine lv_iload hx hb dL_law_639 (lv_at hl 6 rfl) ?_
  refine lv_iconst (v := 3) hx hb dL_law_641 (by decide) ?_
  refine lv_iadd hx hb dL_law_642 ?_
  refine va_sld hx hb hX hbl hbA hS (zlin (k := 3) (by omega) (by omega)) dL_law_643 ?_
  refine lv_if_eq (tgt := 651) hx hb dL_law_644 (by decide) (fun _ => ?_) (fun c9 => absurd c3 c9)
  refine lv_iconst (v := 0) hx hb dL_law_651 (by decide) ?_
  refine zcVw (ci := 5) (n := 3) (c_X5_hold l D g uM M w (xs (Int32.toNatClampNeg (nI i + 1))) (xs (Int32.toNatClampNeg (nI i + 2))) false V.ro V.hi.1) hx hb hml hown hts gL_law_X5_hold rfl ⟨rfl, by decide, by decide, by decide⟩ ⟨Nat.le_of_ble_eq_true rfl, Nat.le_of_ble_eq_true rfl⟩ ⟨rfl, rfl⟩ hK (zsubB (cs := [zB_X5 (g 0) uM M w]) hP [11] rfl (zF1 _)) (zDsubB (cs := [zB_X5 (g 0) uM M w]) hD [11] (by decide) rfl (zF1 _)) rfl rfl rfl hS hl.1 rfl rfl (Nat.le_of_ble_eq_true rfl) ⟨hc, hsl⟩ dL_law_652 (fun H2 locs2 hP2 hk2 hS => ?_)
  obtain ⟨hP, hD⟩ := zjoinB (cs := [zB_X5 (g 0) uM M w]) (cs' := [zB_X5 (g 0) uM (v_X5_hold M (xs (Int32.toNatClampNeg (nI i + 1))) (xs (Int32.toNatClampNeg (nI i + 2))) false).2 w]) hP hD [11] (by decide) rfl rfl (zF1 _) (zF1 _) hk2 hP2
  clear hP2 hk2
  have hP : va_P D vwCl (zF (zWd g f h u o x t0 t1 t2 t3 t4 t5 uM y yd Z9 T09 T19 T29 T39 T49 T59 T9 O X ((v_X5_hold M (xs (Int32.toNatClampNeg (nI i + 1))) (xs (Int32.toNatClampNeg (nI i + 2))) false).2) w J9 JD)) H2 := hP
  have hD : va_D (fun q : Nat => s.heap.size ≤ q) (zF (zWd g f h u o x t0 t1 t2 t3 t4 t5 uM y yd Z9 T09 T19 T29 T39 T49 T59 T9 O X ((v_X5_hold M (xs (Int32.toNatClampNeg (nI i + 1))) (xs (Int32.toNatClampNeg (nI i + 2))) false).2) w J9 JD)) := hD
  refine lv_istore (lv' := [(7, .int (v_X5_hold M (xs (Int32.toNatClampNeg (nI i + 1))) (xs (Int32.toNatClampNeg (nI i + 2))) false).1), (6, .int k9), (0, .ref b), (1, .ref (f 0)), (2, .ref (uM 0)), (3, .ref (y 0)), (4, .ref (yd 0)), (5, .int (nI i))]) hx hb dL_law_655 hl (by decide) rfl (fun ls hl => ?_)
  refine lv_aload_n hx hb dL_law_657 rfl (lv_at hl 4 rfl) ?_
  refine zcV (ci := 5) (n := 0) (c_X5_thrown l D g uM (v_X5_hold M (xs (Int32.toNatClampNeg (nI i + 1))) (xs (Int32.toNatClampNeg (nI i + 2))) false).2 w) hx hb hml hown hts gL_law_X5_thrown rfl ⟨rfl, by decide, by decide, by decide⟩ ⟨Nat.le_of_ble_eq_true rfl, Nat.le_of_ble_eq_true rfl⟩ ⟨rfl, rfl⟩ hK (zsubB (cs := [zB_X5 (g 0) uM (v_X5_hold M (xs (Int32.toNatClampNeg (nI i + 1))) (xs (Int32.toNatClampNeg (nI i + 2))) false).2 w]) hP [11] rfl (zF1 _)) rfl rfl rfl hl.1 rfl rfl (Nat.le_of_ble_eq_true rfl) ⟨hc, hsl⟩ dL_law_658 ?_
  refine lv_iload hx hb dL_law_661 (lv_at hl 1 rfl) ?_
  refine lv_icmp_eq (tgt := 668) hx hb dL_law_663 (by decide) (fun _ => ?_) (fun c9 => absurd h5.symm c9)
  refine lv_iload hx hb dL_law_668 (lv_at hl 1 rfl) ?_
  have fin : W p l e room_1 s m #[Value.ref b] below meth c H2 locs2 (cells + 1) (slots + 6) Q (F0 m 685 ls []) := by
    refine lv_goto (tgt := 1797) hx hb dL_law_685 (by decide) ?_
    exact kk H2 locs2 ls Z9 T09 T19 T29 T39 T49 T59 T9 O X ((v_X5_hold M (xs (Int32.toNatClampNeg (nI i + 1))) (xs (Int32.toNatClampNeg (nI i + 2))) false).2) w J9 JD V1 hP hD hS (lvb2 hl)
  refine lv_if_ne (tgt := 685) hx hb dL_law_670 (by decide) (fun _ => fin) (fun k0 => ?_)
  refine lv_aload_n hx hb dL_law_673 rfl (lv_at hl 5 rfl) ?_
  refine lv_iconst (v := 0) hx hb dL_law_674 (by decide) ?_
  refine va_lald hx hb hK.1 hP 93 2 rfl rfl (vp_in_nI (n := 0) (N := 1) (by decide) (by decide)) dL_law_675 ?_
  refine lv_iload hx hb dL_law_676 (lv_at hl 0 rfl) ?_
  refine lv_i2l hx hb dL_law_678 rfl ?_
  refine W.lcmp hx hb dL_law_679 ?_
  refine lv_if_eq (tgt := 685) hx hb dL_law_680 (by decide) (fun _ => fin) (fun c9 => absurd ?_ c9)
  exact zlg0 (hJ k0)
theorem lk_hold {p : Program} {l : Launch} {e : Env} {s : State} {m : MethodId} {below : List Frame} {meth : Method} {c : Code} {b L : Nat} {xs : Nat → Int32} {D : va_G} {g : Nat → ClassId} {f h u o x t0 t1 t2 t3 t4 t5 uM y yd : Nat → Nat} {Q : State → Prop} {H : Heap} {locs : List Loc} {cells slots i : Nat} {ls : Array Slot} {Z T0 T1 T2 T3 T4 T5 T O X M : Nat → Nat → Int32} {w : Int64} {J : Nat → Int64} {JD : Nat → UInt64} (hx : p.tables.exec = Jvm.exec) (hb : c.code = cL_law) (hml : c.maxLocals = 9) (hown : s.vm.findClass RL = some m.cls) (hts : ∀ w ∈ wsL_law, w.before #[Value.ref b] s = true) (hX : va_X b L xs s s.heap) (hbl : b < s.heap.size) (hK : zK D (zT g) s) (hE : zE s.heap.size s) (hst : l.stackTraces = false)
    (V : zInv Z T0 T1 T2 T3 T4 T5 T X M) (hP : va_P D vwCl (zF (zWd g f h u o x t0 t1 t2 t3 t4 t5 uM y yd Z T0 T1 T2 T3 T4 T5 T O X M w J JD)) H) (hD : va_D (fun q : Nat => s.heap.size ≤ q) (zF (zWd g f h u o x t0 t1 t2 t3 t4 t5 uM y yd Z T0 T1 T2 T3 T4 T5 T O X M w J JD))) (hS : va_S (fun q : Nat => s.heap.size ≤ q) s.heap H locs) (hl : lv_has ls 9 [(0, .ref b), (1, .ref (f 0)), (2, .ref (uM 0)), (3, .ref (y 0)), (4, .ref (yd 0)), (5, .int (nI i))]) (hi : i + 4 ≤ L) (hL : L ≤ 2048) (hc : cells + 1 ≤ 601024) (hsl : slots + 6 ≤ 7293034)
    (kk : ∀ (H' : Heap) (locs' : List Loc) (ls' : Array Slot) (Z' T0' T1' T2' T3' T4' T5' T' O' X' M' : Nat → Nat → Int32) (w' : Int64) (J' : Nat → Int64) (JD' : Nat → UInt64), zInv Z' T0' T1' T2' T3' T4' T5' T' X' M' → va_P D vwCl (zF (zWd g f h u o x t0 t1 t2 t3 t4 t5 uM y yd Z' T0' T1' T2' T3' T4' T5' T' O' X' M' w' J' JD')) H' → va_D (fun q : Nat => s.heap.size ≤ q) (zF (zWd g f h u o x t0 t1 t2 t3 t4 t5 uM y yd Z' T0' T1' T2' T3' T4' T5' T' O' X' M' w' J' JD')) → va_S (fun q : Nat => s.heap.size ≤ q) s.heap H' locs' → lv_has ls' 9 [(0, .ref b), (1, .ref (f 0)), (2, .ref (uM 0)), (3, .ref (y 0)), (4, .ref (yd 0)), (5, .int (nI i))] → W p l e room_1 s m #[Value.ref b] below meth c H' locs' (cells + 1) (slots + 6) Q (F0 m 1797 ls' [])) : W p l e room_1 s m #[Value.ref b] below meth c H locs cells slots Q (F0 m 592 ls []) := by
  by_cases c3 : (xs (Int32.toNatClampNeg (nI i + 3))) = 0
  · exact lk_hold_f hx hb hml hown hts hX hbl hK hE hst V hP hD hS hl hi hL hc hsl kk c3
  · exact lk_hold_t hx hb hml hown hts hX hbl hK hE hst V hP hD hS hl hi hL hc hsl kk c3
theorem lk_letGo {p : Program} {l : Launch} {e : Env} {s : State} {m : MethodId} {below : List Frame} {meth : Method} {c : Code} {b L : Nat} {xs : Nat → Int32} {D : va_G} {g : Nat → ClassId} {f h u o x t0 t1 t2 t3 t4 t5 uM y yd : Nat → Nat} {Q : State → Prop} {H : Heap} {locs : List Loc} {cells slots i : Nat} {ls : Array Slot} {Z T0 T1 T2 T3 T4 T5 T O X M : Nat → Nat → Int32} {w : Int64} {J : Nat → Int64} {JD : Nat → UInt64} (hx : p.tables.exec = Jvm.exec) (hb : c.code = cL_law) (hml : c.maxLocals = 9) (hown : s.vm.findClass RL = some m.cls) (hts : ∀ w ∈ wsL_law, w.before #[Value.ref b] s = true) (hX : va_X b L xs s s.heap) (hbl : b < s.heap.size) (hK : zK D (zT g) s) (hE : zE s.heap.size s) (hst : l.stackTraces = false)
    (V : zInv Z T0 T1 T2 T3 T4 T5 T X M) (hP : va_P D vwCl (zF (zWd g f h u o x t0 t1 t2 t3 t4 t5 uM y yd Z T0 T1 T2 T3 T4 T5 T O X M w J JD)) H) (hD : va_D (fun q : Nat => s.heap.size ≤ q) (zF (zWd g f h u o x t0 t1 t2 t3 t4 t5 uM y yd Z T0 T1 T2 T3 T4 T5 T O X M w J JD))) (hS : va_S (fun q : Nat => s.heap.size ≤ q) s.heap H locs) (hl : lv_has ls 9 [(0, .ref b), (1, .ref (f 0)), (2, .ref (uM 0)), (3, .ref (y 0)), (4, .ref (yd 0)), (5, .int (nI i))]) (hi : i + 4 ≤ L) (hL : L ≤ 2048) (hc : cells + 1 ≤ 601024) (hsl : slots + 6 ≤ 7293034)
    (kk : ∀ (H' : Heap) (locs' : List Loc) (ls' : Array Slot) (Z' T0' T1' T2' T3' T4' T5' T' O' X' M' : Nat → Nat → Int32) (w' : Int64) (J' : Nat → Int64) (JD' : Nat → UInt64), zInv Z' T0' T1' T2' T3' T4' T5' T' X' M' → va_P D vwCl (zF (zWd g f h u o x t0 t1 t2 t3 t4 t5 uM y yd Z' T0' T1' T2' T3' T4' T5' T' O' X' M' w' J' JD')) H' → va_D (fun q : Nat => s.heap.size ≤ q) (zF (zWd g f h u o x t0 t1 t2 t3 t4 t5 uM y yd Z' T0' T1' T2' T3' T4' T5' T' O' X' M' w' J' JD')) → va_S (fun q : Nat => s.heap.size ≤ q) s.heap H' locs' → lv_has ls' 9 [(0, .ref b), (1, .ref (f 0)), (2, .ref (uM 0)), (3, .ref (y 0)), (4, .ref (yd 0)), (5, .int (nI i))] → W p l e room_1 s m #[Value.ref b] below meth c H' locs' (cells + 1) (slots + 6) Q (F0 m 1797 ls' [])) : W p l e room_1 s m #[Value.ref b] below meth c H locs cells slots Q (F0 m 688 ls []) := by
  have hbA : ¬ (fun q : Nat => s.heap.size ≤ q) b := Nat.not_le.mpr hbl
  obtain ⟨k9, Z9, T09, T19, T29, T39, T49, T59, T9, J9, hM, h5, hJ, V1⟩ := Lr_letGo l D g s.heap.size f h u o x t0 t1 t2 t3 t4 t5 y Z T0 T1 T2 T3 T4 T5 T J (xs (Int32.toNatClampNeg (nI i + 1))) (xs (Int32.toNatClampNeg (nI i + 2))) X M hst V
  refine lv_aload_n hx hb dL_law_688 rfl (lv_at hl 1 rfl) ?_
  refine lv_aload_n hx hb dL_law_689 rfl (lv_at hl 0 rfl) ?_
  refine lv_iload hx hb dL_law_690 (lv_at hl 5 rfl) ?_
  refine lv_iconst (v := 1) hx hb dL_law_692 (by decide) ?_
  refine lv_iadd hx hb dL_law_693 ?_
  refine va_sld hx hb hX hbl hbA hS (zlin (k := 1) (by omega) (by omega)) dL_law_694 ?_
  refine lv_aload_n hx hb dL_law_695 rfl (lv_at hl 0 rfl) ?_
  refine lv_iload hx hb dL_law_696 (lv_at hl 5 rfl) ?_
  refine lv_iconst (v := 2) hx hb dL_law_698 (by decide) ?_
  refine lv_iadd hx hb dL_law_699 ?_
  refine va_sld hx hb hX hbl hbA hS (zlin (k := 2) (by omega) (by omega)) dL_law_700 ?_
  refine lv_aload_n hx hb dL_law_701 rfl (lv_at hl 3 rfl) ?_
  refine zcLS (n := 4) hM hx hb hml hown hts gL_law_L_letGo rfl ⟨by decide, by decide, by decide⟩ ⟨Nat.le_of_ble_eq_true rfl, Nat.le_of_ble_eq_true rfl⟩ ⟨rfl, rfl⟩ hK (zsubB (cs := [zB_X4 f h u o x, zB_X1 (g 1) u t0 t1 t2 t3 t4 t5 Z, zB_X3 (g 0) t0 T0, zB_X3 (g 0) t1 T1, zB_X3 (g 0) t2 T2, zB_X3 (g 0) t3 T3, zB_X3 (g 0) t4 T4, zB_X3 (g 0) t5 T5, zB_X3 (g 0) h T, zB_XJ (g 2) y J]) hP [0, 1, 2, 3, 4, 5, 6, 7, 8, 12] rfl rfl) (zDsubB (cs := [zB_X4 f h u o x, zB_X1 (g 1) u t0 t1 t2 t3 t4 t5 Z, zB_X3 (g 0) t0 T0, zB_X3 (g 0) t1 T1, zB_X3 (g 0) t2 T2, zB_X3 (g 0) t3 T3, zB_X3 (g 0) t4 T4, zB_X3 (g 0) t5 T5, zB_X3 (g 0) h T, zB_XJ (g 2) y J]) hD [0, 1, 2, 3, 4, 5, 6, 7, 8, 12] (by decide) rfl rfl) (zDsubB (cs := [zB_X4 f h u o x, zB_X1 (g 1) u t0 t1 t2 t3 t4 t5 Z, zB_X3 (g 0) t0 T0, zB_X3 (g 0) t1 T1, zB_X3 (g 0) t2 T2, zB_X3 (g 0) t3 T3, zB_X3 (g 0) t4 T4, zB_X3 (g 0) t5 T5, zB_X3 (g 0) h T, zB_XJ (g 2) y J]) hD [0, 1, 2, 3, 4, 5, 6, 7, 8, 12] (by decide) rfl rfl) hE (fun q hq => hS.2.1 q hq (Nat.not_le.mpr hq)) hS hl.1 rfl rfl (Nat.le_of_ble_eq_true rfl) ⟨hc, hsl⟩ dL_law_702 (fun H1 locs1 hP1 hk1 hS => ?_)
  obtain ⟨hP, hD⟩ := zjoinB (cs := [zB_X4 f h u o x, zB_X1 (g 1) u t0 t1 t2 t3 t4 t5 Z, zB_X3 (g 0) t0 T0, zB_X3 (g 0) t1 T1, zB_X3 (g 0) t2 T2, zB_X3 (g 0) t3 T3, zB_X3 (g 0) t4 T4, zB_X3 (g 0) t5 T5, zB_X3 (g 0) h T, zB_XJ (g 2) y J]) (cs' := [zB_X4 f h u o x, zB_X1 (g 1) u t0 t1 t2 t3 t4 t5 Z9, zB_X3 (g 0) t0 T09, zB_X3 (g 0) t1 T19, zB_X3 (g 0) t2 T29, zB_X3 (g 0) t3 T39, zB_X3 (g 0) t4 T49, zB_X3 (g 0) t5 T59, zB_X3 (g 0) h T9, zB_XJ (g 2) y J9]) hP hD [0, 1, 2, 3, 4, 5, 6, 7, 8, 12] (by decide) rfl rfl rfl rfl hk1 hP1
  clear hP1 hk1
  have hP : va_P D vwCl (zF (zWd g f h u o x t0 t1 t2 t3 t4 t5 uM y yd Z9 T09 T19 T29 T39 T49 T59 T9 O X M w J9 JD)) H1 := hP
  have hD : va_D (fun q : Nat => s.heap.size ≤ q) (zF (zWd g f h u o x t0 t1 t2 t3 t4 t5 uM y yd Z9 T09 T19 T29 T39 T49 T59 T9 O X M w J9 JD)) := hD
  refine lv_istore (lv' := [(6, .int k9), (0, .ref b), (1, .ref (f 0)), (2, .ref (uM 0)), (3, .ref (y 0)), (4, .ref (yd 0)), (5, .int (nI i))]) hx hb dL_law_705 hl (by decide) rfl (fun ls hl => ?_)
  refine lv_aload_n hx hb dL_law_707 rfl (lv_at hl 3 rfl) ?_
  refine lv_aload_n hx hb dL_law_708 rfl (lv_at hl 1 rfl) ?_
  refine lv_iload hx hb dL_law_709 (lv_at hl 6 rfl) ?_
  refine lv_iconst (v := 1) hx hb dL_law_711 (by decide) ?_
  refine lv_iadd hx hb dL_law_712 ?_
  refine va_sld hx hb hX hbl hbA hS (zlin (k := 1) (by omega) (by omega)) dL_law_713 ?_
  refine lv_aload_n hx hb dL_law_714 rfl (lv_at hl 1 rfl) ?_
  refine lv_iload hx hb dL_law_715 (lv_at hl 6 rfl) ?_
  refine lv_iconst (v := 2) hx hb dL_law_717 (by decide) ?_
  refine lv_iadd hx hb dL_law_718 ?_
  refine va_sld hx hb hX hbl hbA hS (zlin (k := 2) (by omega) (by omega)) dL_law_719 ?_
  refine zcVw (ci := 5) (n := 2) (c_X5_letGo l D g uM M w (xs (Int32.toNatClampNeg (nI i + 1))) (xs (Int32.toNatClampNeg (nI i + 2))) V.ro V.hi.1) hx hb hml hown hts gL_law_X5_letGo rfl ⟨rfl, by decide, by decide, by decide⟩ ⟨Nat.le_of_ble_eq_true rfl, Nat.le_of_ble_eq_true rfl⟩ ⟨rfl, rfl⟩ hK (zsubB (cs := [zB_X5 (g 0) uM M w]) hP [11] rfl (zF1 _)) (zDsubB (cs := [zB_X5 (g 0) uM M w]) hD [11] (by decide) rfl (zF1 _)) rfl rfl rfl hS hl.1 rfl rfl (Nat.le_of_ble_eq_true rfl) ⟨hc, hsl⟩ dL_law_720 (fun H2 locs2 hP2 hk2 hS => ?_)
  obtain ⟨hP, hD⟩ := zjoinB (cs := [zB_X5 (g 0) uM M w]) (cs' := [zB_X5 (g 0) uM (v_X5_letGo M (xs (Int32.toNatClampNeg (nI i + 1))) (xs (Int32.toNatClampNeg (nI i + 2)))).2 w]) hP hD [11] (by decide) rfl rfl (zF1 _) (zF1 _) hk2 hP2
  clear hP2 hk2
  have hP : va_P D vwCl (zF (zWd g f h u o x t0 t1 t2 t3 t4 t5 uM y yd Z9 T09 T19 T29 T39 T49 T59 T9 O X ((v_X5_letGo M (xs (Int32.toNatClampNeg (nI i + 1))) (xs (Int32.toNatClampNeg (nI i + 2)))).2) w J9 JD)) H2 := hP
  have hD : va_D (fun q : Nat => s.heap.size ≤ q) (zF (zWd g f h u o x t0 t1 t2 t3 t4 t5 uM y yd Z9 T09 T19 T29 T39 T49 T59 T9 O X ((v_X5_letGo M (xs (Int32.toNatClampNeg (nI i + 1))) (xs (Int32.toNatClampNeg (nI i + 2)))).2) w J9 JD)) := hD
  refine lv_istore (lv' := [(7, .int (v_X5_letGo M (xs (Int32.toNatClampNeg (nI i + 1))) (xs (Int32.toNatClampNeg (nI i + 2)))).1), (6, .int k9), (0, .ref b), (1, .ref (f 0)), (2, .ref (uM 0)), (3, .ref (y 0)), (4, .ref (yd 0)), (5, .int (nI i))]) hx hb dL_law_723 hl (by decide) rfl (fun ls hl => ?_)
  refine lv_aload_n hx hb dL_law_725 rfl (lv_at hl 4 rfl) ?_
  refine zcV (ci := 5) (n := 0) (c_X5_thrown l D g uM (v_X5_letGo M (xs (Int32.toNatClampNeg (nI i + 1))) (xs (Int32.toNatClampNeg (nI i + 2)))).2 w) hx hb hml hown hts gL_law_X5_thrown rfl ⟨rfl, by decide, by decide, by decide⟩ ⟨Nat.le_of_ble_eq_true rfl, Nat.le_of_ble_eq_true rfl⟩ ⟨rfl, rfl⟩ hK (zsubB (cs := [zB_X5 (g 0) uM (v_X5_letGo M (xs (Int32.toNatClampNeg (nI i + 1))) (xs (Int32.toNatClampNeg (nI i + 2)))).2 w]) hP [11] rfl (zF1 _)) rfl rfl rfl hl.1 rfl rfl (Nat.le_of_ble_eq_true rfl) ⟨hc, hsl⟩ dL_law_726 ?_
  refine lv_iload hx hb dL_law_729 (lv_at hl 1 rfl) ?_
  refine lv_icmp_eq (tgt := 736) hx hb dL_law_731 (by decide) (fun _ => ?_) (fun c9 => absurd h5.symm c9)
  refine lv_iload hx hb dL_law_736 (lv_at hl 1 rfl) ?_
  have fin : W p l e room_1 s m #[Value.ref b] below meth c H2 locs2 (cells + 1) (slots + 6) Q (F0 m 753 ls []) := by
    refine lv_goto (tgt := 1797) hx hb dL_law_753 (by decide) ?_
    exact kk H2 locs2 ls Z9 T09 T19 T29 T39 T49 T59 T9 O X ((v_X5_letGo M (xs (Int32.toNatClampNeg (nI i + 1))) (xs (Int32.toNatClampNeg (nI i + 2)))).2) w J9 JD V1 hP hD hS (lvb2 hl)
  refine lv_if_ne (tgt := 753) hx hb dL_law_738 (by decide) (fun _ => fin) (fun k0 => ?_)
  refine lv_aload_n hx hb dL_law_741 rfl (lv_at hl 5 rfl) ?_
  refine lv_iconst (v := 0) hx hb dL_law_742 (by decide) ?_
  refine va_lald hx hb hK.1 hP 93 2 rfl rfl (vp_in_nI (n := 0) (N := 1) (by decide) (by decide)) dL_law_743 ?_
  refine lv_iload hx hb dL_law_744 (lv_at hl 0 rfl) ?_
  refine lv_i2l hx hb dL_law_746 rfl ?_
  refine W.lcmp hx hb dL_law_747 ?_
  refine lv_if_eq (tgt := 753) hx hb dL_law_748 (by decide) (fun _ => fin) (fun c9 => absurd ?_ c9)
  exact zlg0 (hJ k0)
theorem lk_pass {p : Program} {l : Launch} {e : Env} {s : State} {m : MethodId} {below : List Frame} {meth : Method} {c : Code} {b L : Nat} {xs : Nat → Int32} {D : va_G} {g : Nat → ClassId} {f h u o x t0 t1 t2 t3 t4 t5 uM y yd : Nat → Nat} {Q : State → Prop} {H : Heap} {locs : List Loc} {cells slots i : Nat} {ls : Array Slot} {Z T0 T1 T2 T3 T4 T5 T O X M : Nat → Nat → Int32} {w : Int64} {J : Nat → Int64} {JD : Nat → UInt64} (hx : p.tables.exec = Jvm.exec) (hb : c.code = cL_law) (hml : c.maxLocals = 9) (hown : s.vm.findClass RL = some m.cls) (hts : ∀ w ∈ wsL_law, w.before #[Value.ref b] s = true) (hX : va_X b L xs s s.heap) (hbl : b < s.heap.size) (hK : zK D (zT g) s) (hE : zE s.heap.size s) (hst : l.stackTraces = false)
    (V : zInv Z T0 T1 T2 T3 T4 T5 T X M) (hP : va_P D vwCl (zF (zWd g f h u o x t0 t1 t2 t3 t4 t5 uM y yd Z T0 T1 T2 T3 T4 T5 T O X M w J JD)) H) (hD : va_D (fun q : Nat => s.heap.size ≤ q) (zF (zWd g f h u o x t0 t1 t2 t3 t4 t5 uM y yd Z T0 T1 T2 T3 T4 T5 T O X M w J JD))) (hS : va_S (fun q : Nat => s.heap.size ≤ q) s.heap H locs) (hl : lv_has ls 9 [(0, .ref b), (1, .ref (f 0)), (2, .ref (uM 0)), (3, .ref (y 0)), (4, .ref (yd 0)), (5, .int (nI i))]) (hi : i + 4 ≤ L) (hL : L ≤ 2048) (hc : cells + 1 ≤ 601024) (hsl : slots + 6 ≤ 7293034)
    (kk : ∀ (H' : Heap) (locs' : List Loc) (ls' : Array Slot) (Z' T0' T1' T2' T3' T4' T5' T' O' X' M' : Nat → Nat → Int32) (w' : Int64) (J' : Nat → Int64) (JD' : Nat → UInt64), zInv Z' T0' T1' T2' T3' T4' T5' T' X' M' → va_P D vwCl (zF (zWd g f h u o x t0 t1 t2 t3 t4 t5 uM y yd Z' T0' T1' T2' T3' T4' T5' T' O' X' M' w' J' JD')) H' → va_D (fun q : Nat => s.heap.size ≤ q) (zF (zWd g f h u o x t0 t1 t2 t3 t4 t5 uM y yd Z' T0' T1' T2' T3' T4' T5' T' O' X' M' w' J' JD')) → va_S (fun q : Nat => s.heap.size ≤ q) s.heap H' locs' → lv_has ls' 9 [(0, .ref b), (1, .ref (f 0)), (2, .ref (uM 0)), (3, .ref (y 0)), (4, .ref (yd 0)), (5, .int (nI i))] → W p l e room_1 s m #[Value.ref b] below meth c H' locs' (cells + 1) (slots + 6) Q (F0 m 1797 ls' [])) : W p l e room_1 s m #[Value.ref b] below meth c H locs cells slots Q (F0 m 756 ls []) := by
  have hbA : ¬ (fun q : Nat => s.heap.size ≤ q) b := Nat.not_le.mpr hbl
  obtain ⟨k9, Z9, T09, T19, T29, T39, T49, T59, T9, J9, hM, h5, hJ, V1⟩ := Lr_pass l D g s.heap.size f h u o x t0 t1 t2 t3 t4 t5 y Z T0 T1 T2 T3 T4 T5 T J (xs (Int32.toNatClampNeg (nI i + 1))) X M hst V
  refine lv_aload_n hx hb dL_law_756 rfl (lv_at hl 1 rfl) ?_
  refine lv_aload_n hx hb dL_law_757 rfl (lv_at hl 0 rfl) ?_
  refine lv_iload hx hb dL_law_758 (lv_at hl 5 rfl) ?_
  refine lv_iconst (v := 1) hx hb dL_law_760 (by decide) ?_
  refine lv_iadd hx hb dL_law_761 ?_
  refine va_sld hx hb hX hbl hbA hS (zlin (k := 1) (by omega) (by omega)) dL_law_762 ?_
  refine lv_aload_n hx hb dL_law_763 rfl (lv_at hl 3 rfl) ?_
  refine zcLS (n := 3) hM hx hb hml hown hts gL_law_L_pass rfl ⟨by decide, by decide, by decide⟩ ⟨Nat.le_of_ble_eq_true rfl, Nat.le_of_ble_eq_true rfl⟩ ⟨rfl, rfl⟩ hK (zsubB (cs := [zB_X4 f h u o x, zB_X1 (g 1) u t0 t1 t2 t3 t4 t5 Z, zB_X3 (g 0) t0 T0, zB_X3 (g 0) t1 T1, zB_X3 (g 0) t2 T2, zB_X3 (g 0) t3 T3, zB_X3 (g 0) t4 T4, zB_X3 (g 0) t5 T5, zB_X3 (g 0) h T, zB_XJ (g 2) y J]) hP [0, 1, 2, 3, 4, 5, 6, 7, 8, 12] rfl rfl) (zDsubB (cs := [zB_X4 f h u o x, zB_X1 (g 1) u t0 t1 t2 t3 t4 t5 Z, zB_X3 (g 0) t0 T0, zB_X3 (g 0) t1 T1, zB_X3 (g 0) t2 T2, zB_X3 (g 0) t3 T3, zB_X3 (g 0) t4 T4, zB_X3 (g 0) t5 T5, zB_X3 (g 0) h T, zB_XJ (g 2) y J]) hD [0, 1, 2, 3, 4, 5, 6, 7, 8, 12] (by decide) rfl rfl) (zDsubB (cs := [zB_X4 f h u o x, zB_X1 (g 1) u t0 t1 t2 t3 t4 t5 Z, zB_X3 (g 0) t0 T0, zB_X3 (g 0) t1 T1, zB_X3 (g 0) t2 T2, zB_X3 (g 0) t3 T3, zB_X3 (g 0) t4 T4, zB_X3 (g 0) t5 T5, zB_X3 (g 0) h T, zB_XJ (g 2) y J]) hD [0, 1, 2, 3, 4, 5, 6, 7, 8, 12] (by decide) rfl rfl) hE (fun q hq => hS.2.1 q hq (Nat.not_le.mpr hq)) hS hl.1 rfl rfl (Nat.le_of_ble_eq_true rfl) ⟨hc, hsl⟩ dL_law_764 (fun H1 locs1 hP1 hk1 hS => ?_)
  obtain ⟨hP, hD⟩ := zjoinB (cs := [zB_X4 f h u o x, zB_X1 (g 1) u t0 t1 t2 t3 t4 t5 Z, zB_X3 (g 0) t0 T0, zB_X3 (g 0) t1 T1, zB_X3 (g 0) t2 T2, zB_X3 (g 0) t3 T3, zB_X3 (g 0) t4 T4, zB_X3 (g 0) t5 T5, zB_X3 (g 0) h T, zB_XJ (g 2) y J]) (cs' := [zB_X4 f h u o x, zB_X1 (g 1) u t0 t1 t2 t3 t4 t5 Z9, zB_X3 (g 0) t0 T09, zB_X3 (g 0) t1 T19, zB_X3 (g 0) t2 T29, zB_X3 (g 0) t3 T39, zB_X3 (g 0) t4 T49, zB_X3 (g 0) t5 T59, zB_X3 (g 0) h T9, zB_XJ (g 2) y J9]) hP hD [0, 1, 2, 3, 4, 5, 6, 7, 8, 12] (by decide) rfl rfl rfl rfl hk1 hP1
  clear hP1 hk1
  have hP : va_P D vwCl (zF (zWd g f h u o x t0 t1 t2 t3 t4 t5 uM y yd Z9 T09 T19 T29 T39 T49 T59 T9 O X M w J9 JD)) H1 := hP
  have hD : va_D (fun q : Nat => s.heap.size ≤ q) (zF (zWd g f h u o x t0 t1 t2 t3 t4 t5 uM y yd Z9 T09 T19 T29 T39 T49 T59 T9 O X M w J9 JD)) := hD
  refine lv_istore (lv' := [(6, .int k9), (0, .ref b), (1, .ref (f 0)), (2, .ref (uM 0)), (3, .ref (y 0)), (4, .ref (yd 0)), (5, .int (nI i))]) hx hb dL_law_767 hl (by decide) rfl (fun ls hl => ?_)
  refine lv_aload_n hx hb dL_law_769 rfl (lv_at hl 3 rfl) ?_
  refine lv_aload_n hx hb dL_law_770 rfl (lv_at hl 1 rfl) ?_
  refine lv_iload hx hb dL_law_771 (lv_at hl 6 rfl) ?_
  refine lv_iconst (v := 1) hx hb dL_law_773 (by decide) ?_
  refine lv_iadd hx hb dL_law_774 ?_
  refine va_sld hx hb hX hbl hbA hS (zlin (k := 1) (by omega) (by omega)) dL_law_775 ?_
  refine zcVw (ci := 5) (n := 1) (c_X5_pass l D g uM M w (xs (Int32.toNatClampNeg (nI i + 1))) V.ro V.hi.1) hx hb hml hown hts gL_law_X5_pass rfl ⟨rfl, by decide, by decide, by decide⟩ ⟨Nat.le_of_ble_eq_true rfl, Nat.le_of_ble_eq_true rfl⟩ ⟨rfl, rfl⟩ hK (zsubB (cs := [zB_X5 (g 0) uM M w]) hP [11] rfl (zF1 _)) (zDsubB (cs := [zB_X5 (g 0) uM M w]) hD [11] (by decide) rfl (zF1 _)) rfl rfl rfl hS hl.1 rfl rfl (Nat.le_of_ble_eq_true rfl) ⟨hc, hsl⟩ dL_law_776 (fun H2 locs2 hP2 hk2 hS => ?_)
  obtain ⟨hP, hD⟩ := zjoinB (cs := [zB_X5 (g 0) uM M w]) (cs' := [zB_X5 (g 0) uM (v_X5_pass M (xs (Int32.toNatClampNeg (nI i + 1)))).2 w]) hP hD [11] (by decide) rfl rfl (zF1 _) (zF1 _) hk2 hP2
  clear hP2 hk2
  have hP : va_P D vwCl (zF (zWd g f h u o x t0 t1 t2 t3 t4 t5 uM y yd Z9 T09 T19 T29 T39 T49 T59 T9 O X ((v_X5_pass M (xs (Int32.toNatClampNeg (nI i + 1)))).2) w J9 JD)) H2 := hP
  have hD : va_D (fun q : Nat => s.heap.size ≤ q) (zF (zWd g f h u o x t0 t1 t2 t3 t4 t5 uM y yd Z9 T09 T19 T29 T39 T49 T59 T9 O X ((v_X5_pass M (xs (Int32.toNatClampNeg (nI i + 1)))).2) w J9 JD)) := hD
  refine lv_istore (lv' := [(7, .int (v_X5_pass M (xs (Int32.toNatClampNeg (nI i + 1)))).1), (6, .int k9), (0, .ref b), (1, .ref (f 0)), (2, .ref (uM 0)), (3, .ref (y 0)), (4, .ref (yd 0)), (5, .int (nI i))]) hx hb dL_law_779 hl (by decide) rfl (fun ls hl => ?_)
  refine lv_aload_n hx hb dL_law_781 rfl (lv_at hl 4 rfl) ?_
  refine zcV (ci := 5) (n := 0) (c_X5_thrown l D g uM (v_X5_pass M (xs (Int32.toNatClampNeg (nI i + 1)))).2 w) hx hb hml hown hts gL_law_X5_thrown rfl ⟨rfl, by decide, by decide, by decide⟩ ⟨Nat.le_of_ble_eq_true rfl, Nat.le_of_ble_eq_true rfl⟩ ⟨rfl, rfl⟩ hK (zsubB (cs := [zB_X5 (g 0) uM (v_X5_pass M (xs (Int32.toNatClampNeg (nI i + 1)))).2 w]) hP [11] rfl (zF1 _)) rfl rfl rfl hl.1 rfl rfl (Nat.le_of_ble_eq_true rfl) ⟨hc, hsl⟩ dL_law_782 ?_
  refine lv_iload hx hb dL_law_785 (lv_at hl 1 rfl) ?_
  refine lv_icmp_eq (tgt := 792) hx hb dL_law_787 (by decide) (fun _ => ?_) (fun c9 => absurd h5.symm c9)
  refine lv_iload hx hb dL_law_792 (lv_at hl 1 rfl) ?_
  have fin : W p l e room_1 s m #[Value.ref b] below meth c H2 locs2 (cells + 1) (slots + 6) Q (F0 m 809 ls []) := by
    refine lv_goto (tgt := 1797) hx hb dL_law_809 (by decide) ?_
    exact kk H2 locs2 ls Z9 T09 T19 T29 T39 T49 T59 T9 O X ((v_X5_pass M (xs (Int32.toNatClampNeg (nI i + 1)))).2) w J9 JD V1 hP hD hS (lvb2 hl)
  refine lv_if_ne (tgt := 809) hx hb dL_law_794 (by decide) (fun _ => fin) (fun k0 => ?_)
  refine lv_aload_n hx hb dL_law_797 rfl (lv_at hl 5 rfl) ?_
  refine lv_iconst (v := 0) hx hb dL_law_798 (by decide) ?_
  refine va_lald hx hb hK.1 hP 93 2 rfl rfl (vp_in_nI (n := 0) (N := 1) (by decide) (by decide)) dL_law_799 ?_
  refine lv_iload hx hb dL_law_800 (lv_at hl 0 rfl) ?_
  refine lv_i2l hx hb dL_law_802 rfl ?_
  refine W.lcmp hx hb dL_law_803 ?_
  refine lv_if_eq (tgt := 809) hx hb dL_law_804 (by decide) (fun _ => fin) (fun c9 => absurd ?_ c9)
  exact zlg0 (hJ k0)
theorem lk_append {p : Program} {l : Launch} {e : Env} {s : State} {m : MethodId} {below : List Frame} {meth : Method} {c : Code} {b L : Nat} {xs : Nat → Int32} {D : va_G} {g : Nat → ClassId} {f h u o x t0 t1 t2 t3 t4 t5 uM y yd : Nat → Nat} {Q : State → Prop} {H : Heap} {locs : List Loc} {cells slots i : Nat} {ls : Array Slot} {Z T0 T1 T2 T3 T4 T5 T O X M : Nat → Nat → Int32} {w : Int64} {J : Nat → Int64} {JD : Nat → UInt64} (hx : p.tables.exec = Jvm.exec) (hb : c.code = cL_law) (hml : c.maxLocals = 9) (hown : s.vm.findClass RL = some m.cls) (hts : ∀ w ∈ wsL_law, w.before #[Value.ref b] s = true) (hX : va_X b L xs s s.heap) (hbl : b < s.heap.size) (hK : zK D (zT g) s) (hE : zE s.heap.size s) (hst : l.stackTraces = false)
    (V : zInv Z T0 T1 T2 T3 T4 T5 T X M) (hP : va_P D vwCl (zF (zWd g f h u o x t0 t1 t2 t3 t4 t5 uM y yd Z T0 T1 T2 T3 T4 T5 T O X M w J JD)) H) (hD : va_D (fun q : Nat => s.heap.size ≤ q) (zF (zWd g f h u o x t0 t1 t2 t3 t4 t5 uM y yd Z T0 T1 T2 T3 T4 T5 T O X M w J JD))) (hS : va_S (fun q : Nat => s.heap.size ≤ q) s.heap H locs) (hl : lv_has ls 9 [(0, .ref b), (1, .ref (f 0)), (2, .ref (uM 0)), (3, .ref (y 0)), (4, .ref (yd 0)), (5, .int (nI i))]) (hi : i + 4 ≤ L) (hL : L ≤ 2048) (hc : cells + 1 ≤ 601024) (hsl : slots + 6 ≤ 7293034)
    (kk : ∀ (H' : Heap) (locs' : List Loc) (ls' : Array Slot) (Z' T0' T1' T2' T3' T4' T5' T' O' X' M' : Nat → Nat → Int32) (w' : Int64) (J' : Nat → Int64) (JD' : Nat → UInt64), zInv Z' T0' T1' T2' T3' T4' T5' T' X' M' → va_P D vwCl (zF (zWd g f h u o x t0 t1 t2 t3 t4 t5 uM y yd Z' T0' T1' T2' T3' T4' T5' T' O' X' M' w' J' JD')) H' → va_D (fun q : Nat => s.heap.size ≤ q) (zF (zWd g f h u o x t0 t1 t2 t3 t4 t5 uM y yd Z' T0' T1' T2' T3' T4' T5' T' O' X' M' w' J' JD')) → va_S (fun q : Nat => s.heap.size ≤ q) s.heap H' locs' → lv_has ls' 9 [(0, .ref b), (1, .ref (f 0)), (2, .ref (uM 0)), (3, .ref (y 0)), (4, .ref (yd 0)), (5, .int (nI i))] → W p l e room_1 s m #[Value.ref b] below meth c H' locs' (cells + 1) (slots + 6) Q (F0 m 1797 ls' [])) : W p l e room_1 s m #[Value.ref b] below meth c H locs cells slots Q (F0 m 812 ls []) := by
  have hbA : ¬ (fun q : Nat => s.heap.size ≤ q) b := Nat.not_le.mpr hbl
  obtain ⟨k9, X9, J9, hM, h5, hJ, V1⟩ := Lr_append l D g s.heap.size f h u o x y X J (xs (Int32.toNatClampNeg (nI i + 1))) Z T0 T1 T2 T3 T4 T5 T M hst V
  refine lv_aload_n hx hb dL_law_812 rfl (lv_at hl 1 rfl) ?_
  refine lv_aload_n hx hb dL_law_813 rfl (lv_at hl 0 rfl) ?_
  refine lv_iload hx hb dL_law_814 (lv_at hl 5 rfl) ?_
  refine lv_iconst (v := 1) hx hb dL_law_816 (by decide) ?_
  refine lv_iadd hx hb dL_law_817 ?_
  refine va_sld hx hb hX hbl hbA hS (zlin (k := 1) (by omega) (by omega)) dL_law_818 ?_
  refine lv_aload_n hx hb dL_law_819 rfl (lv_at hl 3 rfl) ?_
  refine zcLS (n := 3) hM hx hb hml hown hts gL_law_L_append rfl ⟨by decide, by decide, by decide⟩ ⟨Nat.le_of_ble_eq_true rfl, Nat.le_of_ble_eq_true rfl⟩ ⟨rfl, rfl⟩ hK (zsubB (cs := [zB_X4 f h u o x, zB_X0 (g 0) x X, zB_XJ (g 2) y J]) hP [0, 10, 12] rfl rfl) (zDsubB (cs := [zB_X4 f h u o x, zB_X0 (g 0) x X, zB_XJ (g 2) y J]) hD [0, 10, 12] (by decide) rfl rfl) (zDsubB (cs := [zB_X4 f h u o x, zB_X0 (g 0) x X, zB_XJ (g 2) y J]) hD [0, 10, 12] (by decide) rfl rfl) hE (fun q hq => hS.2.1 q hq (Nat.not_le.mpr hq)) hS hl.1 rfl rfl (Nat.le_of_ble_eq_true rfl) ⟨hc, hsl⟩ dL_law_820 (fun H1 locs1 hP1 hk1 hS => ?_)
  obtain ⟨hP, hD⟩ := zjoinB (cs := [zB_X4 f h u o x, zB_X0 (g 0) x X, zB_XJ (g 2) y J]) (cs' := [zB_X4 f h u o x, zB_X0 (g 0) x X9, zB_XJ (g 2) y J9]) hP hD [0, 10, 12] (by decide) rfl rfl rfl rfl hk1 hP1
  clear hP1 hk1
  have hP : va_P D vwCl (zF (zWd g f h u o x t0 t1 t2 t3 t4 t5 uM y yd Z T0 T1 T2 T3 T4 T5 T O X9 M w J9 JD)) H1 := hP
  have hD : va_D (fun q : Nat => s.heap.size ≤ q) (zF (zWd g f h u o x t0 t1 t2 t3 t4 t5 uM y yd Z T0 T1 T2 T3 T4 T5 T O X9 M w J9 JD)) := hD
  refine lv_istore (lv' := [(6, .int k9), (0, .ref b), (1, .ref (f 0)), (2, .ref (uM 0)), (3, .ref (y 0)), (4, .ref (yd 0)), (5, .int (nI i))]) hx hb dL_law_823 hl (by decide) rfl (fun ls hl => ?_)
  refine lv_aload_n hx hb dL_law_825 rfl (lv_at hl 3 rfl) ?_
  refine lv_aload_n hx hb dL_law_826 rfl (lv_at hl 1 rfl) ?_
  refine lv_iload hx hb dL_law_827 (lv_at hl 6 rfl) ?_
  refine lv_iconst (v := 1) hx hb dL_law_829 (by decide) ?_
  refine lv_iadd hx hb dL_law_830 ?_
  refine va_sld hx hb hX hbl hbA hS (zlin (k := 1) (by omega) (by omega)) dL_law_831 ?_
  refine zcVw (ci := 5) (n := 1) (c_X5_append l D g uM M w (xs (Int32.toNatClampNeg (nI i + 1))) V.tx.1) hx hb hml hown hts gL_law_X5_append rfl ⟨rfl, by decide, by decide, by decide⟩ ⟨Nat.le_of_ble_eq_true rfl, Nat.le_of_ble_eq_true rfl⟩ ⟨rfl, rfl⟩ hK (zsubB (cs := [zB_X5 (g 0) uM M w]) hP [11] rfl (zF1 _)) (zDsubB (cs := [zB_X5 (g 0) uM M w]) hD [11] (by decide) rfl (zF1 _)) rfl rfl rfl hS hl.1 rfl rfl (Nat.le_of_ble_eq_true rfl) ⟨hc, hsl⟩ dL_law_832 (fun H2 locs2 hP2 hk2 hS => ?_)
  obtain ⟨hP, hD⟩ := zjoinB (cs := [zB_X5 (g 0) uM M w]) (cs' := [zB_X5 (g 0) uM (v_X5_append M (xs (Int32.toNatClampNeg (nI i + 1)))).2 w]) hP hD [11] (by decide) rfl rfl (zF1 _) (zF1 _) hk2 hP2
  clear hP2 hk2
  have hP : va_P D vwCl (zF (zWd g f h u o x t0 t1 t2 t3 t4 t5 uM y yd Z T0 T1 T2 T3 T4 T5 T O X9 ((v_X5_append M (xs (Int32.toNatClampNeg (nI i + 1)))).2) w J9 JD)) H2 := hP
  have hD : va_D (fun q : Nat => s.heap.size ≤ q) (zF (zWd g f h u o x t0 t1 t2 t3 t4 t5 uM y yd Z T0 T1 T2 T3 T4 T5 T O X9 ((v_X5_append M (xs (Int32.toNatClampNeg (nI i + 1)))).2) w J9 JD)) := hD
  refine lv_istore (lv' := [(7, .int (v_X5_append M (xs (Int32.toNatClampNeg (nI i + 1)))).1), (6, .int k9), (0, .ref b), (1, .ref (f 0)), (2, .ref (uM 0)), (3, .ref (y 0)), (4, .ref (yd 0)), (5, .int (nI i))]) hx hb dL_law_835 hl (by decide) rfl (fun ls hl => ?_)
  refine lv_aload_n hx hb dL_law_837 rfl (lv_at hl 4 rfl) ?_
  refine zcV (ci := 5) (n := 0) (c_X5_thrown l D g uM (v_X5_append M (xs (Int32.toNatClampNeg (nI i + 1)))).2 w) hx hb hml hown hts gL_law_X5_thrown rfl ⟨rfl, by decide, by decide, by decide⟩ ⟨Nat.le_of_ble_eq_true rfl, Nat.le_of_ble_eq_true rfl⟩ ⟨rfl, rfl⟩ hK (zsubB (cs := [zB_X5 (g 0) uM (v_X5_append M (xs (Int32.toNatClampNeg (nI i + 1)))).2 w]) hP [11] rfl (zF1 _)) rfl rfl rfl hl.1 rfl rfl (Nat.le_of_ble_eq_true rfl) ⟨hc, hsl⟩ dL_law_838 ?_
  refine lv_iload hx hb dL_law_841 (lv_at hl 1 rfl) ?_
  refine lv_icmp_eq (tgt := 848) hx hb dL_law_843 (by decide) (fun _ => ?_) (fun c9 => absurd h5.symm c9)
  refine lv_iload hx hb dL_law_848 (lv_at hl 1 rfl) ?_
  have fin : W p l e room_1 s m #[Value.ref b] below meth c H2 locs2 (cells + 1) (slots + 6) Q (F0 m 865 ls []) := by
    refine lv_goto (tgt := 1797) hx hb dL_law_865 (by decide) ?_
    exact kk H2 locs2 ls Z T0 T1 T2 T3 T4 T5 T O X9 ((v_X5_append M (xs (Int32.toNatClampNeg (nI i + 1)))).2) w J9 JD V1 hP hD hS (lvb2 hl)
  refine lv_if_ne (tgt := 865) hx hb dL_law_850 (by decide) (fun _ => fin) (fun k0 => ?_)
  refine lv_aload_n hx hb dL_law_853 rfl (lv_at hl 5 rfl) ?_
  refine lv_iconst (v := 0) hx hb dL_law_854 (by decide) ?_
  refine va_lald hx hb hK.1 hP 93 2 rfl rfl (vp_in_nI (n := 0) (N := 1) (by decide) (by decide)) dL_law_855 ?_
  refine lv_iload hx hb dL_law_856 (lv_at hl 0 rfl) ?_
  refine lv_i2l hx hb dL_law_858 rfl ?_
  refine W.lcmp hx hb dL_law_859 ?_
  refine lv_if_eq (tgt := 865) hx hb dL_law_860 (by decide) (fun _ => fin) (fun c9 => absurd ?_ c9)
  exact zlg0 (hJ k0)
theorem lk_clearBuffer {p : Program} {l : Launch} {e : Env} {s : State} {m : MethodId} {below : List Frame} {meth : Method} {c : Code} {b L : Nat} {xs : Nat → Int32} {D : va_G} {g : Nat → ClassId} {f h u o x t0 t1 t2 t3 t4 t5 uM y yd : Nat → Nat} {Q : State → Prop} {H : Heap} {locs : List Loc} {cells slots i : Nat} {ls : Array Slot} {Z T0 T1 T2 T3 T4 T5 T O X M : Nat → Nat → Int32} {w : Int64} {J : Nat → Int64} {JD : Nat → UInt64} (hx : p.tables.exec = Jvm.exec) (hb : c.code = cL_law) (hml : c.maxLocals = 9) (hown : s.vm.findClass RL = some m.cls) (hts : ∀ w ∈ wsL_law, w.before #[Value.ref b] s = true) (hX : va_X b L xs s s.heap) (hbl : b < s.heap.size) (hK : zK D (zT g) s) (hE : zE s.heap.size s) (hst : l.stackTraces = false)
    (V : zInv Z T0 T1 T2 T3 T4 T5 T X M) (hP : va_P D vwCl (zF (zWd g f h u o x t0 t1 t2 t3 t4 t5 uM y yd Z T0 T1 T2 T3 T4 T5 T O X M w J JD)) H) (hD : va_D (fun q : Nat => s.heap.size ≤ q) (zF (zWd g f h u o x t0 t1 t2 t3 t4 t5 uM y yd Z T0 T1 T2 T3 T4 T5 T O X M w J JD))) (hS : va_S (fun q : Nat => s.heap.size ≤ q) s.heap H locs) (hl : lv_has ls 9 [(0, .ref b), (1, .ref (f 0)), (2, .ref (uM 0)), (3, .ref (y 0)), (4, .ref (yd 0)), (5, .int (nI i))]) (hi : i + 4 ≤ L) (hL : L ≤ 2048) (hc : cells + 1 ≤ 601024) (hsl : slots + 6 ≤ 7293034)
    (kk : ∀ (H' : Heap) (locs' : List Loc) (ls' : Array Slot) (Z' T0' T1' T2' T3' T4' T5' T' O' X' M' : Nat → Nat → Int32) (w' : Int64) (J' : Nat → Int64) (JD' : Nat → UInt64), zInv Z' T0' T1' T2' T3' T4' T5' T' X' M' → va_P D vwCl (zF (zWd g f h u o x t0 t1 t2 t3 t4 t5 uM y yd Z' T0' T1' T2' T3' T4' T5' T' O' X' M' w' J' JD')) H' → va_D (fun q : Nat => s.heap.size ≤ q) (zF (zWd g f h u o x t0 t1 t2 t3 t4 t5 uM y yd Z' T0' T1' T2' T3' T4' T5' T' O' X' M' w' J' JD')) → va_S (fun q : Nat => s.heap.size ≤ q) s.heap H' locs' → lv_has ls' 9 [(0, .ref b), (1, .ref (f 0)), (2, .ref (uM 0)), (3, .ref (y 0)), (4, .ref (yd 0)), (5, .int (nI i))] → W p l e room_1 s m #[Value.ref b] below meth c H' locs' (cells + 1) (slots + 6) Q (F0 m 1797 ls' [])) : W p l e room_1 s m #[Value.ref b] below meth c H locs cells slots Q (F0 m 868 ls []) := by
  have hbA : ¬ (fun q : Nat => s.heap.size ≤ q) b := Nat.not_le.mpr hbl
  obtain ⟨e1, V1⟩ := em_clear V
  refine W.widen (k := cells + 1) (n := slots + 6) (Nat.le_succ _) (Nat.le_add_right _ _) ?_
  refine lv_aload_n hx hb dL_law_868 rfl (lv_at hl 1 rfl) ?_
  refine zcVw (ci := 4) (n := 0) (c_X4_clearBuffer l D g f h u o x X) hx hb hml hown hts gL_law_X4_clearBuffer rfl ⟨rfl, by decide, by decide, by decide⟩ ⟨Nat.le_of_ble_eq_true rfl, Nat.le_of_ble_eq_true rfl⟩ ⟨rfl, rfl⟩ hK (zsubB (cs := [zB_X4 f h u o x, zB_X0 (g 0) x X]) hP [0, 10] rfl (zF2 _ _)) (zDsubB (cs := [zB_X4 f h u o x, zB_X0 (g 0) x X]) hD [0, 10] (by decide) rfl (zF2 _ _)) rfl rfl rfl hS hl.1 rfl rfl (Nat.le_of_ble_eq_true rfl) ⟨hc, hsl⟩ dL_law_869 (fun H1 locs1 hP1 hk1 hS => ?_)
  obtain ⟨hP, hD⟩ := zjoinB (cs := [zB_X4 f h u o x, zB_X0 (g 0) x X]) (cs' := [zB_X4 f h u o x, zB_X0 (g 0) x ((v_X4_clearBuffer X).2)]) hP hD [0, 10] (by decide) rfl rfl (zF2 _ _) (zF2 _ _) hk1 hP1
  clear hP1 hk1
  have hP : va_P D vwCl (zF (zWd g f h u o x t0 t1 t2 t3 t4 t5 uM y yd Z T0 T1 T2 T3 T4 T5 T O ((v_X4_clearBuffer X).2) M w J JD)) H1 := hP
  have hD : va_D (fun q : Nat => s.heap.size ≤ q) (zF (zWd g f h u o x t0 t1 t2 t3 t4 t5 uM y yd Z T0 T1 T2 T3 T4 T5 T O ((v_X4_clearBuffer X).2) M w J JD)) := hD
  refine lv_aload_n hx hb dL_law_872 rfl (lv_at hl 2 rfl) ?_
  refine zcVw (ci := 5) (n := 0) (c_X5_clearBuffer l D g uM M w) hx hb hml hown hts gL_law_X5_clearBuffer rfl ⟨rfl, by decide, by decide, by decide⟩ ⟨Nat.le_of_ble_eq_true rfl, Nat.le_of_ble_eq_true rfl⟩ ⟨rfl, rfl⟩ hK (zsubB (cs := [zB_X5 (g 0) uM M w]) hP [11] rfl (zF1 _)) (zDsubB (cs := [zB_X5 (g 0) uM M w]) hD [11] (by decide) rfl (zF1 _)) rfl rfl rfl hS hl.1 rfl rfl (Nat.le_of_ble_eq_true rfl) ⟨hc, hsl⟩ dL_law_873 (fun H2 locs2 hP2 hk2 hS => ?_)
  obtain ⟨hP, hD⟩ := zjoinB (cs := [zB_X5 (g 0) uM M w]) (cs' := [zB_X5 (g 0) uM ((v_X5_clearBuffer M).2) w]) hP hD [11] (by decide) rfl rfl (zF1 _) (zF1 _) hk2 hP2
  clear hP2 hk2
  have hP : va_P D vwCl (zF (zWd g f h u o x t0 t1 t2 t3 t4 t5 uM y yd Z T0 T1 T2 T3 T4 T5 T O ((v_X4_clearBuffer X).2) ((v_X5_clearBuffer M).2) w J JD)) H2 := hP
  have hD : va_D (fun q : Nat => s.heap.size ≤ q) (zF (zWd g f h u o x t0 t1 t2 t3 t4 t5 uM y yd Z T0 T1 T2 T3 T4 T5 T O ((v_X4_clearBuffer X).2) ((v_X5_clearBuffer M).2) w J JD)) := hD
  refine lv_icmp_eq (tgt := 1797) hx hb dL_law_876 (by decide) (fun _ => kk H2 locs2 ls Z T0 T1 T2 T3 T4 T5 T O ((v_X4_clearBuffer X).2) ((v_X5_clearBuffer M).2) w J JD V1 hP hD hS hl) (fun c9 => absurd e1 c9)
theorem lk_firstError {p : Program} {l : Launch} {e : Env} {s : State} {m : MethodId} {below : List Frame} {meth : Method} {c : Code} {b L : Nat} {xs : Nat → Int32} {D : va_G} {g : Nat → ClassId} {f h u o x t0 t1 t2 t3 t4 t5 uM y yd : Nat → Nat} {Q : State → Prop} {H : Heap} {locs : List Loc} {cells slots i : Nat} {ls : Array Slot} {Z T0 T1 T2 T3 T4 T5 T O X M : Nat → Nat → Int32} {w : Int64} {J : Nat → Int64} {JD : Nat → UInt64} (hx : p.tables.exec = Jvm.exec) (hb : c.code = cL_law) (hml : c.maxLocals = 9) (hown : s.vm.findClass RL = some m.cls) (hts : ∀ w ∈ wsL_law, w.before #[Value.ref b] s = true) (hX : va_X b L xs s s.heap) (hbl : b < s.heap.size) (hK : zK D (zT g) s) (hE : zE s.heap.size s) (hst : l.stackTraces = false)
    (V : zInv Z T0 T1 T2 T3 T4 T5 T X M) (hP : va_P D vwCl (zF (zWd g f h u o x t0 t1 t2 t3 t4 t5 uM y yd Z T0 T1 T2 T3 T4 T5 T O X M w J JD)) H) (hD : va_D (fun q : Nat => s.heap.size ≤ q) (zF (zWd g f h u o x t0 t1 t2 t3 t4 t5 uM y yd Z T0 T1 T2 T3 T4 T5 T O X M w J JD))) (hS : va_S (fun q : Nat => s.heap.size ≤ q) s.heap H locs) (hl : lv_has ls 9 [(0, .ref b), (1, .ref (f 0)), (2, .ref (uM 0)), (3, .ref (y 0)), (4, .ref (yd 0)), (5, .int (nI i))]) (hi : i + 4 ≤ L) (hL : L ≤ 2048) (hc : cells + 1 ≤ 601024) (hsl : slots + 6 ≤ 7293034)
    (kk : ∀ (H' : Heap) (locs' : List Loc) (ls' : Array Slot) (Z' T0' T1' T2' T3' T4' T5' T' O' X' M' : Nat → Nat → Int32) (w' : Int64) (J' : Nat → Int64) (JD' : Nat → UInt64), zInv Z' T0' T1' T2' T3' T4' T5' T' X' M' → va_P D vwCl (zF (zWd g f h u o x t0 t1 t2 t3 t4 t5 uM y yd Z' T0' T1' T2' T3' T4' T5' T' O' X' M' w' J' JD')) H' → va_D (fun q : Nat => s.heap.size ≤ q) (zF (zWd g f h u o x t0 t1 t2 t3 t4 t5 uM y yd Z' T0' T1' T2' T3' T4' T5' T' O' X' M' w' J' JD')) → va_S (fun q : Nat => s.heap.size ≤ q) s.heap H' locs' → lv_has ls' 9 [(0, .ref b), (1, .ref (f 0)), (2, .ref (uM 0)), (3, .ref (y 0)), (4, .ref (yd 0)), (5, .int (nI i))] → W p l e room_1 s m #[Value.ref b] below meth c H' locs' (cells + 1) (slots + 6) Q (F0 m 1797 ls' [])) : W p l e room_1 s m #[Value.ref b] below meth c H locs cells slots Q (F0 m 881 ls []) := by
  have hbA : ¬ (fun q : Nat => s.heap.size ≤ q) b := Nat.not_le.mpr hbl
  obtain ⟨e1, V1⟩ := em_first V
  refine W.widen (k := cells + 1) (n := slots + 6) (Nat.le_succ _) (Nat.le_add_right _ _) ?_
  refine lv_aload_n hx hb dL_law_881 rfl (lv_at hl 1 rfl) ?_
  refine zcVw (ci := 4) (n := 0) (c_X4_firstError l D g f h u o x X) hx hb hml hown hts gL_law_X4_firstError rfl ⟨rfl, by decide, by decide, by decide⟩ ⟨Nat.le_of_ble_eq_true rfl, Nat.le_of_ble_eq_true rfl⟩ ⟨rfl, rfl⟩ hK (zsubB (cs := [zB_X4 f h u o x, zB_X0 (g 0) x X]) hP [0, 10] rfl (zF2 _ _)) (zDsubB (cs := [zB_X4 f h u o x, zB_X0 (g 0) x X]) hD [0, 10] (by decide) rfl (zF2 _ _)) rfl rfl rfl hS hl.1 rfl rfl (Nat.le_of_ble_eq_true rfl) ⟨hc, hsl⟩ dL_law_882 (fun H1 locs1 hP1 hk1 hS => ?_)
  obtain ⟨hP, hD⟩ := zjoinB (cs := [zB_X4 f h u o x, zB_X0 (g 0) x X]) (cs' := [zB_X4 f h u o x, zB_X0 (g 0) x ((v_X4_firstError X).2)]) hP hD [0, 10] (by decide) rfl rfl (zF2 _ _) (zF2 _ _) hk1 hP1
  clear hP1 hk1
  have hP : va_P D vwCl (zF (zWd g f h u o x t0 t1 t2 t3 t4 t5 uM y yd Z T0 T1 T2 T3 T4 T5 T O ((v_X4_firstError X).2) M w J JD)) H1 := hP
  have hD : va_D (fun q : Nat => s.heap.size ≤ q) (zF (zWd g f h u o x t0 t1 t2 t3 t4 t5 uM y yd Z T0 T1 T2 T3 T4 T5 T O ((v_X4_firstError X).2) M w J JD)) := hD
  refine lv_aload_n hx hb dL_law_885 rfl (lv_at hl 2 rfl) ?_
  refine zcVw (ci := 5) (n := 0) (c_X5_firstError l D g uM M w V.tx.1) hx hb hml hown hts gL_law_X5_firstError rfl ⟨rfl, by decide, by decide, by decide⟩ ⟨Nat.le_of_ble_eq_true rfl, Nat.le_of_ble_eq_true rfl⟩ ⟨rfl, rfl⟩ hK (zsubB (cs := [zB_X5 (g 0) uM M w]) hP [11] rfl (zF1 _)) (zDsubB (cs := [zB_X5 (g 0) uM M w]) hD [11] (by decide) rfl (zF1 _)) rfl rfl rfl hS hl.1 rfl rfl (Nat.le_of_ble_eq_true rfl) ⟨hc, hsl⟩ dL_law_886 (fun H2 locs2 hP2 hk2 hS => ?_)
  obtain ⟨hP, hD⟩ := zjoinB (cs := [zB_X5 (g 0) uM M w]) (cs' := [zB_X5 (g 0) uM ((v_X5_firstError M).2) w]) hP hD [11] (by decide) rfl rfl (zF1 _) (zF1 _) hk2 hP2
  clear hP2 hk2
  have hP : va_P D vwCl (zF (zWd g f h u o x t0 t1 t2 t3 t4 t5 uM y yd Z T0 T1 T2 T3 T4 T5 T O ((v_X4_firstError X).2) ((v_X5_firstError M).2) w J JD)) H2 := hP
  have hD : va_D (fun q : Nat => s.heap.size ≤ q) (zF (zWd g f h u o x t0 t1 t2 t3 t4 t5 uM y yd Z T0 T1 T2 T3 T4 T5 T O ((v_X4_firstError X).2) ((v_X5_firstError M).2) w J JD)) := hD
  refine lv_icmp_eq (tgt := 1797) hx hb dL_law_889 (by decide) (fun _ => kk H2 locs2 ls Z T0 T1 T2 T3 T4 T5 T O ((v_X4_firstError X).2) ((v_X5_firstError M).2) w J JD V1 hP hD hS hl) (fun c9 => absurd e1 c9)
theorem lk_run {p : Program} {l : Launch} {e : Env} {s : State} {m : MethodId} {below : List Frame} {meth : Method} {c : Code} {b L : Nat} {xs : Nat → Int32} {D : va_G} {g : Nat → ClassId} {f h u o x t0 t1 t2 t3 t4 t5 uM y yd : Nat → Nat} {Q : State → Prop} {H : Heap} {locs : List Loc} {cells slots i : Nat} {ls : Array Slot} {Z T0 T1 T2 T3 T4 T5 T O X M : Nat → Nat → Int32} {w : Int64} {J : Nat → Int64} {JD : Nat → UInt64} (hx : p.tables.exec = Jvm.exec) (hb : c.code = cL_law) (hml : c.maxLocals = 9) (hown : s.vm.findClass RL = some m.cls) (hts : ∀ w ∈ wsL_law, w.before #[Value.ref b] s = true) (hX : va_X b L xs s s.heap) (hbl : b < s.heap.size) (hK : zK D (zT g) s) (hE : zE s.heap.size s) (hst : l.stackTraces = false)
    (V : zInv Z T0 T1 T2 T3 T4 T5 T X M) (hP : va_P D vwCl (zF (zWd g f h u o x t0 t1 t2 t3 t4 t5 uM y yd Z T0 T1 T2 T3 T4 T5 T O X M w J JD)) H) (hD : va_D (fun q : Nat => s.heap.size ≤ q) (zF (zWd g f h u o x t0 t1 t2 t3 t4 t5 uM y yd Z T0 T1 T2 T3 T4 T5 T O X M w J JD))) (hS : va_S (fun q : Nat => s.heap.size ≤ q) s.heap H locs) (hl : lv_has ls 9 [(0, .ref b), (1, .ref (f 0)), (2, .ref (uM 0)), (3, .ref (y 0)), (4, .ref (yd 0)), (5, .int (nI i))]) (hi : i + 4 ≤ L) (hL : L ≤ 2048) (hc : cells + 1 ≤ 601024) (hsl : slots + 6 ≤ 7293034)
    (kk : ∀ (H' : Heap) (locs' : List Loc) (ls' : Array Slot) (Z' T0' T1' T2' T3' T4' T5' T' O' X' M' : Nat → Nat → Int32) (w' : Int64) (J' : Nat → Int64) (JD' : Nat → UInt64), zInv Z' T0' T1' T2' T3' T4' T5' T' X' M' → va_P D vwCl (zF (zWd g f h u o x t0 t1 t2 t3 t4 t5 uM y yd Z' T0' T1' T2' T3' T4' T5' T' O' X' M' w' J' JD')) H' → va_D (fun q : Nat => s.heap.size ≤ q) (zF (zWd g f h u o x t0 t1 t2 t3 t4 t5 uM y yd Z' T0' T1' T2' T3' T4' T5' T' O' X' M' w' J' JD')) → va_S (fun q : Nat => s.heap.size ≤ q) s.heap H' locs' → lv_has ls' 9 [(0, .ref b), (1, .ref (f 0)), (2, .ref (uM 0)), (3, .ref (y 0)), (4, .ref (yd 0)), (5, .int (nI i))] → W p l e room_1 s m #[Value.ref b] below meth c H' locs' (cells + 1) (slots + 6) Q (F0 m 1797 ls' [])) : W p l e room_1 s m #[Value.ref b] below meth c H locs cells slots Q (F0 m 894 ls []) := by
  have hbA : ¬ (fun q : Nat => s.heap.size ≤ q) b := Nat.not_le.mpr hbl
  obtain ⟨k9, Z9, T09, T19, T29, T39, T49, T59, T9, X9, J9, hM, h5, hJ, V1⟩ := Lr_run l D g s.heap.size f h u o x t0 t1 t2 t3 t4 t5 y Z T0 T1 T2 T3 T4 T5 T X J M hst V
  refine lv_aload_n hx hb dL_law_894 rfl (lv_at hl 1 rfl) ?_
  refine lv_aload_n hx hb dL_law_895 rfl (lv_at hl 3 rfl) ?_
  refine zcLS (n := 2) hM hx hb hml hown hts gL_law_L_run rfl ⟨by decide, by decide, by decide⟩ ⟨Nat.le_of_ble_eq_true rfl, Nat.le_of_ble_eq_true rfl⟩ ⟨rfl, rfl⟩ hK (zsubB (cs := [zB_X4 f h u o x, zB_X1 (g 1) u t0 t1 t2 t3 t4 t5 Z, zB_X3 (g 0) t0 T0, zB_X3 (g 0) t1 T1, zB_X3 (g 0) t2 T2, zB_X3 (g 0) t3 T3, zB_X3 (g 0) t4 T4, zB_X3 (g 0) t5 T5, zB_X3 (g 0) h T, zB_X0 (g 0) x X, zB_XJ (g 2) y J]) hP [0, 1, 2, 3, 4, 5, 6, 7, 8, 10, 12] rfl rfl) (zDsubB (cs := [zB_X4 f h u o x, zB_X1 (g 1) u t0 t1 t2 t3 t4 t5 Z, zB_X3 (g 0) t0 T0, zB_X3 (g 0) t1 T1, zB_X3 (g 0) t2 T2, zB_X3 (g 0) t3 T3, zB_X3 (g 0) t4 T4, zB_X3 (g 0) t5 T5, zB_X3 (g 0) h T, zB_X0 (g 0) x X, zB_XJ (g 2) y J]) hD [0, 1, 2, 3, 4, 5, 6, 7, 8, 10, 12] (by decide) rfl rfl) (zDsubB (cs := [zB_X4 f h u o x, zB_X1 (g 1) u t0 t1 t2 t3 t4 t5 Z, zB_X3 (g 0) t0 T0, zB_X3 (g 0) t1 T1, zB_X3 (g 0) t2 T2, zB_X3 (g 0) t3 T3, zB_X3 (g 0) t4 T4, zB_X3 (g 0) t5 T5, zB_X3 (g 0) h T, zB_X0 (g 0) x X, zB_XJ (g 2) y J]) hD [0, 1, 2, 3, 4, 5, 6, 7, 8, 10, 12] (by decide) rfl rfl) hE (fun q hq => hS.2.1 q hq (Nat.not_le.mpr hq)) hS hl.1 rfl rfl (Nat.le_of_ble_eq_true rfl) ⟨hc, hsl⟩ dL_law_896 (fun H1 locs1 hP1 hk1 hS => ?_)
  obtain ⟨hP, hD⟩ := zjoinB (cs := [zB_X4 f h u o x, zB_X1 (g 1) u t0 t1 t2 t3 t4 t5 Z, zB_X3 (g 0) t0 T0, zB_X3 (g 0) t1 T1, zB_X3 (g 0) t2 T2, zB_X3 (g 0) t3 T3, zB_X3 (g 0) t4 T4, zB_X3 (g 0) t5 T5, zB_X3 (g 0) h T, zB_X0 (g 0) x X, zB_XJ (g 2) y J]) (cs' := [zB_X4 f h u o x, zB_X1 (g 1) u t0 t1 t2 t3 t4 t5 Z9, zB_X3 (g 0) t0 T09, zB_X3 (g 0) t1 T19, zB_X3 (g 0) t2 T29, zB_X3 (g 0) t3 T39, zB_X3 (g 0) t4 T49, zB_X3 (g 0) t5 T59, zB_X3 (g 0) h T9, zB_X0 (g 0) x X9, zB_XJ (g 2) y J9]) hP hD [0, 1, 2, 3, 4, 5, 6, 7, 8, 10, 12] (by decide) rfl rfl rfl rfl hk1 hP1
  clear hP1 hk1
  have hP : va_P D vwCl (zF (zWd g f h u o x t0 t1 t2 t3 t4 t5 uM y yd Z9 T09 T19 T29 T39 T49 T59 T9 O X9 M w J9 JD)) H1 := hP
  have hD : va_D (fun q : Nat => s.heap.size ≤ q) (zF (zWd g f h u o x t0 t1 t2 t3 t4 t5 uM y yd Z9 T09 T19 T29 T39 T49 T59 T9 O X9 M w J9 JD)) := hD
  refine lv_istore (lv' := [(6, .int k9), (0, .ref b), (1, .ref (f 0)), (2, .ref (uM 0)), (3, .ref (y 0)), (4, .ref (yd 0)), (5, .int (nI i))]) hx hb dL_law_899 hl (by decide) rfl (fun ls hl => ?_)
  refine lv_aload_n hx hb dL_law_901 rfl (lv_at hl 3 rfl) ?_
  refine zcVw (ci := 5) (n := 0) (c_X5_run l D g uM M w V.ro V.hi.1 V.tx.1) hx hb hml hown hts gL_law_X5_run rfl ⟨rfl, by decide, by decide, by decide⟩ ⟨Nat.le_of_ble_eq_true rfl, Nat.le_of_ble_eq_true rfl⟩ ⟨rfl, rfl⟩ hK (zsubB (cs := [zB_X5 (g 0) uM M w]) hP [11] rfl (zF1 _)) (zDsubB (cs := [zB_X5 (g 0) uM M w]) hD [11] (by decide) rfl (zF1 _)) rfl rfl rfl hS hl.1 rfl rfl (Nat.le_of_ble_eq_true rfl) ⟨hc, hsl⟩ dL_law_902 (fun H2 locs2 hP2 hk2 hS => ?_)
  obtain ⟨hP, hD⟩ := zjoinB (cs := [zB_X5 (g 0) uM M w]) (cs' := [zB_X5 (g 0) uM (v_X5_run M).2 w]) hP hD [11] (by decide) rfl rfl (zF1 _) (zF1 _) hk2 hP2
  clear hP2 hk2
  have hP : va_P D vwCl (zF (zWd g f h u o x t0 t1 t2 t3 t4 t5 uM y yd Z9 T09 T19 T29 T39 T49 T59 T9 O X9 ((v_X5_run M).2) w J9 JD)) H2 := hP
  have hD : va_D (fun q : Nat => s.heap.size ≤ q) (zF (zWd g f h u o x t0 t1 t2 t3 t4 t5 uM y yd Z9 T09 T19 T29 T39 T49 T59 T9 O X9 ((v_X5_run M).2) w J9 JD)) := hD
  refine lv_istore (lv' := [(7, .int (v_X5_run M).1), (6, .int k9), (0, .ref b), (1, .ref (f 0)), (2, .ref (uM 0)), (3, .ref (y 0)), (4, .ref (yd 0)), (5, .int (nI i))]) hx hb dL_law_905 hl (by decide) rfl (fun ls hl => ?_)
  refine lv_aload_n hx hb dL_law_907 rfl (lv_at hl 4 rfl) ?_
  refine zcV (ci := 5) (n := 0) (c_X5_thrown l D g uM (v_X5_run M).2 w) hx hb hml hown hts gL_law_X5_thrown rfl ⟨rfl, by decide, by decide, by decide⟩ ⟨Nat.le_of_ble_eq_true rfl, Nat.le_of_ble_eq_true rfl⟩ ⟨rfl, rfl⟩ hK (zsubB (cs := [zB_X5 (g 0) uM (v_X5_run M).2 w]) hP [11] rfl (zF1 _)) rfl rfl rfl hl.1 rfl rfl (Nat.le_of_ble_eq_true rfl) ⟨hc, hsl⟩ dL_law_908 ?_
  refine lv_iload hx hb dL_law_911 (lv_at hl 1 rfl) ?_
  refine lv_icmp_eq (tgt := 918) hx hb dL_law_913 (by decide) (fun _ => ?_) (fun c9 => absurd h5.symm c9)
  refine lv_iload hx hb dL_law_918 (lv_at hl 1 rfl) ?_
  have fin : W p l e room_1 s m #[Value.ref b] below meth c H2 locs2 (cells + 1) (slots + 6) Q (F0 m 935 ls []) := by
    refine lv_goto (tgt := 1797) hx hb dL_law_935 (by decide) ?_
    exact kk H2 locs2 ls Z9 T09 T19 T29 T39 T49 T59 T9 O X9 ((v_X5_run M).2) w J9 JD V1 hP hD hS (lvb2 hl)
  refine lv_if_ne (tgt := 935) hx hb dL_law_920 (by decide) (fun _ => fin) (fun k0 => ?_)
  refine lv_aload_n hx hb dL_law_923 rfl (lv_at hl 5 rfl) ?_
  refine lv_iconst (v := 0) hx hb dL_law_924 (by decide) ?_
  refine va_lald hx hb hK.1 hP 93 2 rfl rfl (vp_in_nI (n := 0) (N := 1) (by decide) (by decide)) dL_law_925 ?_
  refine lv_iload hx hb dL_law_926 (lv_at hl 0 rfl) ?_
  refine lv_i2l hx hb dL_law_928 rfl ?_
  refine W.lcmp hx hb dL_law_929 ?_
  refine lv_if_eq (tgt := 935) hx hb dL_law_930 (by decide) (fun _ => fin) (fun c9 => absurd ?_ c9)
  exact zlg0 (hJ k0)
theorem lk_undo {p : Program} {l : Launch} {e : Env} {s : State} {m : MethodId} {below : List Frame} {meth : Method} {c : Code} {b L : Nat} {xs : Nat → Int32} {D : va_G} {g : Nat → ClassId} {f h u o x t0 t1 t2 t3 t4 t5 uM y yd : Nat → Nat} {Q : State → Prop} {H : Heap} {locs : List Loc} {cells slots i : Nat} {ls : Array Slot} {Z T0 T1 T2 T3 T4 T5 T O X M : Nat → Nat → Int32} {w : Int64} {J : Nat → Int64} {JD : Nat → UInt64} (hx : p.tables.exec = Jvm.exec) (hb : c.code = cL_law) (hml : c.maxLocals = 9) (hown : s.vm.findClass RL = some m.cls) (hts : ∀ w ∈ wsL_law, w.before #[Value.ref b] s = true) (hX : va_X b L xs s s.heap) (hbl : b < s.heap.size) (hK : zK D (zT g) s) (hE : zE s.heap.size s) (hst : l.stackTraces = false)
    (V : zInv Z T0 T1 T2 T3 T4 T5 T X M) (hP : va_P D vwCl (zF (zWd g f h u o x t0 t1 t2 t3 t4 t5 uM y yd Z T0 T1 T2 T3 T4 T5 T O X M w J JD)) H) (hD : va_D (fun q : Nat => s.heap.size ≤ q) (zF (zWd g f h u o x t0 t1 t2 t3 t4 t5 uM y yd Z T0 T1 T2 T3 T4 T5 T O X M w J JD))) (hS : va_S (fun q : Nat => s.heap.size ≤ q) s.heap H locs) (hl : lv_has ls 9 [(0, .ref b), (1, .ref (f 0)), (2, .ref (uM 0)), (3, .ref (y 0)), (4, .ref (yd 0)), (5, .int (nI i))]) (hi : i + 4 ≤ L) (hL : L ≤ 2048) (hc : cells + 1 ≤ 601024) (hsl : slots + 6 ≤ 7293034)
    (kk : ∀ (H' : Heap) (locs' : List Loc) (ls' : Array Slot) (Z' T0' T1' T2' T3' T4' T5' T' O' X' M' : Nat → Nat → Int32) (w' : Int64) (J' : Nat → Int64) (JD' : Nat → UInt64), zInv Z' T0' T1' T2' T3' T4' T5' T' X' M' → va_P D vwCl (zF (zWd g f h u o x t0 t1 t2 t3 t4 t5 uM y yd Z' T0' T1' T2' T3' T4' T5' T' O' X' M' w' J' JD')) H' → va_D (fun q : Nat => s.heap.size ≤ q) (zF (zWd g f h u o x t0 t1 t2 t3 t4 t5 uM y yd Z' T0' T1' T2' T3' T4' T5' T' O' X' M' w' J' JD')) → va_S (fun q : Nat => s.heap.size ≤ q) s.heap H' locs' → lv_has ls' 9 [(0, .ref b), (1, .ref (f 0)), (2, .ref (uM 0)), (3, .ref (y 0)), (4, .ref (yd 0)), (5, .int (nI i))] → W p l e room_1 s m #[Value.ref b] below meth c H' locs' (cells + 1) (slots + 6) Q (F0 m 1797 ls' [])) : W p l e room_1 s m #[Value.ref b] below meth c H locs cells slots Q (F0 m 938 ls []) := by
  have hbA : ¬ (fun q : Nat => s.heap.size ≤ q) b := Nat.not_le.mpr hbl
  obtain ⟨k9, Z9, T9, J9, hM, h5, hJ, V1⟩ := Lr_undo l D g s.heap.size f h u o x t0 t1 t2 t3 t4 t5 y Z T0 T1 T2 T3 T4 T5 T J X M hst V
  refine lv_aload_n hx hb dL_law_938 rfl (lv_at hl 1 rfl) ?_
  refine lv_aload_n hx hb dL_law_939 rfl (lv_at hl 3 rfl) ?_
  refine zcLS (n := 2) hM hx hb hml hown hts gL_law_L_undo rfl ⟨by decide, by decide, by decide⟩ ⟨Nat.le_of_ble_eq_true rfl, Nat.le_of_ble_eq_true rfl⟩ ⟨rfl, rfl⟩ hK (zsubB (cs := [zB_X4 f h u o x, zB_X1 (g 1) u t0 t1 t2 t3 t4 t5 Z, zB_X3 (g 0) t0 T0, zB_X3 (g 0) t1 T1, zB_X3 (g 0) t2 T2, zB_X3 (g 0) t3 T3, zB_X3 (g 0) t4 T4, zB_X3 (g 0) t5 T5, zB_X3 (g 0) h T, zB_XJ (g 2) y J]) hP [0, 1, 2, 3, 4, 5, 6, 7, 8, 12] rfl rfl) (zDsubB (cs := [zB_X4 f h u o x, zB_X1 (g 1) u t0 t1 t2 t3 t4 t5 Z, zB_X3 (g 0) t0 T0, zB_X3 (g 0) t1 T1, zB_X3 (g 0) t2 T2, zB_X3 (g 0) t3 T3, zB_X3 (g 0) t4 T4, zB_X3 (g 0) t5 T5, zB_X3 (g 0) h T, zB_XJ (g 2) y J]) hD [0, 1, 2, 3, 4, 5, 6, 7, 8, 12] (by decide) rfl rfl) (zDsubB (cs := [zB_X4 f h u o x, zB_X1 (g 1) u t0 t1 t2 t3 t4 t5 Z, zB_X3 (g 0) t0 T0, zB_X3 (g 0) t1 T1, zB_X3 (g 0) t2 T2, zB_X3 (g 0) t3 T3, zB_X3 (g 0) t4 T4, zB_X3 (g 0) t5 T5, zB_X3 (g 0) h T, zB_XJ (g 2) y J]) hD [0, 1, 2, 3, 4, 5, 6, 7, 8, 12] (by decide) rfl rfl) hE (fun q hq => hS.2.1 q hq (Nat.not_le.mpr hq)) hS hl.1 rfl rfl (Nat.le_of_ble_eq_true rfl) ⟨hc, hsl⟩ dL_law_940 (fun H1 locs1 hP1 hk1 hS => ?_)
  obtain ⟨hP, hD⟩ := zjoinB (cs := [zB_X4 f h u o x, zB_X1 (g 1) u t0 t1 t2 t3 t4 t5 Z, zB_X3 (g 0) t0 T0, zB_X3 (g 0) t1 T1, zB_X3 (g 0) t2 T2, zB_X3 (g 0) t3 T3, zB_X3 (g 0) t4 T4, zB_X3 (g 0) t5 T5, zB_X3 (g 0) h T, zB_XJ (g 2) y J]) (cs' := [zB_X4 f h u o x, zB_X1 (g 1) u t0 t1 t2 t3 t4 t5 Z9, zB_X3 (g 0) t0 T0, zB_X3 (g 0) t1 T1, zB_X3 (g 0) t2 T2, zB_X3 (g 0) t3 T3, zB_X3 (g 0) t4 T4, zB_X3 (g 0) t5 T5, zB_X3 (g 0) h T9, zB_XJ (g 2) y J9]) hP hD [0, 1, 2, 3, 4, 5, 6, 7, 8, 12] (by decide) rfl rfl rfl rfl hk1 hP1
  clear hP1 hk1
  have hP : va_P D vwCl (zF (zWd g f h u o x t0 t1 t2 t3 t4 t5 uM y yd Z9 T0 T1 T2 T3 T4 T5 T9 O X M w J9 JD)) H1 := hP
  have hD : va_D (fun q : Nat => s.heap.size ≤ q) (zF (zWd g f h u o x t0 t1 t2 t3 t4 t5 uM y yd Z9 T0 T1 T2 T3 T4 T5 T9 O X M w J9 JD)) := hD
  refine lv_istore (lv' := [(6, .int k9), (0, .ref b), (1, .ref (f 0)), (2, .ref (uM 0)), (3, .ref (y 0)), (4, .ref (yd 0)), (5, .int (nI i))]) hx hb dL_law_943 hl (by decide) rfl (fun ls hl => ?_)
  refine lv_aload_n hx hb dL_law_945 rfl (lv_at hl 3 rfl) ?_
  refine zcVw (ci := 5) (n := 0) (c_X5_undo l D g uM M w V.hi.1) hx hb hml hown hts gL_law_X5_undo rfl ⟨rfl, by decide, by decide, by decide⟩ ⟨Nat.le_of_ble_eq_true rfl, Nat.le_of_ble_eq_true rfl⟩ ⟨rfl, rfl⟩ hK (zsubB (cs := [zB_X5 (g 0) uM M w]) hP [11] rfl (zF1 _)) (zDsubB (cs := [zB_X5 (g 0) uM M w]) hD [11] (by decide) rfl (zF1 _)) rfl rfl rfl hS hl.1 rfl rfl (Nat.le_of_ble_eq_true rfl) ⟨hc, hsl⟩ dL_law_946 (fun H2 locs2 hP2 hk2 hS => ?_)
  obtain ⟨hP, hD⟩ := zjoinB (cs := [zB_X5 (g 0) uM M w]) (cs' := [zB_X5 (g 0) uM (v_X5_undo M).2 w]) hP hD [11] (by decide) rfl rfl (zF1 _) (zF1 _) hk2 hP2
  clear hP2 hk2
  have hP : va_P D vwCl (zF (zWd g f h u o x t0 t1 t2 t3 t4 t5 uM y yd Z9 T0 T1 T2 T3 T4 T5 T9 O X ((v_X5_undo M).2) w J9 JD)) H2 := hP
  have hD : va_D (fun q : Nat => s.heap.size ≤ q) (zF (zWd g f h u o x t0 t1 t2 t3 t4 t5 uM y yd Z9 T0 T1 T2 T3 T4 T5 T9 O X ((v_X5_undo M).2) w J9 JD)) := hD
  refine lv_istore (lv' := [(7, .int (v_X5_undo M).1), (6, .int k9), (0, .ref b), (1, .ref (f 0)), (2, .ref (uM 0)), (3, .ref (y 0)), (4, .ref (yd 0)), (5, .int (nI i))]) hx hb dL_law_949 hl (by decide) rfl (fun ls hl => ?_)
  refine lv_aload_n hx hb dL_law_951 rfl (lv_at hl 4 rfl) ?_
  refine zcV (ci := 5) (n := 0) (c_X5_thrown l D g uM (v_X5_undo M).2 w) hx hb hml hown hts gL_law_X5_thrown rfl ⟨rfl, by decide, by decide, by decide⟩ ⟨Nat.le_of_ble_eq_true rfl, Nat.le_of_ble_eq_true rfl⟩ ⟨rfl, rfl⟩ hK (zsubB (cs := [zB_X5 (g 0) uM (v_X5_undo M).2 w]) hP [11] rfl (zF1 _)) rfl rfl rfl hl.1 rfl rfl (Nat.le_of_ble_eq_true rfl) ⟨hc, hsl⟩ dL_law_952 ?_
  refine lv_iload hx hb dL_law_955 (lv_at hl 1 rfl) ?_
  refine lv_icmp_eq (tgt := 962) hx hb dL_law_957 (by decide) (fun _ => ?_) (fun c9 => absurd h5.symm c9)
  refine lv_iload hx hb dL_law_962 (lv_at hl 1 rfl) ?_
  have fin : W p l e room_1 s m #[Value.ref b] below meth c H2 locs2 (cells + 1) (slots + 6) Q (F0 m 979 ls []) := by
    refine lv_goto (tgt := 1797) hx hb dL_law_979 (by decide) ?_
    exact kk H2 locs2 ls Z9 T0 T1 T2 T3 T4 T5 T9 O X ((v_X5_undo M).2) w J9 JD V1 hP hD hS (lvb2 hl)
  refine lv_if_ne (tgt := 979) hx hb dL_law_964 (by decide) (fun _ => fin) (fun k0 => ?_)
  refine lv_aload_n hx hb dL_law_967 rfl (lv_at hl 5 rfl) ?_
  refine lv_iconst (v := 0) hx hb dL_law_968 (by decide) ?_
  refine va_lald hx hb hK.1 hP 93 2 rfl rfl (vp_in_nI (n := 0) (N := 1) (by decide) (by decide)) dL_law_969 ?_
  refine lv_iload hx hb dL_law_970 (lv_at hl 0 rfl) ?_
  refine lv_i2l hx hb dL_law_972 rfl ?_
  refine W.lcmp hx hb dL_law_973 ?_
  refine lv_if_eq (tgt := 979) hx hb dL_law_974 (by decide) (fun _ => fin) (fun c9 => absurd ?_ c9)
  exact zlg0 (hJ k0)
theorem lk_eats {p : Program} {l : Launch} {e : Env} {s : State} {m : MethodId} {below : List Frame} {meth : Method} {c : Code} {b L : Nat} {xs : Nat → Int32} {D : va_G} {g : Nat → ClassId} {f h u o x t0 t1 t2 t3 t4 t5 uM y yd : Nat → Nat} {Q : State → Prop} {H : Heap} {locs : List Loc} {cells slots i : Nat} {ls : Array Slot} {Z T0 T1 T2 T3 T4 T5 T O X M : Nat → Nat → Int32} {w : Int64} {J : Nat → Int64} {JD : Nat → UInt64} (hx : p.tables.exec = Jvm.exec) (hb : c.code = cL_law) (hml : c.maxLocals = 9) (hown : s.vm.findClass RL = some m.cls) (hts : ∀ w ∈ wsL_law, w.before #[Value.ref b] s = true) (hX : va_X b L xs s s.heap) (hbl : b < s.heap.size) (hK : zK D (zT g) s) (hE : zE s.heap.size s) (hst : l.stackTraces = false)
    (V : zInv Z T0 T1 T2 T3 T4 T5 T X M) (hP : va_P D vwCl (zF (zWd g f h u o x t0 t1 t2 t3 t4 t5 uM y yd Z T0 T1 T2 T3 T4 T5 T O X M w J JD)) H) (hD : va_D (fun q : Nat => s.heap.size ≤ q) (zF (zWd g f h u o x t0 t1 t2 t3 t4 t5 uM y yd Z T0 T1 T2 T3 T4 T5 T O X M w J JD))) (hS : va_S (fun q : Nat => s.heap.size ≤ q) s.heap H locs) (hl : lv_has ls 9 [(0, .ref b), (1, .ref (f 0)), (2, .ref (uM 0)), (3, .ref (y 0)), (4, .ref (yd 0)), (5, .int (nI i))]) (hi : i + 4 ≤ L) (hL : L ≤ 2048) (hc : cells + 1 ≤ 601024) (hsl : slots + 6 ≤ 7293034)
    (kk : ∀ (H' : Heap) (locs' : List Loc) (ls' : Array Slot) (Z' T0' T1' T2' T3' T4' T5' T' O' X' M' : Nat → Nat → Int32) (w' : Int64) (J' : Nat → Int64) (JD' : Nat → UInt64), zInv Z' T0' T1' T2' T3' T4' T5' T' X' M' → va_P D vwCl (zF (zWd g f h u o x t0 t1 t2 t3 t4 t5 uM y yd Z' T0' T1' T2' T3' T4' T5' T' O' X' M' w' J' JD')) H' → va_D (fun q : Nat => s.heap.size ≤ q) (zF (zWd g f h u o x t0 t1 t2 t3 t4 t5 uM y yd Z' T0' T1' T2' T3' T4' T5' T' O' X' M' w' J' JD')) → va_S (fun q : Nat => s.heap.size ≤ q) s.heap H' locs' → lv_has ls' 9 [(0, .ref b), (1, .ref (f 0)), (2, .ref (uM 0)), (3, .ref (y 0)), (4, .ref (yd 0)), (5, .int (nI i))] → W p l e room_1 s m #[Value.ref b] below meth c H' locs' (cells + 1) (slots + 6) Q (F0 m 1797 ls' [])) : W p l e room_1 s m #[Value.ref b] below meth c H locs cells slots Q (F0 m 982 ls []) := by
  have hbA : ¬ (fun q : Nat => s.heap.size ≤ q) b := Nat.not_le.mpr hbl
  obtain ⟨k9, J9, hM, h5, hJ, V1⟩ := Lr_eats l D g s.heap.size f h u o x y T J (xs (Int32.toNatClampNeg (nI i + 1))) (xs (Int32.toNatClampNeg (nI i + 2))) Z T0 T1 T2 T3 T4 T5 X M hst V
  refine lv_aload_n hx hb dL_law_982 rfl (lv_at hl 1 rfl) ?_
  refine lv_aload_n hx hb dL_law_983 rfl (lv_at hl 0 rfl) ?_
  refine lv_iload hx hb dL_law_984 (lv_at hl 5 rfl) ?_
  refine lv_iconst (v := 1) hx hb dL_law_986 (by decide) ?_
  refine lv_iadd hx hb dL_law_987 ?_
  refine va_sld hx hb hX hbl hbA hS (zlin (k := 1) (by omega) (by omega)) dL_law_988 ?_
  refine lv_aload_n hx hb dL_law_989 rfl (lv_at hl 0 rfl) ?_
  refine lv_iload hx hb dL_law_990 (lv_at hl 5 rfl) ?_
  refine lv_iconst (v := 2) hx hb dL_law_992 (by decide) ?_
  refine lv_iadd hx hb dL_law_993 ?_
  refine va_sld hx hb hX hbl hbA hS (zlin (k := 2) (by omega) (by omega)) dL_law_994 ?_
  refine lv_aload_n hx hb dL_law_995 rfl (lv_at hl 3 rfl) ?_
  refine zcLS (n := 4) hM hx hb hml hown hts gL_law_L_eats rfl ⟨by decide, by decide, by decide⟩ ⟨Nat.le_of_ble_eq_true rfl, Nat.le_of_ble_eq_true rfl⟩ ⟨rfl, rfl⟩ hK (zsubB (cs := [zB_X4 f h u o x, zB_X3 (g 0) h T, zB_XJ (g 2) y J]) hP [0, 8, 12] rfl rfl) (zDsubB (cs := [zB_X4 f h u o x, zB_X3 (g 0) h T, zB_XJ (g 2) y J]) hD [0, 8, 12] (by decide) rfl rfl) (zDsubB (cs := [zB_X4 f h u o x, zB_X3 (g 0) h T, zB_XJ (g 2) y J]) hD [0, 8, 12] (by decide) rfl rfl) hE (fun q hq => hS.2.1 q hq (Nat.not_le.mpr hq)) hS hl.1 rfl rfl (Nat.le_of_ble_eq_true rfl) ⟨hc, hsl⟩ dL_law_996 (fun H1 locs1 hP1 hk1 hS => ?_)
  obtain ⟨hP, hD⟩ := zjoinB (cs := [zB_X4 f h u o x, zB_X3 (g 0) h T, zB_XJ (g 2) y J]) (cs' := [zB_X4 f h u o x, zB_X3 (g 0) h T, zB_XJ (g 2) y J9]) hP hD [0, 8, 12] (by decide) rfl rfl rfl rfl hk1 hP1
  clear hP1 hk1
  have hP : va_P D vwCl (zF (zWd g f h u o x t0 t1 t2 t3 t4 t5 uM y yd Z T0 T1 T2 T3 T4 T5 T O X M w J9 JD)) H1 := hP
  have hD : va_D (fun q : Nat => s.heap.size ≤ q) (zF (zWd g f h u o x t0 t1 t2 t3 t4 t5 uM y yd Z T0 T1 T2 T3 T4 T5 T O X M w J9 JD)) := hD
  refine lv_istore (lv' := [(6, .int k9), (0, .ref b), (1, .ref (f 0)), (2, .ref (uM 0)), (3, .ref (y 0)), (4, .ref (yd 0)), (5, .int (nI i))]) hx hb dL_law_999 hl (by decide) rfl (fun ls hl => ?_)
  refine lv_aload_n hx hb dL_law_1001 rfl (lv_at hl 3 rfl) ?_
  refine lv_aload_n hx hb dL_law_1002 rfl (lv_at hl 1 rfl) ?_
  refine lv_iload hx hb dL_law_1003 (lv_at hl 6 rfl) ?_
  refine lv_iconst (v := 1) hx hb dL_law_1005 (by decide) ?_
  refine lv_iadd hx hb dL_law_1006 ?_
  refine va_sld hx hb hX hbl hbA hS (zlin (k := 1) (by omega) (by omega)) dL_law_1007 ?_
  refine lv_aload_n hx hb dL_law_1008 rfl (lv_at hl 1 rfl) ?_
  refine lv_iload hx hb dL_law_1009 (lv_at hl 6 rfl) ?_
  refine lv_iconst (v := 2) hx hb dL_law_1011 (by decide) ?_
  refine lv_iadd hx hb dL_law_1012 ?_
  refine va_sld hx hb hX hbl hbA hS (zlin (k := 2) (by omega) (by omega)) dL_law_1013 ?_
  refine zcVw (ci := 5) (n := 2) (c_X5_eats l D g uM M w (xs (Int32.toNatClampNeg (nI i + 1))) (xs (Int32.toNatClampNeg (nI i + 2))) V.ro) hx hb hml hown hts gL_law_X5_eats rfl ⟨rfl, by decide, by decide, by decide⟩ ⟨Nat.le_of_ble_eq_true rfl, Nat.le_of_ble_eq_true rfl⟩ ⟨rfl, rfl⟩ hK (zsubB (cs := [zB_X5 (g 0) uM M w]) hP [11] rfl (zF1 _)) (zDsubB (cs := [zB_X5 (g 0) uM M w]) hD [11] (by decide) rfl (zF1 _)) rfl rfl rfl hS hl.1 rfl rfl (Nat.le_of_ble_eq_true rfl) ⟨hc, hsl⟩ dL_law_1014 (fun H2 locs2 hP2 hk2 hS => ?_)
  obtain ⟨hP, hD⟩ := zjoinB (cs := [zB_X5 (g 0) uM M w]) (cs' := [zB_X5 (g 0) uM (v_X5_eats M (xs (Int32.toNatClampNeg (nI i + 1))) (xs (Int32.toNatClampNeg (nI i + 2)))).2 w]) hP hD [11] (by decide) rfl rfl (zF1 _) (zF1 _) hk2 hP2
  clear hP2 hk2
  have hP : va_P D vwCl (zF (zWd g f h u o x t0 t1 t2 t3 t4 t5 uM y yd Z T0 T1 T2 T3 T4 T5 T O X ((v_X5_eats M (xs (Int32.toNatClampNeg (nI i + 1))) (xs (Int32.toNatClampNeg (nI i + 2)))).2) w J9 JD)) H2 := hP
  have hD : va_D (fun q : Nat => s.heap.size ≤ q) (zF (zWd g f h u o x t0 t1 t2 t3 t4 t5 uM y yd Z T0 T1 T2 T3 T4 T5 T O X ((v_X5_eats M (xs (Int32.toNatClampNeg (nI i + 1))) (xs (Int32.toNatClampNeg (nI i + 2)))).2) w J9 JD)) := hD
  refine lv_istore (lv' := [(7, .int (v_X5_eats M (xs (Int32.toNatClampNeg (nI i + 1))) (xs (Int32.toNatClampNeg (nI i + 2)))).1), (6, .int k9), (0, .ref b), (1, .ref (f 0)), (2, .ref (uM 0)), (3, .ref (y 0)), (4, .ref (yd 0)), (5, .int (nI i))]) hx hb dL_law_1017 hl (by decide) rfl (fun ls hl => ?_)
  refine lv_aload_n hx hb dL_law_1019 rfl (lv_at hl 4 rfl) ?_
  refine zcV (ci := 5) (n := 0) (c_X5_thrown l D g uM (v_X5_eats M (xs (Int32.toNatClampNeg (nI i + 1))) (xs (Int32.toNatClampNeg (nI i + 2)))).2 w) hx hb hml hown hts gL_law_X5_thrown rfl ⟨rfl, by decide, by decide, by decide⟩ ⟨Nat.le_of_ble_eq_true rfl, Nat.le_of_ble_eq_true rfl⟩ ⟨rfl, rfl⟩ hK (zsubB (cs := [zB_X5 (g 0) uM (v_X5_eats M (xs (Int32.toNatClampNeg (nI i + 1))) (xs (Int32.toNatClampNeg (nI i + 2)))).2 w]) hP [11] rfl (zF1 _)) rfl rfl rfl hl.1 rfl rfl (Nat.le_of_ble_eq_true rfl) ⟨hc, hsl⟩ dL_law_1020 ?_
  refine lv_iload hx hb dL_law_1023 (lv_at hl 1 rfl) ?_
  refine lv_icmp_eq (tgt := 1030) hx hb dL_law_1025 (by decide) (fun _ => ?_) (fun c9 => absurd h5.symm c9)
  refine lv_iload hx hb dL_law_1030 (lv_at hl 1 rfl) ?_
  have fin : W p l e room_1 s m #[Value.ref b] below meth c H2 locs2 (cells + 1) (slots + 6) Q (F0 m 1047 ls []) := by
    refine lv_goto (tgt := 1797) hx hb dL_law_1047 (by decide) ?_
    exact kk H2 locs2 ls Z T0 T1 T2 T3 T4 T5 T O X ((v_X5_eats M (xs (Int32.toNatClampNeg (nI i + 1))) (xs (Int32.toNatClampNeg (nI i + 2)))).2) w J9 JD V1 hP hD hS (lvb2 hl)
  refine lv_if_ne (tgt := 1047) hx hb dL_law_1032 (by decide) (fun _ => fin) (fun k0 => ?_)
  refine lv_aload_n hx hb dL_law_1035 rfl (lv_at hl 5 rfl) ?_
  refine lv_iconst (v := 0) hx hb dL_law_1036 (by decide) ?_
  refine va_lald hx hb hK.1 hP 93 2 rfl rfl (vp_in_nI (n := 0) (N := 1) (by decide) (by decide)) dL_law_1037 ?_
  refine lv_iload hx hb dL_law_1038 (lv_at hl 0 rfl) ?_
  refine lv_i2l hx hb dL_law_1040 rfl ?_
  refine W.lcmp hx hb dL_law_1041 ?_
  refine lv_if_eq (tgt := 1047) hx hb dL_law_1042 (by decide) (fun _ => fin) (fun c9 => absurd ?_ c9)
  exact zlg0 (hJ k0)
theorem lk_bucket {p : Program} {l : Launch} {e : Env} {s : State} {m : MethodId} {below : List Frame} {meth : Method} {c : Code} {b L : Nat} {xs : Nat → Int32} {D : va_G} {g : Nat → ClassId} {f h u o x t0 t1 t2 t3 t4 t5 uM y yd : Nat → Nat} {Q : State → Prop} {H : Heap} {locs : List Loc} {cells slots i : Nat} {ls : Array Slot} {Z T0 T1 T2 T3 T4 T5 T O X M : Nat → Nat → Int32} {w : Int64} {J : Nat → Int64} {JD : Nat → UInt64} (hx : p.tables.exec = Jvm.exec) (hb : c.code = cL_law) (hml : c.maxLocals = 9) (hown : s.vm.findClass RL = some m.cls) (hts : ∀ w ∈ wsL_law, w.before #[Value.ref b] s = true) (hX : va_X b L xs s s.heap) (hbl : b < s.heap.size) (hK : zK D (zT g) s) (hE : zE s.heap.size s) (hst : l.stackTraces = false)
    (V : zInv Z T0 T1 T2 T3 T4 T5 T X M) (hP : va_P D vwCl (zF (zWd g f h u o x t0 t1 t2 t3 t4 t5 uM y yd Z T0 T1 T2 T3 T4 T5 T O X M w J JD)) H) (hD : va_D (fun q : Nat => s.heap.size ≤ q) (zF (zWd g f h u o x t0 t1 t2 t3 t4 t5 uM y yd Z T0 T1 T2 T3 T4 T5 T O X M w J JD))) (hS : va_S (fun q : Nat => s.heap.size ≤ q) s.heap H locs) (hl : lv_has ls 9 [(0, .ref b), (1, .ref (f 0)), (2, .ref (uM 0)), (3, .ref (y 0)), (4, .ref (yd 0)), (5, .int (nI i))]) (hi : i + 4 ≤ L) (hL : L ≤ 2048) (hc : cells + 1 ≤ 601024) (hsl : slots + 6 ≤ 7293034)
    (kk : ∀ (H' : Heap) (locs' : List Loc) (ls' : Array Slot) (Z' T0' T1' T2' T3' T4' T5' T' O' X' M' : Nat → Nat → Int32) (w' : Int64) (J' : Nat → Int64) (JD' : Nat → UInt64), zInv Z' T0' T1' T2' T3' T4' T5' T' X' M' → va_P D vwCl (zF (zWd g f h u o x t0 t1 t2 t3 t4 t5 uM y yd Z' T0' T1' T2' T3' T4' T5' T' O' X' M' w' J' JD')) H' → va_D (fun q : Nat => s.heap.size ≤ q) (zF (zWd g f h u o x t0 t1 t2 t3 t4 t5 uM y yd Z' T0' T1' T2' T3' T4' T5' T' O' X' M' w' J' JD')) → va_S (fun q : Nat => s.heap.size ≤ q) s.heap H' locs' → lv_has ls' 9 [(0, .ref b), (1, .ref (f 0)), (2, .ref (uM 0)), (3, .ref (y 0)), (4, .ref (yd 0)), (5, .int (nI i))] → W p l e room_1 s m #[Value.ref b] below meth c H' locs' (cells + 1) (slots + 6) Q (F0 m 1797 ls' [])) : W p l e room_1 s m #[Value.ref b] below meth c H locs cells slots Q (F0 m 1050 ls []) := by
  have hbA : ¬ (fun q : Nat => s.heap.size ≤ q) b := Nat.not_le.mpr hbl
  obtain ⟨k9, J9, hM, h5, hJ, V1⟩ := Lr_bucket l D g s.heap.size f h u o x y T J (xs (Int32.toNatClampNeg (nI i + 1))) (xs (Int32.toNatClampNeg (nI i + 2))) Z T0 T1 T2 T3 T4 T5 X M hst V
  refine lv_aload_n hx hb dL_law_1050 rfl (lv_at hl 1 rfl) ?_
  refine lv_aload_n hx hb dL_law_1051 rfl (lv_at hl 0 rfl) ?_
  refine lv_iload hx hb dL_law_1052 (lv_at hl 5 rfl) ?_
  refine lv_iconst (v := 1) hx hb dL_law_1054 (by decide) ?_
  refine lv_iadd hx hb dL_law_1055 ?_
  refine va_sld hx hb hX hbl hbA hS (zlin (k := 1) (by omega) (by omega)) dL_law_1056 ?_
  refine lv_aload_n hx hb dL_law_1057 rfl (lv_at hl 0 rfl) ?_
  refine lv_iload hx hb dL_law_1058 (lv_at hl 5 rfl) ?_
  refine lv_iconst (v := 2) hx hb dL_law_1060 (by decide) ?_
  refine lv_iadd hx hb dL_law_1061 ?_
  refine va_sld hx hb hX hbl hbA hS (zlin (k := 2) (by omega) (by omega)) dL_law_1062 ?_
  refine lv_aload_n hx hb dL_law_1063 rfl (lv_at hl 3 rfl) ?_
  refine zcLS (n := 4) hM hx hb hml hown hts gL_law_L_bucket rfl ⟨by decide, by decide, by decide⟩ ⟨Nat.le_of_ble_eq_true rfl, Nat.le_of_ble_eq_true rfl⟩ ⟨rfl, rfl⟩ hK (zsubB (cs := [zB_X4 f h u o x, zB_X3 (g 0) h T, zB_XJ (g 2) y J]) hP [0, 8, 12] rfl rfl) (zDsubB (cs := [zB_X4 f h u o x, zB_X3 (g 0) h T, zB_XJ (g 2) y J]) hD [0, 8, 12] (by decide) rfl rfl) (zDsubB (cs := [zB_X4 f h u o x, zB_X3 (g 0) h T, zB_XJ (g 2) y J]) hD [0, 8, 12] (by decide) rfl rfl) hE (fun q hq => hS.2.1 q hq (Nat.not_le.mpr hq)) hS hl.1 rfl rfl (Nat.le_of_ble_eq_true rfl) ⟨hc, hsl⟩ dL_law_1064 (fun H1 locs1 hP1 hk1 hS => ?_)
  obtain ⟨hP, hD⟩ := zjoinB (cs := [zB_X4 f h u o x, zB_X3 (g 0) h T, zB_XJ (g 2) y J]) (cs' := [zB_X4 f h u o x, zB_X3 (g 0) h T, zB_XJ (g 2) y J9]) hP hD [0, 8, 12] (by decide) rfl rfl rfl rfl hk1 hP1
  clear hP1 hk1
  have hP : va_P D vwCl (zF (zWd g f h u o x t0 t1 t2 t3 t4 t5 uM y yd Z T0 T1 T2 T3 T4 T5 T O X M w J9 JD)) H1 := hP
  have hD : va_D (fun q : Nat => s.heap.size ≤ q) (zF (zWd g f h u o x t0 t1 t2 t3 t4 t5 uM y yd Z T0 T1 T2 T3 T4 T5 T O X M w J9 JD)) := hD
  refine lv_istore (lv' := [(6, .int k9), (0, .ref b), (1, .ref (f 0)), (2, .ref (uM 0)), (3, .ref (y 0)), (4, .ref (yd 0)), (5, .int (nI i))]) hx hb dL_law_1067 hl (by decide) rfl (fun ls hl => ?_)
  refine lv_aload_n hx hb dL_law_1069 rfl (lv_at hl 3 rfl) ?_
  refine lv_aload_n hx hb dL_law_1070 rfl (lv_at hl 1 rfl) ?_
  refine lv_iload hx hb dL_law_1071 (lv_at hl 6 rfl) ?_
  refine lv_iconst (v := 1) hx hb dL_law_1073 (by decide) ?_
  refine lv_iadd hx hb dL_law_1074 ?_
  refine va_sld hx hb hX hbl hbA hS (zlin (k := 1) (by omega) (by omega)) dL_law_1075 ?_
  refine lv_aload_n hx hb dL_law_1076 rfl (lv_at hl 1 rfl) ?_
  refine lv_iload hx hb dL_law_1077 (lv_at hl 6 rfl) ?_
  refine lv_iconst (v := 2) hx hb dL_law_1079 (by decide) ?_
  refine lv_iadd hx hb dL_law_1080 ?_
  refine va_sld hx hb hX hbl hbA hS (zlin (k := 2) (by omega) (by omega)) dL_law_1081 ?_
  refine zcVw (ci := 5) (n := 2) (c_X5_bucket l D g uM M w (xs (Int32.toNatClampNeg (nI i + 1))) (xs (Int32.toNatClampNeg (nI i + 2))) V.ro) hx hb hml hown hts gL_law_X5_bucket rfl ⟨rfl, by decide, by decide, by decide⟩ ⟨Nat.le_of_ble_eq_true rfl, Nat.le_of_ble_eq_true rfl⟩ ⟨rfl, rfl⟩ hK (zsubB (cs := [zB_X5 (g 0) uM M w]) hP [11] rfl (zF1 _)) (zDsubB (cs := [zB_X5 (g 0) uM M w]) hD [11] (by decide) rfl (zF1 _)) rfl rfl rfl hS hl.1 rfl rfl (Nat.le_of_ble_eq_true rfl) ⟨hc, hsl⟩ dL_law_1082 (fun H2 locs2 hP2 hk2 hS => ?_)
  obtain ⟨hP, hD⟩ := zjoinB (cs := [zB_X5 (g 0) uM M w]) (cs' := [zB_X5 (g 0) uM (v_X5_bucket M (xs (Int32.toNatClampNeg (nI i + 1))) (xs (Int32.toNatClampNeg (nI i + 2)))).2 w]) hP hD [11] (by decide) rfl rfl (zF1 _) (zF1 _) hk2 hP2
  clear hP2 hk2
  have hP : va_P D vwCl (zF (zWd g f h u o x t0 t1 t2 t3 t4 t5 uM y yd Z T0 T1 T2 T3 T4 T5 T O X ((v_X5_bucket M (xs (Int32.toNatClampNeg (nI i + 1))) (xs (Int32.toNatClampNeg (nI i + 2)))).2) w J9 JD)) H2 := hP
  have hD : va_D (fun q : Nat => s.heap.size ≤ q) (zF (zWd g f h u o x t0 t1 t2 t3 t4 t5 uM y yd Z T0 T1 T2 T3 T4 T5 T O X ((v_X5_bucket M (xs (Int32.toNatClampNeg (nI i + 1))) (xs (Int32.toNatClampNeg (nI i + 2)))).2) w J9 JD)) := hD
  refine lv_istore (lv' := [(7, .int (v_X5_bucket M (xs (Int32.toNatClampNeg (nI i + 1))) (xs (Int32.toNatClampNeg (nI i + 2)))).1), (6, .int k9), (0, .ref b), (1, .ref (f 0)), (2, .ref (uM 0)), (3, .ref (y 0)), (4, .ref (yd 0)), (5, .int (nI i))]) hx hb dL_law_1085 hl (by decide) rfl (fun ls hl => ?_)
  refine lv_aload_n hx hb dL_law_1087 rfl (lv_at hl 4 rfl) ?_
  refine zcV (ci := 5) (n := 0) (c_X5_thrown l D g uM (v_X5_bucket M (xs (Int32.toNatClampNeg (nI i + 1))) (xs (Int32.toNatClampNeg (nI i + 2)))).2 w) hx hb hml hown hts gL_law_X5_thrown rfl ⟨rfl, by decide, by decide, by decide⟩ ⟨Nat.le_of_ble_eq_true rfl, Nat.le_of_ble_eq_true rfl⟩ ⟨rfl, rfl⟩ hK (zsubB (cs := [zB_X5 (g 0) uM (v_X5_bucket M (xs (Int32.toNatClampNeg (nI i + 1))) (xs (Int32.toNatClampNeg (nI i + 2)))).2 w]) hP [11] rfl (zF1 _)) rfl rfl rfl hl.1 rfl rfl (Nat.le_of_ble_eq_true rfl) ⟨hc, hsl⟩ dL_law_1088 ?_
  refine lv_iload hx hb dL_law_1091 (lv_at hl 1 rfl) ?_
  refine lv_icmp_eq (tgt := 1098) hx hb dL_law_1093 (by decide) (fun _ => ?_) (fun c9 => absurd h5.symm c9)
  refine lv_iload hx hb dL_law_1098 (lv_at hl 1 rfl) ?_
  have fin : W p l e room_1 s m #[Value.ref b] below meth c H2 locs2 (cells + 1) (slots + 6) Q (F0 m 1115 ls []) := by
    refine lv_goto (tgt := 1797) hx hb dL_law_1115 (by decide) ?_
    exact kk H2 locs2 ls Z T0 T1 T2 T3 T4 T5 T O X ((v_X5_bucket M (xs (Int32.toNatClampNeg (nI i + 1))) (xs (Int32.toNatClampNeg (nI i + 2)))).2) w J9 JD V1 hP hD hS (lvb2 hl)
  refine lv_if_ne (tgt := 1115) hx hb dL_law_1100 (by decide) (fun _ => fin) (fun k0 => ?_)
  refine lv_aload_n hx hb dL_law_1103 rfl (lv_at hl 5 rfl) ?_
  refine lv_iconst (v := 0) hx hb dL_law_1104 (by decide) ?_
  refine va_lald hx hb hK.1 hP 93 2 rfl rfl (vp_in_nI (n := 0) (N := 1) (by decide) (by decide)) dL_law_1105 ?_
  refine lv_iload hx hb dL_law_1106 (lv_at hl 0 rfl) ?_
  refine lv_i2l hx hb dL_law_1108 rfl ?_
  refine W.lcmp hx hb dL_law_1109 ?_
  refine lv_if_eq (tgt := 1115) hx hb dL_law_1110 (by decide) (fun _ => fin) (fun c9 => absurd ?_ c9)
  exact zlg0 (hJ k0)
theorem lk_bread {p : Program} {l : Launch} {e : Env} {s : State} {m : MethodId} {below : List Frame} {meth : Method} {c : Code} {b L : Nat} {xs : Nat → Int32} {D : va_G} {g : Nat → ClassId} {f h u o x t0 t1 t2 t3 t4 t5 uM y yd : Nat → Nat} {Q : State → Prop} {H : Heap} {locs : List Loc} {cells slots i : Nat} {ls : Array Slot} {Z T0 T1 T2 T3 T4 T5 T O X M : Nat → Nat → Int32} {w : Int64} {J : Nat → Int64} {JD : Nat → UInt64} (hx : p.tables.exec = Jvm.exec) (hb : c.code = cL_law) (hml : c.maxLocals = 9) (hown : s.vm.findClass RL = some m.cls) (hts : ∀ w ∈ wsL_law, w.before #[Value.ref b] s = true) (hX : va_X b L xs s s.heap) (hbl : b < s.heap.size) (hK : zK D (zT g) s) (hE : zE s.heap.size s) (hst : l.stackTraces = false)
    (V : zInv Z T0 T1 T2 T3 T4 T5 T X M) (hP : va_P D vwCl (zF (zWd g f h u o x t0 t1 t2 t3 t4 t5 uM y yd Z T0 T1 T2 T3 T4 T5 T O X M w J JD)) H) (hD : va_D (fun q : Nat => s.heap.size ≤ q) (zF (zWd g f h u o x t0 t1 t2 t3 t4 t5 uM y yd Z T0 T1 T2 T3 T4 T5 T O X M w J JD))) (hS : va_S (fun q : Nat => s.heap.size ≤ q) s.heap H locs) (hl : lv_has ls 9 [(0, .ref b), (1, .ref (f 0)), (2, .ref (uM 0)), (3, .ref (y 0)), (4, .ref (yd 0)), (5, .int (nI i))]) (hi : i + 4 ≤ L) (hL : L ≤ 2048) (hc : cells + 1 ≤ 601024) (hsl : slots + 6 ≤ 7293034)
    (kk : ∀ (H' : Heap) (locs' : List Loc) (ls' : Array Slot) (Z' T0' T1' T2' T3' T4' T5' T' O' X' M' : Nat → Nat → Int32) (w' : Int64) (J' : Nat → Int64) (JD' : Nat → UInt64), zInv Z' T0' T1' T2' T3' T4' T5' T' X' M' → va_P D vwCl (zF (zWd g f h u o x t0 t1 t2 t3 t4 t5 uM y yd Z' T0' T1' T2' T3' T4' T5' T' O' X' M' w' J' JD')) H' → va_D (fun q : Nat => s.heap.size ≤ q) (zF (zWd g f h u o x t0 t1 t2 t3 t4 t5 uM y yd Z' T0' T1' T2' T3' T4' T5' T' O' X' M' w' J' JD')) → va_S (fun q : Nat => s.heap.size ≤ q) s.heap H' locs' → lv_has ls' 9 [(0, .ref b), (1, .ref (f 0)), (2, .ref (uM 0)), (3, .ref (y 0)), (4, .ref (yd 0)), (5, .int (nI i))] → W p l e room_1 s m #[Value.ref b] below meth c H' locs' (cells + 1) (slots + 6) Q (F0 m 1797 ls' [])) : W p l e room_1 s m #[Value.ref b] below meth c H locs cells slots Q (F0 m 1118 ls []) := by
  have hbA : ¬ (fun q : Nat => s.heap.size ≤ q) b := Nat.not_le.mpr hbl
  obtain ⟨k9, J9, hM, h5, hJ, V1⟩ := Lr_bread l D g s.heap.size f h u o x y T J (xs (Int32.toNatClampNeg (nI i + 1))) (xs (Int32.toNatClampNeg (nI i + 2))) Z T0 T1 T2 T3 T4 T5 X M hst V
  refine lv_aload_n hx hb dL_law_1118 rfl (lv_at hl 1 rfl) ?_
  refine lv_aload_n hx hb dL_law_1119 rfl (lv_at hl 0 rfl) ?_
  refine lv_iload hx hb dL_law_1120 (lv_at hl 5 rfl) ?_
  refine lv_iconst (v := 1) hx hb dL_law_1122 (by decide) ?_
  refine lv_iadd hx hb dL_law_1123 ?_
  refine va_sld hx hb hX hbl hbA hS (zlin (k := 1) (by omega) (by omega)) dL_law_1124 ?_
  refine lv_aload_n hx hb dL_law_1125 rfl (lv_at hl 0 rfl) ?_
  refine lv_iload hx hb dL_law_1126 (lv_at hl 5 rfl) ?_
  refine lv_iconst (v := 2) hx hb dL_law_1128 (by decide) ?_
  refine lv_iadd hx hb dL_law_1129 ?_
  refine va_sld hx hb hX hbl hbA hS (zlin (k := 2) (by omega) (by omega)) dL_law_1130 ?_
  refine lv_aload_n hx hb dL_law_1131 rfl (lv_at hl 3 rfl) ?_
  refine zcLS (n := 4) hM hx hb hml hown hts gL_law_L_bread rfl ⟨by decide, by decide, by decide⟩ ⟨Nat.le_of_ble_eq_true rfl, Nat.le_of_ble_eq_true rfl⟩ ⟨rfl, rfl⟩ hK (zsubB (cs := [zB_X4 f h u o x, zB_X3 (g 0) h T, zB_XJ (g 2) y J]) hP [0, 8, 12] rfl rfl) (zDsubB (cs := [zB_X4 f h u o x, zB_X3 (g 0) h T, zB_XJ (g 2) y J]) hD [0, 8, 12] (by decide) rfl rfl) (zDsubB (cs := [zB_X4 f h u o x, zB_X3 (g 0) h T, zB_XJ (g 2) y J]) hD [0, 8, 12] (by decide) rfl rfl) hE (fun q hq => hS.2.1 q hq (Nat.not_le.mpr hq)) hS hl.1 rfl rfl (Nat.le_of_ble_eq_true rfl) ⟨hc, hsl⟩ dL_law_1132 (fun H1 locs1 hP1 hk1 hS => ?_)
  obtain ⟨hP, hD⟩ := zjoinB (cs := [zB_X4 f h u o x, zB_X3 (g 0) h T, zB_XJ (g 2) y J]) (cs' := [zB_X4 f h u o x, zB_X3 (g 0) h T, zB_XJ (g 2) y J9]) hP hD [0, 8, 12] (by decide) rfl rfl rfl rfl hk1 hP1
  clear hP1 hk1
  have hP : va_P D vwCl (zF (zWd g f h u o x t0 t1 t2 t3 t4 t5 uM y yd Z T0 T1 T2 T3 T4 T5 T O X M w J9 JD)) H1 := hP
  have hD : va_D (fun q : Nat => s.heap.size ≤ q) (zF (zWd g f h u o x t0 t1 t2 t3 t4 t5 uM y yd Z T0 T1 T2 T3 T4 T5 T O X M w J9 JD)) := hD
  refine lv_istore (lv' := [(6, .int k9), (0, .ref b), (1, .ref (f 0)), (2, .ref (uM 0)), (3, .ref (y 0)), (4, .ref (yd 0)), (5, .int (nI i))]) hx hb dL_law_1135 hl (by decide) rfl (fun ls hl => ?_)
  refine lv_aload_n hx hb dL_law_1137 rfl (lv_at hl 3 rfl) ?_
  refine lv_aload_n hx hb dL_law_1138 rfl (lv_at hl 1 rfl) ?_
  refine lv_iload hx hb dL_law_1139 (lv_at hl 6 rfl) ?_
  refine lv_iconst (v := 1) hx hb dL_law_1141 (by decide) ?_
  refine lv_iadd hx hb dL_law_1142 ?_
  refine va_sld hx hb hX hbl hbA hS (zlin (k := 1) (by omega) (by omega)) dL_law_1143 ?_
  refine lv_aload_n hx hb dL_law_1144 rfl (lv_at hl 1 rfl) ?_
  refine lv_iload hx hb dL_law_1145 (lv_at hl 6 rfl) ?_
  refine lv_iconst (v := 2) hx hb dL_law_1147 (by decide) ?_
  refine lv_iadd hx hb dL_law_1148 ?_
  refine va_sld hx hb hX hbl hbA hS (zlin (k := 2) (by omega) (by omega)) dL_law_1149 ?_
  refine zcVw (ci := 5) (n := 2) (c_X5_bread l D g uM M w (xs (Int32.toNatClampNeg (nI i + 1))) (xs (Int32.toNatClampNeg (nI i + 2))) V.ro) hx hb hml hown hts gL_law_X5_bread rfl ⟨rfl, by decide, by decide, by decide⟩ ⟨Nat.le_of_ble_eq_true rfl, Nat.le_of_ble_eq_true rfl⟩ ⟨rfl, rfl⟩ hK (zsubB (cs := [zB_X5 (g 0) uM M w]) hP [11] rfl (zF1 _)) (zDsubB (cs := [zB_X5 (g 0) uM M w]) hD [11] (by decide) rfl (zF1 _)) rfl rfl rfl hS hl.1 rfl rfl (Nat.le_of_ble_eq_true rfl) ⟨hc, hsl⟩ dL_law_1150 (fun H2 locs2 hP2 hk2 hS => ?_)
  obtain ⟨hP, hD⟩ := zjoinB (cs := [zB_X5 (g 0) uM M w]) (cs' := [zB_X5 (g 0) uM (v_X5_bread M (xs (Int32.toNatClampNeg (nI i + 1))) (xs (Int32.toNatClampNeg (nI i + 2)))).2 w]) hP hD [11] (by decide) rfl rfl (zF1 _) (zF1 _) hk2 hP2
  clear hP2 hk2
  have hP : va_P D vwCl (zF (zWd g f h u o x t0 t1 t2 t3 t4 t5 uM y yd Z T0 T1 T2 T3 T4 T5 T O X ((v_X5_bread M (xs (Int32.toNatClampNeg (nI i + 1))) (xs (Int32.toNatClampNeg (nI i + 2)))).2) w J9 JD)) H2 := hP
  have hD : va_D (fun q : Nat => s.heap.size ≤ q) (zF (zWd g f h u o x t0 t1 t2 t3 t4 t5 uM y yd Z T0 T1 T2 T3 T4 T5 T O X ((v_X5_bread M (xs (Int32.toNatClampNeg (nI i + 1))) (xs (Int32.toNatClampNeg (nI i + 2)))).2) w J9 JD)) := hD
  refine lv_istore (lv' := [(7, .int (v_X5_bread M (xs (Int32.toNatClampNeg (nI i + 1))) (xs (Int32.toNatClampNeg (nI i + 2)))).1), (6, .int k9), (0, .ref b), (1, .ref (f 0)), (2, .ref (uM 0)), (3, .ref (y 0)), (4, .ref (yd 0)), (5, .int (nI i))]) hx hb dL_law_1153 hl (by decide) rfl (fun ls hl => ?_)
  refine lv_aload_n hx hb dL_law_1155 rfl (lv_at hl 4 rfl) ?_
  refine zcV (ci := 5) (n := 0) (c_X5_thrown l D g uM (v_X5_bread M (xs (Int32.toNatClampNeg (nI i + 1))) (xs (Int32.toNatClampNeg (nI i + 2)))).2 w) hx hb hml hown hts gL_law_X5_thrown rfl ⟨rfl, by decide, by decide, by decide⟩ ⟨Nat.le_of_ble_eq_true rfl, Nat.le_of_ble_eq_true rfl⟩ ⟨rfl, rfl⟩ hK (zsubB (cs := [zB_X5 (g 0) uM (v_X5_bread M (xs (Int32.toNatClampNeg (nI i + 1))) (xs (Int32.toNatClampNeg (nI i + 2)))).2 w]) hP [11] rfl (zF1 _)) rfl rfl rfl hl.1 rfl rfl (Nat.le_of_ble_eq_true rfl) ⟨hc, hsl⟩ dL_law_1156 ?_
  refine lv_iload hx hb dL_law_1159 (lv_at hl 1 rfl) ?_
  refine lv_icmp_eq (tgt := 1166) hx hb dL_law_1161 (by decide) (fun _ => ?_) (fun c9 => absurd h5.symm c9)
  refine lv_iload hx hb dL_law_1166 (lv_at hl 1 rfl) ?_
  have fin : W p l e room_1 s m #[Value.ref b] below meth c H2 locs2 (cells + 1) (slots + 6) Q (F0 m 1183 ls []) := by
    refine lv_goto (tgt := 1797) hx hb dL_law_1183 (by decide) ?_
    exact kk H2 locs2 ls Z T0 T1 T2 T3 T4 T5 T O X ((v_X5_bread M (xs (Int32.toNatClampNeg (nI i + 1))) (xs (Int32.toNatClampNeg (nI i + 2)))).2) w J9 JD V1 hP hD hS (lvb2 hl)
  refine lv_if_ne (tgt := 1183) hx hb dL_law_1168 (by decide) (fun _ => fin) (fun k0 => ?_)
  refine lv_aload_n hx hb dL_law_1171 rfl (lv_at hl 5 rfl) ?_
  refine lv_iconst (v := 0) hx hb dL_law_1172 (by decide) ?_
  refine va_lald hx hb hK.1 hP 93 2 rfl rfl (vp_in_nI (n := 0) (N := 1) (by decide) (by decide)) dL_law_1173 ?_
  refine lv_iload hx hb dL_law_1174 (lv_at hl 0 rfl) ?_
  refine lv_i2l hx hb dL_law_1176 rfl ?_
  refine W.lcmp hx hb dL_law_1177 ?_
  refine lv_if_eq (tgt := 1183) hx hb dL_law_1178 (by decide) (fun _ => fin) (fun c9 => absurd ?_ c9)
  exact zlg0 (hJ k0)
theorem lk_person {p : Program} {l : Launch} {e : Env} {s : State} {m : MethodId} {below : List Frame} {meth : Method} {c : Code} {b L : Nat} {xs : Nat → Int32} {D : va_G} {g : Nat → ClassId} {f h u o x t0 t1 t2 t3 t4 t5 uM y yd : Nat → Nat} {Q : State → Prop} {H : Heap} {locs : List Loc} {cells slots i : Nat} {ls : Array Slot} {Z T0 T1 T2 T3 T4 T5 T O X M : Nat → Nat → Int32} {w : Int64} {J : Nat → Int64} {JD : Nat → UInt64} (hx : p.tables.exec = Jvm.exec) (hb : c.code = cL_law) (hml : c.maxLocals = 9) (hown : s.vm.findClass RL = some m.cls) (hts : ∀ w ∈ wsL_law, w.before #[Value.ref b] s = true) (hX : va_X b L xs s s.heap) (hbl : b < s.heap.size) (hK : zK D (zT g) s) (hE : zE s.heap.size s) (hst : l.stackTraces = false)
    (V : zInv Z T0 T1 T2 T3 T4 T5 T X M) (hP : va_P D vwCl (zF (zWd g f h u o x t0 t1 t2 t3 t4 t5 uM y yd Z T0 T1 T2 T3 T4 T5 T O X M w J JD)) H) (hD : va_D (fun q : Nat => s.heap.size ≤ q) (zF (zWd g f h u o x t0 t1 t2 t3 t4 t5 uM y yd Z T0 T1 T2 T3 T4 T5 T O X M w J JD))) (hS : va_S (fun q : Nat => s.heap.size ≤ q) s.heap H locs) (hl : lv_has ls 9 [(0, .ref b), (1, .ref (f 0)), (2, .ref (uM 0)), (3, .ref (y 0)), (4, .ref (yd 0)), (5, .int (nI i))]) (hi : i + 4 ≤ L) (hL : L ≤ 2048) (hc : cells + 1 ≤ 601024) (hsl : slots + 6 ≤ 7293034)
    (kk : ∀ (H' : Heap) (locs' : List Loc) (ls' : Array Slot) (Z' T0' T1' T2' T3' T4' T5' T' O' X' M' : Nat → Nat → Int32) (w' : Int64) (J' : Nat → Int64) (JD' : Nat → UInt64), zInv Z' T0' T1' T2' T3' T4' T5' T' X' M' → va_P D vwCl (zF (zWd g f h u o x t0 t1 t2 t3 t4 t5 uM y yd Z' T0' T1' T2' T3' T4' T5' T' O' X' M' w' J' JD')) H' → va_D (fun q : Nat => s.heap.size ≤ q) (zF (zWd g f h u o x t0 t1 t2 t3 t4 t5 uM y yd Z' T0' T1' T2' T3' T4' T5' T' O' X' M' w' J' JD')) → va_S (fun q : Nat => s.heap.size ≤ q) s.heap H' locs' → lv_has ls' 9 [(0, .ref b), (1, .ref (f 0)), (2, .ref (uM 0)), (3, .ref (y 0)), (4, .ref (yd 0)), (5, .int (nI i))] → W p l e room_1 s m #[Value.ref b] below meth c H' locs' (cells + 1) (slots + 6) Q (F0 m 1797 ls' [])) : W p l e room_1 s m #[Value.ref b] below meth c H locs cells slots Q (F0 m 1186 ls []) := by
  have hbA : ¬ (fun q : Nat => s.heap.size ≤ q) b := Nat.not_le.mpr hbl
  obtain ⟨k9, J9, hM, h5, hJ, V1⟩ := Lr_person l D g s.heap.size f h u o x y T J (xs (Int32.toNatClampNeg (nI i + 1))) (xs (Int32.toNatClampNeg (nI i + 2))) Z T0 T1 T2 T3 T4 T5 X M hst V
  refine lv_aload_n hx hb dL_law_1186 rfl (lv_at hl 1 rfl) ?_
  refine lv_aload_n hx hb dL_law_1187 rfl (lv_at hl 0 rfl) ?_
  refine lv_iload hx hb dL_law_1188 (lv_at hl 5 rfl) ?_
  refine lv_iconst (v := 1) hx hb dL_law_1190 (by decide) ?_
  refine lv_iadd hx hb dL_law_1191 ?_
  refine va_sld hx hb hX hbl hbA hS (zlin (k := 1) (by omega) (by omega)) dL_law_1192 ?_
  refine lv_aload_n hx hb dL_law_1193 rfl (lv_at hl 0 rfl) ?_
  refine lv_iload hx hb dL_law_1194 (lv_at hl 5 rfl) ?_
  refine lv_iconst (v := 2) hx hb dL_law_1196 (by decide) ?_
  refine lv_iadd hx hb dL_law_1197 ?_
  refine va_sld hx hb hX hbl hbA hS (zlin (k := 2) (by omega) (by omega)) dL_law_1198 ?_
  refine lv_aload_n hx hb dL_law_1199 rfl (lv_at hl 3 rfl) ?_
  refine zcLS (n := 4) hM hx hb hml hown hts gL_law_L_person rfl ⟨by decide, by decide, by decide⟩ ⟨Nat.le_of_ble_eq_true rfl, Nat.le_of_ble_eq_true rfl⟩ ⟨rfl, rfl⟩ hK (zsubB (cs := [zB_X4 f h u o x, zB_X3 (g 0) h T, zB_XJ (g 2) y J]) hP [0, 8, 12] rfl rfl) (zDsubB (cs := [zB_X4 f h u o x, zB_X3 (g 0) h T, zB_XJ (g 2) y J]) hD [0, 8, 12] (by decide) rfl rfl) (zDsubB (cs := [zB_X4 f h u o x, zB_X3 (g 0) h T, zB_XJ (g 2) y J]) hD [0, 8, 12] (by decide) rfl rfl) hE (fun q hq => hS.2.1 q hq (Nat.not_le.mpr hq)) hS hl.1 rfl rfl (Nat.le_of_ble_eq_true rfl) ⟨hc, hsl⟩ dL_law_1200 (fun H1 locs1 hP1 hk1 hS => ?_)
  obtain ⟨hP, hD⟩ := zjoinB (cs := [zB_X4 f h u o x, zB_X3 (g 0) h T, zB_XJ (g 2) y J]) (cs' := [zB_X4 f h u o x, zB_X3 (g 0) h T, zB_XJ (g 2) y J9]) hP hD [0, 8, 12] (by decide) rfl rfl rfl rfl hk1 hP1
  clear hP1 hk1
  have hP : va_P D vwCl (zF (zWd g f h u o x t0 t1 t2 t3 t4 t5 uM y yd Z T0 T1 T2 T3 T4 T5 T O X M w J9 JD)) H1 := hP
  have hD : va_D (fun q : Nat => s.heap.size ≤ q) (zF (zWd g f h u o x t0 t1 t2 t3 t4 t5 uM y yd Z T0 T1 T2 T3 T4 T5 T O X M w J9 JD)) := hD
  refine lv_istore (lv' := [(6, .int k9), (0, .ref b), (1, .ref (f 0)), (2, .ref (uM 0)), (3, .ref (y 0)), (4, .ref (yd 0)), (5, .int (nI i))]) hx hb dL_law_1203 hl (by decide) rfl (fun ls hl => ?_)
  refine lv_aload_n hx hb dL_law_1205 rfl (lv_at hl 3 rfl) ?_
  refine lv_aload_n hx hb dL_law_1206 rfl (lv_at hl 1 rfl) ?_
  refine lv_iload hx hb dL_law_1207 (lv_at hl 6 rfl) ?_
  refine lv_iconst (v := 1) hx hb dL_law_1209 (by decide) ?_
  refine lv_iadd hx hb dL_law_1210 ?_
  refine va_sld hx hb hX hbl hbA hS (zlin (k := 1) (by omega) (by omega)) dL_law_1211 ?_
  refine lv_aload_n hx hb dL_law_1212 rfl (lv_at hl 1 rfl) ?_
  refine lv_iload hx hb dL_law_1213 (lv_at hl 6 rfl) ?_
  refine lv_iconst (v := 2) hx hb dL_law_1215 (by decide) ?_
  refine lv_iadd hx hb dL_law_1216 ?_
  refine va_sld hx hb hX hbl hbA hS (zlin (k := 2) (by omega) (by omega)) dL_law_1217 ?_
  refine zcVw (ci := 5) (n := 2) (c_X5_person l D g uM M w (xs (Int32.toNatClampNeg (nI i + 1))) (xs (Int32.toNatClampNeg (nI i + 2))) V.ro) hx hb hml hown hts gL_law_X5_person rfl ⟨rfl, by decide, by decide, by decide⟩ ⟨Nat.le_of_ble_eq_true rfl, Nat.le_of_ble_eq_true rfl⟩ ⟨rfl, rfl⟩ hK (zsubB (cs := [zB_X5 (g 0) uM M w]) hP [11] rfl (zF1 _)) (zDsubB (cs := [zB_X5 (g 0) uM M w]) hD [11] (by decide) rfl (zF1 _)) rfl rfl rfl hS hl.1 rfl rfl (Nat.le_of_ble_eq_true rfl) ⟨hc, hsl⟩ dL_law_1218 (fun H2 locs2 hP2 hk2 hS => ?_)
  obtain ⟨hP, hD⟩ := zjoinB (cs := [zB_X5 (g 0) uM M w]) (cs' := [zB_X5 (g 0) uM (v_X5_person M (xs (Int32.toNatClampNeg (nI i + 1))) (xs (Int32.toNatClampNeg (nI i + 2)))).2 w]) hP hD [11] (by decide) rfl rfl (zF1 _) (zF1 _) hk2 hP2
  clear hP2 hk2
  have hP : va_P D vwCl (zF (zWd g f h u o x t0 t1 t2 t3 t4 t5 uM y yd Z T0 T1 T2 T3 T4 T5 T O X ((v_X5_person M (xs (Int32.toNatClampNeg (nI i + 1))) (xs (Int32.toNatClampNeg (nI i + 2)))).2) w J9 JD)) H2 := hP
  have hD : va_D (fun q : Nat => s.heap.size ≤ q) (zF (zWd g f h u o x t0 t1 t2 t3 t4 t5 uM y yd Z T0 T1 T2 T3 T4 T5 T O X ((v_X5_person M (xs (Int32.toNatClampNeg (nI i + 1))) (xs (Int32.toNatClampNeg (nI i + 2)))).2) w J9 JD)) := hD
  refine lv_istore (lv' := [(7, .int (v_X5_person M (xs (Int32.toNatClampNeg (nI i + 1))) (xs (Int32.toNatClampNeg (nI i + 2)))).1), (6, .int k9), (0, .ref b), (1, .ref (f 0)), (2, .ref (uM 0)), (3, .ref (y 0)), (4, .ref (yd 0)), (5, .int (nI i))]) hx hb dL_law_1221 hl (by decide) rfl (fun ls hl => ?_)
  refine lv_aload_n hx hb dL_law_1223 rfl (lv_at hl 4 rfl) ?_
  refine zcV (ci := 5) (n := 0) (c_X5_thrown l D g uM (v_X5_person M (xs (Int32.toNatClampNeg (nI i + 1))) (xs (Int32.toNatClampNeg (nI i + 2)))).2 w) hx hb hml hown hts gL_law_X5_thrown rfl ⟨rfl, by decide, by decide, by decide⟩ ⟨Nat.le_of_ble_eq_true rfl, Nat.le_of_ble_eq_true rfl⟩ ⟨rfl, rfl⟩ hK (zsubB (cs := [zB_X5 (g 0) uM (v_X5_person M (xs (Int32.toNatClampNeg (nI i + 1))) (xs (Int32.toNatClampNeg (nI i + 2)))).2 w]) hP [11] rfl (zF1 _)) rfl rfl rfl hl.1 rfl rfl (Nat.le_of_ble_eq_true rfl) ⟨hc, hsl⟩ dL_law_1224 ?_
  refine lv_iload hx hb dL_law_1227 (lv_at hl 1 rfl) ?_
  refine lv_icmp_eq (tgt := 1234) hx hb dL_law_1229 (by decide) (fun _ => ?_) (fun c9 => absurd h5.symm c9)
  refine lv_iload hx hb dL_law_1234 (lv_at hl 1 rfl) ?_
  have fin : W p l e room_1 s m #[Value.ref b] below meth c H2 locs2 (cells + 1) (slots + 6) Q (F0 m 1251 ls []) := by
    refine lv_goto (tgt := 1797) hx hb dL_law_1251 (by decide) ?_
    exact kk H2 locs2 ls Z T0 T1 T2 T3 T4 T5 T O X ((v_X5_person M (xs (Int32.toNatClampNeg (nI i + 1))) (xs (Int32.toNatClampNeg (nI i + 2)))).2) w J9 JD V1 hP hD hS (lvb2 hl)
  refine lv_if_ne (tgt := 1251) hx hb dL_law_1236 (by decide) (fun _ => fin) (fun k0 => ?_)
  refine lv_aload_n hx hb dL_law_1239 rfl (lv_at hl 5 rfl) ?_
  refine lv_iconst (v := 0) hx hb dL_law_1240 (by decide) ?_
  refine va_lald hx hb hK.1 hP 93 2 rfl rfl (vp_in_nI (n := 0) (N := 1) (by decide) (by decide)) dL_law_1241 ?_
  refine lv_iload hx hb dL_law_1242 (lv_at hl 0 rfl) ?_
  refine lv_i2l hx hb dL_law_1244 rfl ?_
  refine W.lcmp hx hb dL_law_1245 ?_
  refine lv_if_eq (tgt := 1251) hx hb dL_law_1246 (by decide) (fun _ => fin) (fun c9 => absurd ?_ c9)
  exact zlg0 (hJ k0)
theorem lk_owner {p : Program} {l : Launch} {e : Env} {s : State} {m : MethodId} {below : List Frame} {meth : Method} {c : Code} {b L : Nat} {xs : Nat → Int32} {D : va_G} {g : Nat → ClassId} {f h u o x t0 t1 t2 t3 t4 t5 uM y yd : Nat → Nat} {Q : State → Prop} {H : Heap} {locs : List Loc} {cells slots i : Nat} {ls : Array Slot} {Z T0 T1 T2 T3 T4 T5 T O X M : Nat → Nat → Int32} {w : Int64} {J : Nat → Int64} {JD : Nat → UInt64} (hx : p.tables.exec = Jvm.exec) (hb : c.code = cL_law) (hml : c.maxLocals = 9) (hown : s.vm.findClass RL = some m.cls) (hts : ∀ w ∈ wsL_law, w.before #[Value.ref b] s = true) (hX : va_X b L xs s s.heap) (hbl : b < s.heap.size) (hK : zK D (zT g) s) (hE : zE s.heap.size s) (hst : l.stackTraces = false)
    (V : zInv Z T0 T1 T2 T3 T4 T5 T X M) (hP : va_P D vwCl (zF (zWd g f h u o x t0 t1 t2 t3 t4 t5 uM y yd Z T0 T1 T2 T3 T4 T5 T O X M w J JD)) H) (hD : va_D (fun q : Nat => s.heap.size ≤ q) (zF (zWd g f h u o x t0 t1 t2 t3 t4 t5 uM y yd Z T0 T1 T2 T3 T4 T5 T O X M w J JD))) (hS : va_S (fun q : Nat => s.heap.size ≤ q) s.heap H locs) (hl : lv_has ls 9 [(0, .ref b), (1, .ref (f 0)), (2, .ref (uM 0)), (3, .ref (y 0)), (4, .ref (yd 0)), (5, .int (nI i))]) (hi : i + 4 ≤ L) (hL : L ≤ 2048) (hc : cells + 1 ≤ 601024) (hsl : slots + 6 ≤ 7293034)
    (kk : ∀ (H' : Heap) (locs' : List Loc) (ls' : Array Slot) (Z' T0' T1' T2' T3' T4' T5' T' O' X' M' : Nat → Nat → Int32) (w' : Int64) (J' : Nat → Int64) (JD' : Nat → UInt64), zInv Z' T0' T1' T2' T3' T4' T5' T' X' M' → va_P D vwCl (zF (zWd g f h u o x t0 t1 t2 t3 t4 t5 uM y yd Z' T0' T1' T2' T3' T4' T5' T' O' X' M' w' J' JD')) H' → va_D (fun q : Nat => s.heap.size ≤ q) (zF (zWd g f h u o x t0 t1 t2 t3 t4 t5 uM y yd Z' T0' T1' T2' T3' T4' T5' T' O' X' M' w' J' JD')) → va_S (fun q : Nat => s.heap.size ≤ q) s.heap H' locs' → lv_has ls' 9 [(0, .ref b), (1, .ref (f 0)), (2, .ref (uM 0)), (3, .ref (y 0)), (4, .ref (yd 0)), (5, .int (nI i))] → W p l e room_1 s m #[Value.ref b] below meth c H' locs' (cells + 1) (slots + 6) Q (F0 m 1797 ls' [])) : W p l e room_1 s m #[Value.ref b] below meth c H locs cells slots Q (F0 m 1254 ls []) := by
  have hbA : ¬ (fun q : Nat => s.heap.size ≤ q) b := Nat.not_le.mpr hbl
  obtain ⟨k9, J9, hM, h5, hJ, V1⟩ := Lr_owner l D g s.heap.size f h u o x y T J (xs (Int32.toNatClampNeg (nI i + 1))) (xs (Int32.toNatClampNeg (nI i + 2))) Z T0 T1 T2 T3 T4 T5 X M hst V
  refine lv_aload_n hx hb dL_law_1254 rfl (lv_at hl 1 rfl) ?_
  refine lv_aload_n hx hb dL_law_1255 rfl (lv_at hl 0 rfl) ?_
  refine lv_iload hx hb dL_law_1256 (lv_at hl 5 rfl) ?_
  refine lv_iconst (v := 1) hx hb dL_law_1258 (by decide) ?_
  refine lv_iadd hx hb dL_law_1259 ?_
  refine va_sld hx hb hX hbl hbA hS (zlin (k := 1) (by omega) (by omega)) dL_law_1260 ?_
  refine lv_aload_n hx hb dL_law_1261 rfl (lv_at hl 0 rfl) ?_
  refine lv_iload hx hb dL_law_1262 (lv_at hl 5 rfl) ?_
  refine lv_iconst (v := 2) hx hb dL_law_1264 (by decide) ?_
  refine lv_iadd hx hb dL_law_1265 ?_
  refine va_sld hx hb hX hbl hbA hS (zlin (k := 2) (by omega) (by omega)) dL_law_1266 ?_
  refine lv_aload_n hx hb dL_law_1267 rfl (lv_at hl 3 rfl) ?_
  refine zcLS (n := 4) hM hx hb hml hown hts gL_law_L_owner rfl ⟨by decide, by decide, by decide⟩ ⟨Nat.le_of_ble_eq_true rfl, Nat.le_of_ble_eq_true rfl⟩ ⟨rfl, rfl⟩ hK (zsubB (cs := [zB_X4 f h u o x, zB_X3 (g 0) h T, zB_XJ (g 2) y J]) hP [0, 8, 12] rfl rfl) (zDsubB (cs := [zB_X4 f h u o x, zB_X3 (g 0) h T, zB_XJ (g 2) y J]) hD [0, 8, 12] (by decide) rfl rfl) (zDsubB (cs := [zB_X4 f h u o x, zB_X3 (g 0) h T, zB_XJ (g 2) y J]) hD [0, 8, 12] (by decide) rfl rfl) hE (fun q hq => hS.2.1 q hq (Nat.not_le.mpr hq)) hS hl.1 rfl rfl (Nat.le_of_ble_eq_true rfl) ⟨hc, hsl⟩ dL_law_1268 (fun H1 locs1 hP1 hk1 hS => ?_)
  obtain ⟨hP, hD⟩ := zjoinB (cs := [zB_X4 f h u o x, zB_X3 (g 0) h T, zB_XJ (g 2) y J]) (cs' := [zB_X4 f h u o x, zB_X3 (g 0) h T, zB_XJ (g 2) y J9]) hP hD [0, 8, 12] (by decide) rfl rfl rfl rfl hk1 hP1
  clear hP1 hk1
  have hP : va_P D vwCl (zF (zWd g f h u o x t0 t1 t2 t3 t4 t5 uM y yd Z T0 T1 T2 T3 T4 T5 T O X M w J9 JD)) H1 := hP
  have hD : va_D (fun q : Nat => s.heap.size ≤ q) (zF (zWd g f h u o x t0 t1 t2 t3 t4 t5 uM y yd Z T0 T1 T2 T3 T4 T5 T O X M w J9 JD)) := hD
  refine lv_istore (lv' := [(6, .int k9), (0, .ref b), (1, .ref (f 0)), (2, .ref (uM 0)), (3, .ref (y 0)), (4, .ref (yd 0)), (5, .int (nI i))]) hx hb dL_law_1271 hl (by decide) rfl (fun ls hl => ?_)
  refine lv_aload_n hx hb dL_law_1273 rfl (lv_at hl 3 rfl) ?_
  refine lv_aload_n hx hb dL_law_1274 rfl (lv_at hl 1 rfl) ?_
  refine lv_iload hx hb dL_law_1275 (lv_at hl 6 rfl) ?_
  refine lv_iconst (v := 1) hx hb dL_law_1277 (by decide) ?_
  refine lv_iadd hx hb dL_law_1278 ?_
  refine va_sld hx hb hX hbl hbA hS (zlin (k := 1) (by omega) (by omega)) dL_law_1279 ?_
  refine lv_aload_n hx hb dL_law_1280 rfl (lv_at hl 1 rfl) ?_
  refine lv_iload hx hb dL_law_1281 (lv_at hl 6 rfl) ?_
  refine lv_iconst (v := 2) hx hb dL_law_1283 (by decide) ?_
  refine lv_iadd hx hb dL_law_1284 ?_
  refine va_sld hx hb hX hbl hbA hS (zlin (k := 2) (by omega) (by omega)) dL_law_1285 ?_
  refine zcVw (ci := 5) (n := 2) (c_X5_owner l D g uM M w (xs (Int32.toNatClampNeg (nI i + 1))) (xs (Int32.toNatClampNeg (nI i + 2)))) hx hb hml hown hts gL_law_X5_owner rfl ⟨rfl, by decide, by decide, by decide⟩ ⟨Nat.le_of_ble_eq_true rfl, Nat.le_of_ble_eq_true rfl⟩ ⟨rfl, rfl⟩ hK (zsubB (cs := [zB_X5 (g 0) uM M w]) hP [11] rfl (zF1 _)) (zDsubB (cs := [zB_X5 (g 0) uM M w]) hD [11] (by decide) rfl (zF1 _)) rfl rfl rfl hS hl.1 rfl rfl (Nat.le_of_ble_eq_true rfl) ⟨hc, hsl⟩ dL_law_1286 (fun H2 locs2 hP2 hk2 hS => ?_)
  obtain ⟨hP, hD⟩ := zjoinB (cs := [zB_X5 (g 0) uM M w]) (cs' := [zB_X5 (g 0) uM (v_X5_owner M (xs (Int32.toNatClampNeg (nI i + 1))) (xs (Int32.toNatClampNeg (nI i + 2)))).2 w]) hP hD [11] (by decide) rfl rfl (zF1 _) (zF1 _) hk2 hP2
  clear hP2 hk2
  have hP : va_P D vwCl (zF (zWd g f h u o x t0 t1 t2 t3 t4 t5 uM y yd Z T0 T1 T2 T3 T4 T5 T O X ((v_X5_owner M (xs (Int32.toNatClampNeg (nI i + 1))) (xs (Int32.toNatClampNeg (nI i + 2)))).2) w J9 JD)) H2 := hP
  have hD : va_D (fun q : Nat => s.heap.size ≤ q) (zF (zWd g f h u o x t0 t1 t2 t3 t4 t5 uM y yd Z T0 T1 T2 T3 T4 T5 T O X ((v_X5_owner M (xs (Int32.toNatClampNeg (nI i + 1))) (xs (Int32.toNatClampNeg (nI i + 2)))).2) w J9 JD)) := hD
  refine lv_istore (lv' := [(7, .int (v_X5_owner M (xs (Int32.toNatClampNeg (nI i + 1))) (xs (Int32.toNatClampNeg (nI i + 2)))).1), (6, .int k9), (0, .ref b), (1, .ref (f 0)), (2, .ref (uM 0)), (3, .ref (y 0)), (4, .ref (yd 0)), (5, .int (nI i))]) hx hb dL_law_1289 hl (by decide) rfl (fun ls hl => ?_)
  refine lv_aload_n hx hb dL_law_1291 rfl (lv_at hl 4 rfl) ?_
  refine zcV (ci := 5) (n := 0) (c_X5_thrown l D g uM (v_X5_owner M (xs (Int32.toNatClampNeg (nI i + 1))) (xs (Int32.toNatClampNeg (nI i + 2)))).2 w) hx hb hml hown hts gL_law_X5_thrown rfl ⟨rfl, by decide, by decide, by decide⟩ ⟨Nat.le_of_ble_eq_true rfl, Nat.le_of_ble_eq_true rfl⟩ ⟨rfl, rfl⟩ hK (zsubB (cs := [zB_X5 (g 0) uM (v_X5_owner M (xs (Int32.toNatClampNeg (nI i + 1))) (xs (Int32.toNatClampNeg (nI i + 2)))).2 w]) hP [11] rfl (zF1 _)) rfl rfl rfl hl.1 rfl rfl (Nat.le_of_ble_eq_true rfl) ⟨hc, hsl⟩ dL_law_1292 ?_
  refine lv_iload hx hb dL_law_1295 (lv_at hl 1 rfl) ?_
  refine lv_icmp_eq (tgt := 1302) hx hb dL_law_1297 (by decide) (fun _ => ?_) (fun c9 => absurd h5.symm c9)
  refine lv_iload hx hb dL_law_1302 (lv_at hl 1 rfl) ?_
  have fin : W p l e room_1 s m #[Value.ref b] below meth c H2 locs2 (cells + 1) (slots + 6) Q (F0 m 1319 ls []) := by
    refine lv_goto (tgt := 1797) hx hb dL_law_1319 (by decide) ?_
    exact kk H2 locs2 ls Z T0 T1 T2 T3 T4 T5 T O X ((v_X5_owner M (xs (Int32.toNatClampNeg (nI i + 1))) (xs (Int32.toNatClampNeg (nI i + 2)))).2) w J9 JD V1 hP hD hS (lvb2 hl)
  refine lv_if_ne (tgt := 1319) hx hb dL_law_1304 (by decide) (fun _ => fin) (fun k0 => ?_)
  refine lv_aload_n hx hb dL_law_1307 rfl (lv_at hl 5 rfl) ?_
  refine lv_iconst (v := 0) hx hb dL_law_1308 (by decide) ?_
  refine va_lald hx hb hK.1 hP 93 2 rfl rfl (vp_in_nI (n := 0) (N := 1) (by decide) (by decide)) dL_law_1309 ?_
  refine lv_iload hx hb dL_law_1310 (lv_at hl 0 rfl) ?_
  refine lv_i2l hx hb dL_law_1312 rfl ?_
  refine W.lcmp hx hb dL_law_1313 ?_
  refine lv_if_eq (tgt := 1319) hx hb dL_law_1314 (by decide) (fun _ => fin) (fun c9 => absurd ?_ c9)
  exact zlg0 (hJ k0)
theorem lk_count {p : Program} {l : Launch} {e : Env} {s : State} {m : MethodId} {below : List Frame} {meth : Method} {c : Code} {b L : Nat} {xs : Nat → Int32} {D : va_G} {g : Nat → ClassId} {f h u o x t0 t1 t2 t3 t4 t5 uM y yd : Nat → Nat} {Q : State → Prop} {H : Heap} {locs : List Loc} {cells slots i : Nat} {ls : Array Slot} {Z T0 T1 T2 T3 T4 T5 T O X M : Nat → Nat → Int32} {w : Int64} {J : Nat → Int64} {JD : Nat → UInt64} (hx : p.tables.exec = Jvm.exec) (hb : c.code = cL_law) (hml : c.maxLocals = 9) (hown : s.vm.findClass RL = some m.cls) (hts : ∀ w ∈ wsL_law, w.before #[Value.ref b] s = true) (hX : va_X b L xs s s.heap) (hbl : b < s.heap.size) (hK : zK D (zT g) s) (hE : zE s.heap.size s) (hst : l.stackTraces = false)
    (V : zInv Z T0 T1 T2 T3 T4 T5 T X M) (hP : va_P D vwCl (zF (zWd g f h u o x t0 t1 t2 t3 t4 t5 uM y yd Z T0 T1 T2 T3 T4 T5 T O X M w J JD)) H) (hD : va_D (fun q : Nat => s.heap.size ≤ q) (zF (zWd g f h u o x t0 t1 t2 t3 t4 t5 uM y yd Z T0 T1 T2 T3 T4 T5 T O X M w J JD))) (hS : va_S (fun q : Nat => s.heap.size ≤ q) s.heap H locs) (hl : lv_has ls 9 [(0, .ref b), (1, .ref (f 0)), (2, .ref (uM 0)), (3, .ref (y 0)), (4, .ref (yd 0)), (5, .int (nI i))]) (hi : i + 4 ≤ L) (hL : L ≤ 2048) (hc : cells + 1 ≤ 601024) (hsl : slots + 6 ≤ 7293034)
    (kk : ∀ (H' : Heap) (locs' : List Loc) (ls' : Array Slot) (Z' T0' T1' T2' T3' T4' T5' T' O' X' M' : Nat → Nat → Int32) (w' : Int64) (J' : Nat → Int64) (JD' : Nat → UInt64), zInv Z' T0' T1' T2' T3' T4' T5' T' X' M' → va_P D vwCl (zF (zWd g f h u o x t0 t1 t2 t3 t4 t5 uM y yd Z' T0' T1' T2' T3' T4' T5' T' O' X' M' w' J' JD')) H' → va_D (fun q : Nat => s.heap.size ≤ q) (zF (zWd g f h u o x t0 t1 t2 t3 t4 t5 uM y yd Z' T0' T1' T2' T3' T4' T5' T' O' X' M' w' J' JD')) → va_S (fun q : Nat => s.heap.size ≤ q) s.heap H' locs' → lv_has ls' 9 [(0, .ref b), (1, .ref (f 0)), (2, .ref (uM 0)), (3, .ref (y 0)), (4, .ref (yd 0)), (5, .int (nI i))] → W p l e room_1 s m #[Value.ref b] below meth c H' locs' (cells + 1) (slots + 6) Q (F0 m 1797 ls' [])) : W p l e room_1 s m #[Value.ref b] below meth c H locs cells slots Q (F0 m 1322 ls []) := by
  have hbA : ¬ (fun q : Nat => s.heap.size ≤ q) b := Nat.not_le.mpr hbl
  obtain ⟨k9, J9, hM, h5, hJ, V1⟩ := Lr_count l D g s.heap.size f h u o x t0 t1 t2 t3 t4 t5 y Z T J (xs (Int32.toNatClampNeg (nI i + 1))) T0 T1 T2 T3 T4 T5 X M hst V
  refine lv_aload_n hx hb dL_law_1322 rfl (lv_at hl 1 rfl) ?_
  refine lv_aload_n hx hb dL_law_1323 rfl (lv_at hl 0 rfl) ?_
  refine lv_iload hx hb dL_law_1324 (lv_at hl 5 rfl) ?_
  refine lv_iconst (v := 1) hx hb dL_law_1326 (by decide) ?_
  refine lv_iadd hx hb dL_law_1327 ?_
  refine va_sld hx hb hX hbl hbA hS (zlin (k := 1) (by omega) (by omega)) dL_law_1328 ?_
  refine lv_aload_n hx hb dL_law_1329 rfl (lv_at hl 3 rfl) ?_
  refine zcLS (n := 3) hM hx hb hml hown hts gL_law_L_count rfl ⟨by decide, by decide, by decide⟩ ⟨Nat.le_of_ble_eq_true rfl, Nat.le_of_ble_eq_true rfl⟩ ⟨rfl, rfl⟩ hK (zsubB (cs := [zB_X4 f h u o x, zB_X1 (g 1) u t0 t1 t2 t3 t4 t5 Z, zB_X3 (g 0) h T, zB_XJ (g 2) y J]) hP [0, 1, 8, 12] rfl rfl) (zDsubB (cs := [zB_X4 f h u o x, zB_X1 (g 1) u t0 t1 t2 t3 t4 t5 Z, zB_X3 (g 0) h T, zB_XJ (g 2) y J]) hD [0, 1, 8, 12] (by decide) rfl rfl) (zDsubB (cs := [zB_X4 f h u o x, zB_X1 (g 1) u t0 t1 t2 t3 t4 t5 Z, zB_X3 (g 0) h T, zB_XJ (g 2) y J]) hD [0, 1, 8, 12] (by decide) rfl rfl) hE (fun q hq => hS.2.1 q hq (Nat.not_le.mpr hq)) hS hl.1 rfl rfl (Nat.le_of_ble_eq_true rfl) ⟨hc, hsl⟩ dL_law_1330 (fun H1 locs1 hP1 hk1 hS => ?_)
  obtain ⟨hP, hD⟩ := zjoinB (cs := [zB_X4 f h u o x, zB_X1 (g 1) u t0 t1 t2 t3 t4 t5 Z, zB_X3 (g 0) h T, zB_XJ (g 2) y J]) (cs' := [zB_X4 f h u o x, zB_X1 (g 1) u t0 t1 t2 t3 t4 t5 Z, zB_X3 (g 0) h T, zB_XJ (g 2) y J9]) hP hD [0, 1, 8, 12] (by decide) rfl rfl rfl rfl hk1 hP1
  clear hP1 hk1
  have hP : va_P D vwCl (zF (zWd g f h u o x t0 t1 t2 t3 t4 t5 uM y yd Z T0 T1 T2 T3 T4 T5 T O X M w J9 JD)) H1 := hP
  have hD : va_D (fun q : Nat => s.heap.size ≤ q) (zF (zWd g f h u o x t0 t1 t2 t3 t4 t5 uM y yd Z T0 T1 T2 T3 T4 T5 T O X M w J9 JD)) := hD
  refine lv_istore (lv' := [(6, .int k9), (0, .ref b), (1, .ref (f 0)), (2, .ref (uM 0)), (3, .ref (y 0)), (4, .ref (yd 0)), (5, .int (nI i))]) hx hb dL_law_1333 hl (by decide) rfl (fun ls hl => ?_)
  refine lv_aload_n hx hb dL_law_1335 rfl (lv_at hl 3 rfl) ?_
  refine lv_aload_n hx hb dL_law_1336 rfl (lv_at hl 1 rfl) ?_
  refine lv_iload hx hb dL_law_1337 (lv_at hl 6 rfl) ?_
  refine lv_iconst (v := 1) hx hb dL_law_1339 (by decide) ?_
  refine lv_iadd hx hb dL_law_1340 ?_
  refine va_sld hx hb hX hbl hbA hS (zlin (k := 1) (by omega) (by omega)) dL_law_1341 ?_
  refine zcVw (ci := 5) (n := 1) (c_X5_count l D g uM M w (xs (Int32.toNatClampNeg (nI i + 1))) V.ro) hx hb hml hown hts gL_law_X5_count rfl ⟨rfl, by decide, by decide, by decide⟩ ⟨Nat.le_of_ble_eq_true rfl, Nat.le_of_ble_eq_true rfl⟩ ⟨rfl, rfl⟩ hK (zsubB (cs := [zB_X5 (g 0) uM M w]) hP [11] rfl (zF1 _)) (zDsubB (cs := [zB_X5 (g 0) uM M w]) hD [11] (by decide) rfl (zF1 _)) rfl rfl rfl hS hl.1 rfl rfl (Nat.le_of_ble_eq_true rfl) ⟨hc, hsl⟩ dL_law_1342 (fun H2 locs2 hP2 hk2 hS => ?_)
  obtain ⟨hP, hD⟩ := zjoinB (cs := [zB_X5 (g 0) uM M w]) (cs' := [zB_X5 (g 0) uM (v_X5_count M (xs (Int32.toNatClampNeg (nI i + 1)))).2 w]) hP hD [11] (by decide) rfl rfl (zF1 _) (zF1 _) hk2 hP2
  clear hP2 hk2
  have hP : va_P D vwCl (zF (zWd g f h u o x t0 t1 t2 t3 t4 t5 uM y yd Z T0 T1 T2 T3 T4 T5 T O X ((v_X5_count M (xs (Int32.toNatClampNeg (nI i + 1)))).2) w J9 JD)) H2 := hP
  have hD : va_D (fun q : Nat => s.heap.size ≤ q) (zF (zWd g f h u o x t0 t1 t2 t3 t4 t5 uM y yd Z T0 T1 T2 T3 T4 T5 T O X ((v_X5_count M (xs (Int32.toNatClampNeg (nI i + 1)))).2) w J9 JD)) := hD
  refine lv_istore (lv' := [(7, .int (v_X5_count M (xs (Int32.toNatClampNeg (nI i + 1)))).1), (6, .int k9), (0, .ref b), (1, .ref (f 0)), (2, .ref (uM 0)), (3, .ref (y 0)), (4, .ref (yd 0)), (5, .int (nI i))]) hx hb dL_law_1345 hl (by decide) rfl (fun ls hl => ?_)
  refine lv_aload_n hx hb dL_law_1347 rfl (lv_at hl 4 rfl) ?_
  refine zcV (ci := 5) (n := 0) (c_X5_thrown l D g uM (v_X5_count M (xs (Int32.toNatClampNeg (nI i + 1)))).2 w) hx hb hml hown hts gL_law_X5_thrown rfl ⟨rfl, by decide, by decide, by decide⟩ ⟨Nat.le_of_ble_eq_true rfl, Nat.le_of_ble_eq_true rfl⟩ ⟨rfl, rfl⟩ hK (zsubB (cs := [zB_X5 (g 0) uM (v_X5_count M (xs (Int32.toNatClampNeg (nI i + 1)))).2 w]) hP [11] rfl (zF1 _)) rfl rfl rfl hl.1 rfl rfl (Nat.le_of_ble_eq_true rfl) ⟨hc, hsl⟩ dL_law_1348 ?_
  refine lv_iload hx hb dL_law_1351 (lv_at hl 1 rfl) ?_
  refine lv_icmp_eq (tgt := 1358) hx hb dL_law_1353 (by decide) (fun _ => ?_) (fun c9 => absurd h5.symm c9)
  refine lv_iload hx hb dL_law_1358 (lv_at hl 1 rfl) ?_
  have fin : W p l e room_1 s m #[Value.ref b] below meth c H2 locs2 (cells + 1) (slots + 6) Q (F0 m 1375 ls []) := by
    refine lv_goto (tgt := 1797) hx hb dL_law_1375 (by decide) ?_
    exact kk H2 locs2 ls Z T0 T1 T2 T3 T4 T5 T O X ((v_X5_count M (xs (Int32.toNatClampNeg (nI i + 1)))).2) w J9 JD V1 hP hD hS (lvb2 hl)
  refine lv_if_ne (tgt := 1375) hx hb dL_law_1360 (by decide) (fun _ => fin) (fun k0 => ?_)
  refine lv_aload_n hx hb dL_law_1363 rfl (lv_at hl 5 rfl) ?_
  refine lv_iconst (v := 0) hx hb dL_law_1364 (by decide) ?_
  refine va_lald hx hb hK.1 hP 93 2 rfl rfl (vp_in_nI (n := 0) (N := 1) (by decide) (by decide)) dL_law_1365 ?_
  refine lv_iload hx hb dL_law_1366 (lv_at hl 0 rfl) ?_
  refine lv_i2l hx hb dL_law_1368 rfl ?_
  refine W.lcmp hx hb dL_law_1369 ?_
  refine lv_if_eq (tgt := 1375) hx hb dL_law_1370 (by decide) (fun _ => fin) (fun c9 => absurd ?_ c9)
  exact zlg0 (hJ k0)
theorem lk_overlap {p : Program} {l : Launch} {e : Env} {s : State} {m : MethodId} {below : List Frame} {meth : Method} {c : Code} {b L : Nat} {xs : Nat → Int32} {D : va_G} {g : Nat → ClassId} {f h u o x t0 t1 t2 t3 t4 t5 uM y yd : Nat → Nat} {Q : State → Prop} {H : Heap} {locs : List Loc} {cells slots i : Nat} {ls : Array Slot} {Z T0 T1 T2 T3 T4 T5 T O X M : Nat → Nat → Int32} {w : Int64} {J : Nat → Int64} {JD : Nat → UInt64} (hx : p.tables.exec = Jvm.exec) (hb : c.code = cL_law) (hml : c.maxLocals = 9) (hown : s.vm.findClass RL = some m.cls) (hts : ∀ w ∈ wsL_law, w.before #[Value.ref b] s = true) (hX : va_X b L xs s s.heap) (hbl : b < s.heap.size) (hK : zK D (zT g) s) (hE : zE s.heap.size s) (hst : l.stackTraces = false)
    (V : zInv Z T0 T1 T2 T3 T4 T5 T X M) (hP : va_P D vwCl (zF (zWd g f h u o x t0 t1 t2 t3 t4 t5 uM y yd Z T0 T1 T2 T3 T4 T5 T O X M w J JD)) H) (hD : va_D (fun q : Nat => s.heap.size ≤ q) (zF (zWd g f h u o x t0 t1 t2 t3 t4 t5 uM y yd Z T0 T1 T2 T3 T4 T5 T O X M w J JD))) (hS : va_S (fun q : Nat => s.heap.size ≤ q) s.heap H locs) (hl : lv_has ls 9 [(0, .ref b), (1, .ref (f 0)), (2, .ref (uM 0)), (3, .ref (y 0)), (4, .ref (yd 0)), (5, .int (nI i))]) (hi : i + 4 ≤ L) (hL : L ≤ 2048) (hc : cells + 1 ≤ 601024) (hsl : slots + 6 ≤ 7293034)
    (kk : ∀ (H' : Heap) (locs' : List Loc) (ls' : Array Slot) (Z' T0' T1' T2' T3' T4' T5' T' O' X' M' : Nat → Nat → Int32) (w' : Int64) (J' : Nat → Int64) (JD' : Nat → UInt64), zInv Z' T0' T1' T2' T3' T4' T5' T' X' M' → va_P D vwCl (zF (zWd g f h u o x t0 t1 t2 t3 t4 t5 uM y yd Z' T0' T1' T2' T3' T4' T5' T' O' X' M' w' J' JD')) H' → va_D (fun q : Nat => s.heap.size ≤ q) (zF (zWd g f h u o x t0 t1 t2 t3 t4 t5 uM y yd Z' T0' T1' T2' T3' T4' T5' T' O' X' M' w' J' JD')) → va_S (fun q : Nat => s.heap.size ≤ q) s.heap H' locs' → lv_has ls' 9 [(0, .ref b), (1, .ref (f 0)), (2, .ref (uM 0)), (3, .ref (y 0)), (4, .ref (yd 0)), (5, .int (nI i))] → W p l e room_1 s m #[Value.ref b] below meth c H' locs' (cells + 1) (slots + 6) Q (F0 m 1797 ls' [])) : W p l e room_1 s m #[Value.ref b] below meth c H locs cells slots Q (F0 m 1378 ls []) := by
  have hbA : ¬ (fun q : Nat => s.heap.size ≤ q) b := Nat.not_le.mpr hbl
  obtain ⟨k9, J9, hM, h5, hJ, V1⟩ := Lr_overlap l D g s.heap.size f h u o x y T J (xs (Int32.toNatClampNeg (nI i + 1))) (xs (Int32.toNatClampNeg (nI i + 2))) Z T0 T1 T2 T3 T4 T5 X M hst V
  refine lv_aload_n hx hb dL_law_1378 rfl (lv_at hl 1 rfl) ?_
  refine lv_aload_n hx hb dL_law_1379 rfl (lv_at hl 0 rfl) ?_
  refine lv_iload hx hb dL_law_1380 (lv_at hl 5 rfl) ?_
  refine lv_iconst (v := 1) hx hb dL_law_1382 (by decide) ?_
  refine lv_iadd hx hb dL_law_1383 ?_
  refine va_sld hx hb hX hbl hbA hS (zlin (k := 1) (by omega) (by omega)) dL_law_1384 ?_
  refine lv_aload_n hx hb dL_law_1385 rfl (lv_at hl 0 rfl) ?_
  refine lv_iload hx hb dL_law_1386 (lv_at hl 5 rfl) ?_
  refine lv_iconst (v := 2) hx hb dL_law_1388 (by decide) ?_
  refine lv_iadd hx hb dL_law_1389 ?_
  refine va_sld hx hb hX hbl hbA hS (zlin (k := 2) (by omega) (by omega)) dL_law_1390 ?_
  refine lv_aload_n hx hb dL_law_1391 rfl (lv_at hl 3 rfl) ?_
  refine zcLS (n := 4) hM hx hb hml hown hts gL_law_L_overlap rfl ⟨by decide, by decide, by decide⟩ ⟨Nat.le_of_ble_eq_true rfl, Nat.le_of_ble_eq_true rfl⟩ ⟨rfl, rfl⟩ hK (zsubB (cs := [zB_X4 f h u o x, zB_X3 (g 0) h T, zB_XJ (g 2) y J]) hP [0, 8, 12] rfl rfl) (zDsubB (cs := [zB_X4 f h u o x, zB_X3 (g 0) h T, zB_XJ (g 2) y J]) hD [0, 8, 12] (by decide) rfl rfl) (zDsubB (cs := [zB_X4 f h u o x, zB_X3 (g 0) h T, zB_XJ (g 2) y J]) hD [0, 8, 12] (by decide) rfl rfl) hE (fun q hq => hS.2.1 q hq (Nat.not_le.mpr hq)) hS hl.1 rfl rfl (Nat.le_of_ble_eq_true rfl) ⟨hc, hsl⟩ dL_law_1392 (fun H1 locs1 hP1 hk1 hS => ?_)
  obtain ⟨hP, hD⟩ := zjoinB (cs := [zB_X4 f h u o x, zB_X3 (g 0) h T, zB_XJ (g 2) y J]) (cs' := [zB_X4 f h u o x, zB_X3 (g 0) h T, zB_XJ (g 2) y J9]) hP hD [0, 8, 12] (by decide) rfl rfl rfl rfl hk1 hP1
  clear hP1 hk1
  have hP : va_P D vwCl (zF (zWd g f h u o x t0 t1 t2 t3 t4 t5 uM y yd Z T0 T1 T2 T3 T4 T5 T O X M w J9 JD)) H1 := hP
  have hD : va_D (fun q : Nat => s.heap.size ≤ q) (zF (zWd g f h u o x t0 t1 t2 t3 t4 t5 uM y yd Z T0 T1 T2 T3 T4 T5 T O X M w J9 JD)) := hD
  refine lv_istore (lv' := [(6, .int k9), (0, .ref b), (1, .ref (f 0)), (2, .ref (uM 0)), (3, .ref (y 0)), (4, .ref (yd 0)), (5, .int (nI i))]) hx hb dL_law_1395 hl (by decide) rfl (fun ls hl => ?_)
  refine lv_aload_n hx hb dL_law_1397 rfl (lv_at hl 3 rfl) ?_
  refine lv_aload_n hx hb dL_law_1398 rfl (lv_at hl 1 rfl) ?_
  refine lv_iload hx hb dL_law_1399 (lv_at hl 6 rfl) ?_
  refine lv_iconst (v := 1) hx hb dL_law_1401 (by decide) ?_
  refine lv_iadd hx hb dL_law_1402 ?_
  refine va_sld hx hb hX hbl hbA hS (zlin (k := 1) (by omega) (by omega)) dL_law_1403 ?_
  refine lv_aload_n hx hb dL_law_1404 rfl (lv_at hl 1 rfl) ?_
  refine lv_iload hx hb dL_law_1405 (lv_at hl 6 rfl) ?_
  refine lv_iconst (v := 2) hx hb dL_law_1407 (by decide) ?_
  refine lv_iadd hx hb dL_law_1408 ?_
  refine va_sld hx hb hX hbl hbA hS (zlin (k := 2) (by omega) (by omega)) dL_law_1409 ?_
  refine zcVw (ci := 5) (n := 2) (c_X5_overlap l D g uM M w (xs (Int32.toNatClampNeg (nI i + 1))) (xs (Int32.toNatClampNeg (nI i + 2))) V.ro) hx hb hml hown hts gL_law_X5_overlap rfl ⟨rfl, by decide, by decide, by decide⟩ ⟨Nat.le_of_ble_eq_true rfl, Nat.le_of_ble_eq_true rfl⟩ ⟨rfl, rfl⟩ hK (zsubB (cs := [zB_X5 (g 0) uM M w]) hP [11] rfl (zF1 _)) (zDsubB (cs := [zB_X5 (g 0) uM M w]) hD [11] (by decide) rfl (zF1 _)) rfl rfl rfl hS hl.1 rfl rfl (Nat.le_of_ble_eq_true rfl) ⟨hc, hsl⟩ dL_law_1410 (fun H2 locs2 hP2 hk2 hS => ?_)
  obtain ⟨hP, hD⟩ := zjoinB (cs := [zB_X5 (g 0) uM M w]) (cs' := [zB_X5 (g 0) uM (v_X5_overlap M (xs (Int32.toNatClampNeg (nI i + 1))) (xs (Int32.toNatClampNeg (nI i + 2)))).2 w]) hP hD [11] (by decide) rfl rfl (zF1 _) (zF1 _) hk2 hP2
  clear hP2 hk2
  have hP : va_P D vwCl (zF (zWd g f h u o x t0 t1 t2 t3 t4 t5 uM y yd Z T0 T1 T2 T3 T4 T5 T O X ((v_X5_overlap M (xs (Int32.toNatClampNeg (nI i + 1))) (xs (Int32.toNatClampNeg (nI i + 2)))).2) w J9 JD)) H2 := hP
  have hD : va_D (fun q : Nat => s.heap.size ≤ q) (zF (zWd g f h u o x t0 t1 t2 t3 t4 t5 uM y yd Z T0 T1 T2 T3 T4 T5 T O X ((v_X5_overlap M (xs (Int32.toNatClampNeg (nI i + 1))) (xs (Int32.toNatClampNeg (nI i + 2)))).2) w J9 JD)) := hD
  refine lv_istore (lv' := [(7, .int (v_X5_overlap M (xs (Int32.toNatClampNeg (nI i + 1))) (xs (Int32.toNatClampNeg (nI i + 2)))).1), (6, .int k9), (0, .ref b), (1, .ref (f 0)), (2, .ref (uM 0)), (3, .ref (y 0)), (4, .ref (yd 0)), (5, .int (nI i))]) hx hb dL_law_1413 hl (by decide) rfl (fun ls hl => ?_)
  refine lv_aload_n hx hb dL_law_1415 rfl (lv_at hl 4 rfl) ?_
  refine zcV (ci := 5) (n := 0) (c_X5_thrown l D g uM (v_X5_overlap M (xs (Int32.toNatClampNeg (nI i + 1))) (xs (Int32.toNatClampNeg (nI i + 2)))).2 w) hx hb hml hown hts gL_law_X5_thrown rfl ⟨rfl, by decide, by decide, by decide⟩ ⟨Nat.le_of_ble_eq_true rfl, Nat.le_of_ble_eq_true rfl⟩ ⟨rfl, rfl⟩ hK (zsubB (cs := [zB_X5 (g 0) uM (v_X5_overlap M (xs (Int32.toNatClampNeg (nI i + 1))) (xs (Int32.toNatClampNeg (nI i + 2)))).2 w]) hP [11] rfl (zF1 _)) rfl rfl rfl hl.1 rfl rfl (Nat.le_of_ble_eq_true rfl) ⟨hc, hsl⟩ dL_law_1416 ?_
  refine lv_iload hx hb dL_law_1419 (lv_at hl 1 rfl) ?_
  refine lv_icmp_eq (tgt := 1426) hx hb dL_law_1421 (by decide) (fun _ => ?_) (fun c9 => absurd h5.symm c9)
  refine lv_iload hx hb dL_law_1426 (lv_at hl 1 rfl) ?_
  have fin : W p l e room_1 s m #[Value.ref b] below meth c H2 locs2 (cells + 1) (slots + 6) Q (F0 m 1443 ls []) := by
    refine lv_goto (tgt := 1797) hx hb dL_law_1443 (by decide) ?_
    exact kk H2 locs2 ls Z T0 T1 T2 T3 T4 T5 T O X ((v_X5_overlap M (xs (Int32.toNatClampNeg (nI i + 1))) (xs (Int32.toNatClampNeg (nI i + 2)))).2) w J9 JD V1 hP hD hS (lvb2 hl)
  refine lv_if_ne (tgt := 1443) hx hb dL_law_1428 (by decide) (fun _ => fin) (fun k0 => ?_)
  refine lv_aload_n hx hb dL_law_1431 rfl (lv_at hl 5 rfl) ?_
  refine lv_iconst (v := 0) hx hb dL_law_1432 (by decide) ?_
  refine va_lald hx hb hK.1 hP 93 2 rfl rfl (vp_in_nI (n := 0) (N := 1) (by decide) (by decide)) dL_law_1433 ?_
  refine lv_iload hx hb dL_law_1434 (lv_at hl 0 rfl) ?_
  refine lv_i2l hx hb dL_law_1436 rfl ?_
  refine W.lcmp hx hb dL_law_1437 ?_
  refine lv_if_eq (tgt := 1443) hx hb dL_law_1438 (by decide) (fun _ => fin) (fun c9 => absurd ?_ c9)
  exact zlg0 (hJ k0)
theorem lk_ifShare {p : Program} {l : Launch} {e : Env} {s : State} {m : MethodId} {below : List Frame} {meth : Method} {c : Code} {b L : Nat} {xs : Nat → Int32} {D : va_G} {g : Nat → ClassId} {f h u o x t0 t1 t2 t3 t4 t5 uM y yd : Nat → Nat} {Q : State → Prop} {H : Heap} {locs : List Loc} {cells slots i : Nat} {ls : Array Slot} {Z T0 T1 T2 T3 T4 T5 T O X M : Nat → Nat → Int32} {w : Int64} {J : Nat → Int64} {JD : Nat → UInt64} (hx : p.tables.exec = Jvm.exec) (hb : c.code = cL_law) (hml : c.maxLocals = 9) (hown : s.vm.findClass RL = some m.cls) (hts : ∀ w ∈ wsL_law, w.before #[Value.ref b] s = true) (hX : va_X b L xs s s.heap) (hbl : b < s.heap.size) (hK : zK D (zT g) s) (hE : zE s.heap.size s) (hst : l.stackTraces = false)
    (V : zInv Z T0 T1 T2 T3 T4 T5 T X M) (hP : va_P D vwCl (zF (zWd g f h u o x t0 t1 t2 t3 t4 t5 uM y yd Z T0 T1 T2 T3 T4 T5 T O X M w J JD)) H) (hD : va_D (fun q : Nat => s.heap.size ≤ q) (zF (zWd g f h u o x t0 t1 t2 t3 t4 t5 uM y yd Z T0 T1 T2 T3 T4 T5 T O X M w J JD))) (hS : va_S (fun q : Nat => s.heap.size ≤ q) s.heap H locs) (hl : lv_has ls 9 [(0, .ref b), (1, .ref (f 0)), (2, .ref (uM 0)), (3, .ref (y 0)), (4, .ref (yd 0)), (5, .int (nI i))]) (hi : i + 4 ≤ L) (hL : L ≤ 2048) (hc : cells + 1 ≤ 601024) (hsl : slots + 6 ≤ 7293034)
    (kk : ∀ (H' : Heap) (locs' : List Loc) (ls' : Array Slot) (Z' T0' T1' T2' T3' T4' T5' T' O' X' M' : Nat → Nat → Int32) (w' : Int64) (J' : Nat → Int64) (JD' : Nat → UInt64), zInv Z' T0' T1' T2' T3' T4' T5' T' X' M' → va_P D vwCl (zF (zWd g f h u o x t0 t1 t2 t3 t4 t5 uM y yd Z' T0' T1' T2' T3' T4' T5' T' O' X' M' w' J' JD')) H' → va_D (fun q : Nat => s.heap.size ≤ q) (zF (zWd g f h u o x t0 t1 t2 t3 t4 t5 uM y yd Z' T0' T1' T2' T3' T4' T5' T' O' X' M' w' J' JD')) → va_S (fun q : Nat => s.heap.size ≤ q) s.heap H' locs' → lv_has ls' 9 [(0, .ref b), (1, .ref (f 0)), (2, .ref (uM 0)), (3, .ref (y 0)), (4, .ref (yd 0)), (5, .int (nI i))] → W p l e room_1 s m #[Value.ref b] below meth c H' locs' (cells + 1) (slots + 6) Q (F0 m 1797 ls' [])) : W p l e room_1 s m #[Value.ref b] below meth c H locs cells slots Q (F0 m 1446 ls []) := by
  have hbA : ¬ (fun q : Nat => s.heap.size ≤ q) b := Nat.not_le.mpr hbl
  obtain ⟨k9, O9, J9, hM, h5, hJ, V1⟩ := Lr_ifShare l D g s.heap.size f h u o x y O T J (xs (Int32.toNatClampNeg (nI i + 1))) (xs (Int32.toNatClampNeg (nI i + 2))) Z T0 T1 T2 T3 T4 T5 X M hst V
  refine lv_aload_n hx hb dL_law_1446 rfl (lv_at hl 1 rfl) ?_
  refine lv_aload_n hx hb dL_law_1447 rfl (lv_at hl 0 rfl) ?_
  refine lv_iload hx hb dL_law_1448 (lv_at hl 5 rfl) ?_
  refine lv_iconst (v := 1) hx hb dL_law_1450 (by decide) ?_
  refine lv_iadd hx hb dL_law_1451 ?_
  refine va_sld hx hb hX hbl hbA hS (zlin (k := 1) (by omega) (by omega)) dL_law_1452 ?_
  refine lv_aload_n hx hb dL_law_1453 rfl (lv_at hl 0 rfl) ?_
  refine lv_iload hx hb dL_law_1454 (lv_at hl 5 rfl) ?_
  refine lv_iconst (v := 2) hx hb dL_law_1456 (by decide) ?_
  refine lv_iadd hx hb dL_law_1457 ?_
  refine va_sld hx hb hX hbl hbA hS (zlin (k := 2) (by omega) (by omega)) dL_law_1458 ?_
  refine lv_aload_n hx hb dL_law_1459 rfl (lv_at hl 3 rfl) ?_
  refine zcLS (n := 4) hM hx hb hml hown hts gL_law_L_ifShare rfl ⟨by decide, by decide, by decide⟩ ⟨Nat.le_of_ble_eq_true rfl, Nat.le_of_ble_eq_true rfl⟩ ⟨rfl, rfl⟩ hK (zsubB (cs := [zB_X4 f h u o x, zB_X2 (g 0) o O, zB_X3 (g 0) h T, zB_XJ (g 2) y J]) hP [0, 9, 8, 12] rfl rfl) (zDsubB (cs := [zB_X4 f h u o x, zB_X2 (g 0) o O, zB_X3 (g 0) h T, zB_XJ (g 2) y J]) hD [0, 9, 8, 12] (by decide) rfl rfl) (zDsubB (cs := [zB_X4 f h u o x, zB_X2 (g 0) o O, zB_X3 (g 0) h T, zB_XJ (g 2) y J]) hD [0, 9, 8, 12] (by decide) rfl rfl) hE (fun q hq => hS.2.1 q hq (Nat.not_le.mpr hq)) hS hl.1 rfl rfl (Nat.le_of_ble_eq_true rfl) ⟨hc, hsl⟩ dL_law_1460 (fun H1 locs1 hP1 hk1 hS => ?_)
  obtain ⟨hP, hD⟩ := zjoinB (cs := [zB_X4 f h u o x, zB_X2 (g 0) o O, zB_X3 (g 0) h T, zB_XJ (g 2) y J]) (cs' := [zB_X4 f h u o x, zB_X2 (g 0) o O9, zB_X3 (g 0) h T, zB_XJ (g 2) y J9]) hP hD [0, 9, 8, 12] (by decide) rfl rfl rfl rfl hk1 hP1
  clear hP1 hk1
  have hP : va_P D vwCl (zF (zWd g f h u o x t0 t1 t2 t3 t4 t5 uM y yd Z T0 T1 T2 T3 T4 T5 T O9 X M w J9 JD)) H1 := hP
  have hD : va_D (fun q : Nat => s.heap.size ≤ q) (zF (zWd g f h u o x t0 t1 t2 t3 t4 t5 uM y yd Z T0 T1 T2 T3 T4 T5 T O9 X M w J9 JD)) := hD
  refine lv_istore (lv' := [(6, .int k9), (0, .ref b), (1, .ref (f 0)), (2, .ref (uM 0)), (3, .ref (y 0)), (4, .ref (yd 0)), (5, .int (nI i))]) hx hb dL_law_1463 hl (by decide) rfl (fun ls hl => ?_)
  refine lv_aload_n hx hb dL_law_1465 rfl (lv_at hl 3 rfl) ?_
  refine lv_aload_n hx hb dL_law_1466 rfl (lv_at hl 1 rfl) ?_
  refine lv_iload hx hb dL_law_1467 (lv_at hl 6 rfl) ?_
  refine lv_iconst (v := 1) hx hb dL_law_1469 (by decide) ?_
  refine lv_iadd hx hb dL_law_1470 ?_
  refine va_sld hx hb hX hbl hbA hS (zlin (k := 1) (by omega) (by omega)) dL_law_1471 ?_
  refine lv_aload_n hx hb dL_law_1472 rfl (lv_at hl 1 rfl) ?_
  refine lv_iload hx hb dL_law_1473 (lv_at hl 6 rfl) ?_
  refine lv_iconst (v := 2) hx hb dL_law_1475 (by decide) ?_
  refine lv_iadd hx hb dL_law_1476 ?_
  refine va_sld hx hb hX hbl hbA hS (zlin (k := 2) (by omega) (by omega)) dL_law_1477 ?_
  refine zcVw (ci := 5) (n := 2) (c_X5_ifShare l D g uM M w (xs (Int32.toNatClampNeg (nI i + 1))) (xs (Int32.toNatClampNeg (nI i + 2))) V.ro) hx hb hml hown hts gL_law_X5_ifShare rfl ⟨rfl, by decide, by decide, by decide⟩ ⟨Nat.le_of_ble_eq_true rfl, Nat.le_of_ble_eq_true rfl⟩ ⟨rfl, rfl⟩ hK (zsubB (cs := [zB_X5 (g 0) uM M w]) hP [11] rfl (zF1 _)) (zDsubB (cs := [zB_X5 (g 0) uM M w]) hD [11] (by decide) rfl (zF1 _)) rfl rfl rfl hS hl.1 rfl rfl (Nat.le_of_ble_eq_true rfl) ⟨hc, hsl⟩ dL_law_1478 (fun H2 locs2 hP2 hk2 hS => ?_)
  obtain ⟨hP, hD⟩ := zjoinB (cs := [zB_X5 (g 0) uM M w]) (cs' := [zB_X5 (g 0) uM (v_X5_ifShare M (xs (Int32.toNatClampNeg (nI i + 1))) (xs (Int32.toNatClampNeg (nI i + 2)))).2 w]) hP hD [11] (by decide) rfl rfl (zF1 _) (zF1 _) hk2 hP2
  clear hP2 hk2
  have hP : va_P D vwCl (zF (zWd g f h u o x t0 t1 t2 t3 t4 t5 uM y yd Z T0 T1 T2 T3 T4 T5 T O9 X ((v_X5_ifShare M (xs (Int32.toNatClampNeg (nI i + 1))) (xs (Int32.toNatClampNeg (nI i + 2)))).2) w J9 JD)) H2 := hP
  have hD : va_D (fun q : Nat => s.heap.size ≤ q) (zF (zWd g f h u o x t0 t1 t2 t3 t4 t5 uM y yd Z T0 T1 T2 T3 T4 T5 T O9 X ((v_X5_ifShare M (xs (Int32.toNatClampNeg (nI i + 1))) (xs (Int32.toNatClampNeg (nI i + 2)))).2) w J9 JD)) := hD
  refine lv_istore (lv' := [(7, .int (v_X5_ifShare M (xs (Int32.toNatClampNeg (nI i + 1))) (xs (Int32.toNatClampNeg (nI i + 2)))).1), (6, .int k9), (0, .ref b), (1, .ref (f 0)), (2, .ref (uM 0)), (3, .ref (y 0)), (4, .ref (yd 0)), (5, .int (nI i))]) hx hb dL_law_1481 hl (by decide) rfl (fun ls hl => ?_)
  refine lv_aload_n hx hb dL_law_1483 rfl (lv_at hl 4 rfl) ?_
  refine zcV (ci := 5) (n := 0) (c_X5_thrown l D g uM (v_X5_ifShare M (xs (Int32.toNatClampNeg (nI i + 1))) (xs (Int32.toNatClampNeg (nI i + 2)))).2 w) hx hb hml hown hts gL_law_X5_thrown rfl ⟨rfl, by decide, by decide, by decide⟩ ⟨Nat.le_of_ble_eq_true rfl, Nat.le_of_ble_eq_true rfl⟩ ⟨rfl, rfl⟩ hK (zsubB (cs := [zB_X5 (g 0) uM (v_X5_ifShare M (xs (Int32.toNatClampNeg (nI i + 1))) (xs (Int32.toNatClampNeg (nI i + 2)))).2 w]) hP [11] rfl (zF1 _)) rfl rfl rfl hl.1 rfl rfl (Nat.le_of_ble_eq_true rfl) ⟨hc, hsl⟩ dL_law_1484 ?_
  refine lv_iload hx hb dL_law_1487 (lv_at hl 1 rfl) ?_
  refine lv_icmp_eq (tgt := 1494) hx hb dL_law_1489 (by decide) (fun _ => ?_) (fun c9 => absurd h5.symm c9)
  refine lv_iload hx hb dL_law_1494 (lv_at hl 1 rfl) ?_
  have fin : W p l e room_1 s m #[Value.ref b] below meth c H2 locs2 (cells + 1) (slots + 6) Q (F0 m 1511 ls []) := by
    refine lv_goto (tgt := 1797) hx hb dL_law_1511 (by decide) ?_
    exact kk H2 locs2 ls Z T0 T1 T2 T3 T4 T5 T O9 X ((v_X5_ifShare M (xs (Int32.toNatClampNeg (nI i + 1))) (xs (Int32.toNatClampNeg (nI i + 2)))).2) w J9 JD V1 hP hD hS (lvb2 hl)
  refine lv_if_ne (tgt := 1511) hx hb dL_law_1496 (by decide) (fun _ => fin) (fun k0 => ?_)
  refine lv_aload_n hx hb dL_law_1499 rfl (lv_at hl 5 rfl) ?_
  refine lv_iconst (v := 0) hx hb dL_law_1500 (by decide) ?_
  refine va_lald hx hb hK.1 hP 93 2 rfl rfl (vp_in_nI (n := 0) (N := 1) (by decide) (by decide)) dL_law_1501 ?_
  refine lv_iload hx hb dL_law_1502 (lv_at hl 0 rfl) ?_
  refine lv_i2l hx hb dL_law_1504 rfl ?_
  refine W.lcmp hx hb dL_law_1505 ?_
  refine lv_if_eq (tgt := 1511) hx hb dL_law_1506 (by decide) (fun _ => fin) (fun c9 => absurd ?_ c9)
  exact zlg0 (hJ k0)
theorem lk_shareFor {p : Program} {l : Launch} {e : Env} {s : State} {m : MethodId} {below : List Frame} {meth : Method} {c : Code} {b L : Nat} {xs : Nat → Int32} {D : va_G} {g : Nat → ClassId} {f h u o x t0 t1 t2 t3 t4 t5 uM y yd : Nat → Nat} {Q : State → Prop} {H : Heap} {locs : List Loc} {cells slots i : Nat} {ls : Array Slot} {Z T0 T1 T2 T3 T4 T5 T O X M : Nat → Nat → Int32} {w : Int64} {J : Nat → Int64} {JD : Nat → UInt64} (hx : p.tables.exec = Jvm.exec) (hb : c.code = cL_law) (hml : c.maxLocals = 9) (hown : s.vm.findClass RL = some m.cls) (hts : ∀ w ∈ wsL_law, w.before #[Value.ref b] s = true) (hX : va_X b L xs s s.heap) (hbl : b < s.heap.size) (hK : zK D (zT g) s) (hE : zE s.heap.size s) (hst : l.stackTraces = false)
    (V : zInv Z T0 T1 T2 T3 T4 T5 T X M) (hP : va_P D vwCl (zF (zWd g f h u o x t0 t1 t2 t3 t4 t5 uM y yd Z T0 T1 T2 T3 T4 T5 T O X M w J JD)) H) (hD : va_D (fun q : Nat => s.heap.size ≤ q) (zF (zWd g f h u o x t0 t1 t2 t3 t4 t5 uM y yd Z T0 T1 T2 T3 T4 T5 T O X M w J JD))) (hS : va_S (fun q : Nat => s.heap.size ≤ q) s.heap H locs) (hl : lv_has ls 9 [(0, .ref b), (1, .ref (f 0)), (2, .ref (uM 0)), (3, .ref (y 0)), (4, .ref (yd 0)), (5, .int (nI i))]) (hi : i + 4 ≤ L) (hL : L ≤ 2048) (hc : cells + 1 ≤ 601024) (hsl : slots + 6 ≤ 7293034)
    (kk : ∀ (H' : Heap) (locs' : List Loc) (ls' : Array Slot) (Z' T0' T1' T2' T3' T4' T5' T' O' X' M' : Nat → Nat → Int32) (w' : Int64) (J' : Nat → Int64) (JD' : Nat → UInt64), zInv Z' T0' T1' T2' T3' T4' T5' T' X' M' → va_P D vwCl (zF (zWd g f h u o x t0 t1 t2 t3 t4 t5 uM y yd Z' T0' T1' T2' T3' T4' T5' T' O' X' M' w' J' JD')) H' → va_D (fun q : Nat => s.heap.size ≤ q) (zF (zWd g f h u o x t0 t1 t2 t3 t4 t5 uM y yd Z' T0' T1' T2' T3' T4' T5' T' O' X' M' w' J' JD')) → va_S (fun q : Nat => s.heap.size ≤ q) s.heap H' locs' → lv_has ls' 9 [(0, .ref b), (1, .ref (f 0)), (2, .ref (uM 0)), (3, .ref (y 0)), (4, .ref (yd 0)), (5, .int (nI i))] → W p l e room_1 s m #[Value.ref b] below meth c H' locs' (cells + 1) (slots + 6) Q (F0 m 1797 ls' [])) : W p l e room_1 s m #[Value.ref b] below meth c H locs cells slots Q (F0 m 1514 ls []) := by
  have hbA : ¬ (fun q : Nat => s.heap.size ≤ q) b := Nat.not_le.mpr hbl
  obtain ⟨k9, O9, J9, hM, h5, hJ, V1⟩ := Lr_shareFor l D g s.heap.size f h u o x y O T J (xs (Int32.toNatClampNeg (nI i + 1))) (xs (Int32.toNatClampNeg (nI i + 2))) Z T0 T1 T2 T3 T4 T5 X M hst V
  refine lv_aload_n hx hb dL_law_1514 rfl (lv_at hl 1 rfl) ?_
  refine lv_aload_n hx hb dL_law_1515 rfl (lv_at hl 0 rfl) ?_
  refine lv_iload hx hb dL_law_1516 (lv_at hl 5 rfl) ?_
  refine lv_iconst (v := 1) hx hb dL_law_1518 (by decide) ?_
  refine lv_iadd hx hb dL_law_1519 ?_
  refine va_sld hx hb hX hbl hbA hS (zlin (k := 1) (by omega) (by omega)) dL_law_1520 ?_
  refine lv_aload_n hx hb dL_law_1521 rfl (lv_at hl 0 rfl) ?_
  refine lv_iload hx hb dL_law_1522 (lv_at hl 5 rfl) ?_
  refine lv_iconst (v := 2) hx hb dL_law_1524 (by decide) ?_
  refine lv_iadd hx hb dL_law_1525 ?_
  refine va_sld hx hb hX hbl hbA hS (zlin (k := 2) (by omega) (by omega)) dL_law_1526 ?_
  refine lv_aload_n hx hb dL_law_1527 rfl (lv_at hl 3 rfl) ?_
  refine zcLS (n := 4) hM hx hb hml hown hts gL_law_L_shareFor rfl ⟨by decide, by decide, by decide⟩ ⟨Nat.le_of_ble_eq_true rfl, Nat.le_of_ble_eq_true rfl⟩ ⟨rfl, rfl⟩ hK (zsubB (cs := [zB_X4 f h u o x, zB_X2 (g 0) o O, zB_X3 (g 0) h T, zB_XJ (g 2) y J]) hP [0, 9, 8, 12] rfl rfl) (zDsubB (cs := [zB_X4 f h u o x, zB_X2 (g 0) o O, zB_X3 (g 0) h T, zB_XJ (g 2) y J]) hD [0, 9, 8, 12] (by decide) rfl rfl) (zDsubB (cs := [zB_X4 f h u o x, zB_X2 (g 0) o O, zB_X3 (g 0) h T, zB_XJ (g 2) y J]) hD [0, 9, 8, 12] (by decide) rfl rfl) hE (fun q hq => hS.2.1 q hq (Nat.not_le.mpr hq)) hS hl.1 rfl rfl (Nat.le_of_ble_eq_true rfl) ⟨hc, hsl⟩ dL_law_1528 (fun H1 locs1 hP1 hk1 hS => ?_)
  obtain ⟨hP, hD⟩ := zjoinB (cs := [zB_X4 f h u o x, zB_X2 (g 0) o O, zB_X3 (g 0) h T, zB_XJ (g 2) y J]) (cs' := [zB_X4 f h u o x, zB_X2 (g 0) o O9, zB_X3 (g 0) h T, zB_XJ (g 2) y J9]) hP hD [0, 9, 8, 12] (by decide) rfl rfl rfl rfl hk1 hP1
  clear hP1 hk1
  have hP : va_P D vwCl (zF (zWd g f h u o x t0 t1 t2 t3 t4 t5 uM y yd Z T0 T1 T2 T3 T4 T5 T O9 X M w J9 JD)) H1 := hP
  have hD : va_D (fun q : Nat => s.heap.size ≤ q) (zF (zWd g f h u o x t0 t1 t2 t3 t4 t5 uM y yd Z T0 T1 T2 T3 T4 T5 T O9 X M w J9 JD)) := hD
  refine lv_istore (lv' := [(6, .int k9), (0, .ref b), (1, .ref (f 0)), (2, .ref (uM 0)), (3, .ref (y 0)), (4, .ref (yd 0)), (5, .int (nI i))]) hx hb dL_law_1531 hl (by decide) rfl (fun ls hl => ?_)
  refine lv_aload_n hx hb dL_law_1533 rfl (lv_at hl 3 rfl) ?_
  refine lv_aload_n hx hb dL_law_1534 rfl (lv_at hl 1 rfl) ?_
  refine lv_iload hx hb dL_law_1535 (lv_at hl 6 rfl) ?_
  refine lv_iconst (v := 1) hx hb dL_law_1537 (by decide) ?_
  refine lv_iadd hx hb dL_law_1538 ?_
  refine va_sld hx hb hX hbl hbA hS (zlin (k := 1) (by omega) (by omega)) dL_law_1539 ?_
  refine lv_aload_n hx hb dL_law_1540 rfl (lv_at hl 1 rfl) ?_
  refine lv_iload hx hb dL_law_1541 (lv_at hl 6 rfl) ?_
  refine lv_iconst (v := 2) hx hb dL_law_1543 (by decide) ?_
  refine lv_iadd hx hb dL_law_1544 ?_
  refine va_sld hx hb hX hbl hbA hS (zlin (k := 2) (by omega) (by omega)) dL_law_1545 ?_
  refine zcVw (ci := 5) (n := 2) (c_X5_shareFor l D g uM M w (xs (Int32.toNatClampNeg (nI i + 1))) (xs (Int32.toNatClampNeg (nI i + 2))) V.ro) hx hb hml hown hts gL_law_X5_shareFor rfl ⟨rfl, by decide, by decide, by decide⟩ ⟨Nat.le_of_ble_eq_true rfl, Nat.le_of_ble_eq_true rfl⟩ ⟨rfl, rfl⟩ hK (zsubB (cs := [zB_X5 (g 0) uM M w]) hP [11] rfl (zF1 _)) (zDsubB (cs := [zB_X5 (g 0) uM M w]) hD [11] (by decide) rfl (zF1 _)) rfl rfl rfl hS hl.1 rfl rfl (Nat.le_of_ble_eq_true rfl) ⟨hc, hsl⟩ dL_law_1546 (fun H2 locs2 hP2 hk2 hS => ?_)
  obtain ⟨hP, hD⟩ := zjoinB (cs := [zB_X5 (g 0) uM M w]) (cs' := [zB_X5 (g 0) uM (v_X5_shareFor M (xs (Int32.toNatClampNeg (nI i + 1))) (xs (Int32.toNatClampNeg (nI i + 2)))).2 w]) hP hD [11] (by decide) rfl rfl (zF1 _) (zF1 _) hk2 hP2
  clear hP2 hk2
  have hP : va_P D vwCl (zF (zWd g f h u o x t0 t1 t2 t3 t4 t5 uM y yd Z T0 T1 T2 T3 T4 T5 T O9 X ((v_X5_shareFor M (xs (Int32.toNatClampNeg (nI i + 1))) (xs (Int32.toNatClampNeg (nI i + 2)))).2) w J9 JD)) H2 := hP
  have hD : va_D (fun q : Nat => s.heap.size ≤ q) (zF (zWd g f h u o x t0 t1 t2 t3 t4 t5 uM y yd Z T0 T1 T2 T3 T4 T5 T O9 X ((v_X5_shareFor M (xs (Int32.toNatClampNeg (nI i + 1))) (xs (Int32.toNatClampNeg (nI i + 2)))).2) w J9 JD)) := hD
  refine lv_istore (lv' := [(7, .int (v_X5_shareFor M (xs (Int32.toNatClampNeg (nI i + 1))) (xs (Int32.toNatClampNeg (nI i + 2)))).1), (6, .int k9), (0, .ref b), (1, .ref (f 0)), (2, .ref (uM 0)), (3, .ref (y 0)), (4, .ref (yd 0)), (5, .int (nI i))]) hx hb dL_law_1549 hl (by decide) rfl (fun ls hl => ?_)
  refine lv_aload_n hx hb dL_law_1551 rfl (lv_at hl 4 rfl) ?_
  refine zcV (ci := 5) (n := 0) (c_X5_thrown l D g uM (v_X5_shareFor M (xs (Int32.toNatClampNeg (nI i + 1))) (xs (Int32.toNatClampNeg (nI i + 2)))).2 w) hx hb hml hown hts gL_law_X5_thrown rfl ⟨rfl, by decide, by decide, by decide⟩ ⟨Nat.le_of_ble_eq_true rfl, Nat.le_of_ble_eq_true rfl⟩ ⟨rfl, rfl⟩ hK (zsubB (cs := [zB_X5 (g 0) uM (v_X5_shareFor M (xs (Int32.toNatClampNeg (nI i + 1))) (xs (Int32.toNatClampNeg (nI i + 2)))).2 w]) hP [11] rfl (zF1 _)) rfl rfl rfl hl.1 rfl rfl (Nat.le_of_ble_eq_true rfl) ⟨hc, hsl⟩ dL_law_1552 ?_
  refine lv_iload hx hb dL_law_1555 (lv_at hl 1 rfl) ?_
  refine lv_icmp_eq (tgt := 1562) hx hb dL_law_1557 (by decide) (fun _ => ?_) (fun c9 => absurd h5.symm c9)
  refine lv_iload hx hb dL_law_1562 (lv_at hl 1 rfl) ?_
  have fin : W p l e room_1 s m #[Value.ref b] below meth c H2 locs2 (cells + 1) (slots + 6) Q (F0 m 1579 ls []) := by
    refine lv_goto (tgt := 1797) hx hb dL_law_1579 (by decide) ?_
    exact kk H2 locs2 ls Z T0 T1 T2 T3 T4 T5 T O9 X ((v_X5_shareFor M (xs (Int32.toNatClampNeg (nI i + 1))) (xs (Int32.toNatClampNeg (nI i + 2)))).2) w J9 JD V1 hP hD hS (lvb2 hl)
  refine lv_if_ne (tgt := 1579) hx hb dL_law_1564 (by decide) (fun _ => fin) (fun k0 => ?_)
  refine lv_aload_n hx hb dL_law_1567 rfl (lv_at hl 5 rfl) ?_
  refine lv_iconst (v := 0) hx hb dL_law_1568 (by decide) ?_
  refine va_lald hx hb hK.1 hP 93 2 rfl rfl (vp_in_nI (n := 0) (N := 1) (by decide) (by decide)) dL_law_1569 ?_
  refine lv_iload hx hb dL_law_1570 (lv_at hl 0 rfl) ?_
  refine lv_i2l hx hb dL_law_1572 rfl ?_
  refine W.lcmp hx hb dL_law_1573 ?_
  refine lv_if_eq (tgt := 1579) hx hb dL_law_1574 (by decide) (fun _ => fin) (fun c9 => absurd ?_ c9)
  exact zlg0 (hJ k0)
theorem lk_bestSalt {p : Program} {l : Launch} {e : Env} {s : State} {m : MethodId} {below : List Frame} {meth : Method} {c : Code} {b L : Nat} {xs : Nat → Int32} {D : va_G} {g : Nat → ClassId} {f h u o x t0 t1 t2 t3 t4 t5 uM y yd : Nat → Nat} {Q : State → Prop} {H : Heap} {locs : List Loc} {cells slots i : Nat} {ls : Array Slot} {Z T0 T1 T2 T3 T4 T5 T O X M : Nat → Nat → Int32} {w : Int64} {J : Nat → Int64} {JD : Nat → UInt64} (hx : p.tables.exec = Jvm.exec) (hb : c.code = cL_law) (hml : c.maxLocals = 9) (hown : s.vm.findClass RL = some m.cls) (hts : ∀ w ∈ wsL_law, w.before #[Value.ref b] s = true) (hX : va_X b L xs s s.heap) (hbl : b < s.heap.size) (hK : zK D (zT g) s) (hE : zE s.heap.size s) (hst : l.stackTraces = false)
    (V : zInv Z T0 T1 T2 T3 T4 T5 T X M) (hP : va_P D vwCl (zF (zWd g f h u o x t0 t1 t2 t3 t4 t5 uM y yd Z T0 T1 T2 T3 T4 T5 T O X M w J JD)) H) (hD : va_D (fun q : Nat => s.heap.size ≤ q) (zF (zWd g f h u o x t0 t1 t2 t3 t4 t5 uM y yd Z T0 T1 T2 T3 T4 T5 T O X M w J JD))) (hS : va_S (fun q : Nat => s.heap.size ≤ q) s.heap H locs) (hl : lv_has ls 9 [(0, .ref b), (1, .ref (f 0)), (2, .ref (uM 0)), (3, .ref (y 0)), (4, .ref (yd 0)), (5, .int (nI i))]) (hi : i + 4 ≤ L) (hL : L ≤ 2048) (hc : cells + 1 ≤ 601024) (hsl : slots + 6 ≤ 7293034)
    (kk : ∀ (H' : Heap) (locs' : List Loc) (ls' : Array Slot) (Z' T0' T1' T2' T3' T4' T5' T' O' X' M' : Nat → Nat → Int32) (w' : Int64) (J' : Nat → Int64) (JD' : Nat → UInt64), zInv Z' T0' T1' T2' T3' T4' T5' T' X' M' → va_P D vwCl (zF (zWd g f h u o x t0 t1 t2 t3 t4 t5 uM y yd Z' T0' T1' T2' T3' T4' T5' T' O' X' M' w' J' JD')) H' → va_D (fun q : Nat => s.heap.size ≤ q) (zF (zWd g f h u o x t0 t1 t2 t3 t4 t5 uM y yd Z' T0' T1' T2' T3' T4' T5' T' O' X' M' w' J' JD')) → va_S (fun q : Nat => s.heap.size ≤ q) s.heap H' locs' → lv_has ls' 9 [(0, .ref b), (1, .ref (f 0)), (2, .ref (uM 0)), (3, .ref (y 0)), (4, .ref (yd 0)), (5, .int (nI i))] → W p l e room_1 s m #[Value.ref b] below meth c H' locs' (cells + 1) (slots + 6) Q (F0 m 1797 ls' [])) : W p l e room_1 s m #[Value.ref b] below meth c H locs cells slots Q (F0 m 1582 ls []) := by
  have hbA : ¬ (fun q : Nat => s.heap.size ≤ q) b := Nat.not_le.mpr hbl
  obtain ⟨k9, J9, hM, h5, hJ, V1⟩ := Lr_bestSalt l D g s.heap.size f h u o x y T J (xs (Int32.toNatClampNeg (nI i + 1))) (xs (Int32.toNatClampNeg (nI i + 2))) Z T0 T1 T2 T3 T4 T5 X M hst V
  refine lv_aload_n hx hb dL_law_1582 rfl (lv_at hl 1 rfl) ?_
  refine lv_aload_n hx hb dL_law_1583 rfl (lv_at hl 0 rfl) ?_
  refine lv_iload hx hb dL_law_1584 (lv_at hl 5 rfl) ?_
  refine lv_iconst (v := 1) hx hb dL_law_1586 (by decide) ?_
  refine lv_iadd hx hb dL_law_1587 ?_
  refine va_sld hx hb hX hbl hbA hS (zlin (k := 1) (by omega) (by omega)) dL_law_1588 ?_
  refine lv_aload_n hx hb dL_law_1589 rfl (lv_at hl 0 rfl) ?_
  refine lv_iload hx hb dL_law_1590 (lv_at hl 5 rfl) ?_
  refine lv_iconst (v := 2) hx hb dL_law_1592 (by decide) ?_
  refine lv_iadd hx hb dL_law_1593 ?_
  refine va_sld hx hb hX hbl hbA hS (zlin (k := 2) (by omega) (by omega)) dL_law_1594 ?_
  refine lv_aload_n hx hb dL_law_1595 rfl (lv_at hl 3 rfl) ?_
  refine zcLS (n := 4) hM hx hb hml hown hts gL_law_L_bestSalt rfl ⟨by decide, by decide, by decide⟩ ⟨Nat.le_of_ble_eq_true rfl, Nat.le_of_ble_eq_true rfl⟩ ⟨rfl, rfl⟩ hK (zsubB (cs := [zB_X4 f h u o x, zB_X3 (g 0) h T, zB_XJ (g 2) y J]) hP [0, 8, 12] rfl rfl) (zDsubB (cs := [zB_X4 f h u o x, zB_X3 (g 0) h T, zB_XJ (g 2) y J]) hD [0, 8, 12] (by decide) rfl rfl) (zDsubB (cs := [zB_X4 f h u o x, zB_X3 (g 0) h T, zB_XJ (g 2) y J]) hD [0, 8, 12] (by decide) rfl rfl) hE (fun q hq => hS.2.1 q hq (Nat.not_le.mpr hq)) hS hl.1 rfl rfl (Nat.le_of_ble_eq_true rfl) ⟨hc, hsl⟩ dL_law_1596 (fun H1 locs1 hP1 hk1 hS => ?_)
  obtain ⟨hP, hD⟩ := zjoinB (cs := [zB_X4 f h u o x, zB_X3 (g 0) h T, zB_XJ (g 2) y J]) (cs' := [zB_X4 f h u o x, zB_X3 (g 0) h T, zB_XJ (g 2) y J9]) hP hD [0, 8, 12] (by decide) rfl rfl rfl rfl hk1 hP1
  clear hP1 hk1
  have hP : va_P D vwCl (zF (zWd g f h u o x t0 t1 t2 t3 t4 t5 uM y yd Z T0 T1 T2 T3 T4 T5 T O X M w J9 JD)) H1 := hP
  have hD : va_D (fun q : Nat => s.heap.size ≤ q) (zF (zWd g f h u o x t0 t1 t2 t3 t4 t5 uM y yd Z T0 T1 T2 T3 T4 T5 T O X M w J9 JD)) := hD
  refine lv_istore (lv' := [(6, .int k9), (0, .ref b), (1, .ref (f 0)), (2, .ref (uM 0)), (3, .ref (y 0)), (4, .ref (yd 0)), (5, .int (nI i))]) hx hb dL_law_1599 hl (by decide) rfl (fun ls hl => ?_)
  refine lv_aload_n hx hb dL_law_1601 rfl (lv_at hl 3 rfl) ?_
  refine lv_aload_n hx hb dL_law_1602 rfl (lv_at hl 1 rfl) ?_
  refine lv_iload hx hb dL_law_1603 (lv_at hl 6 rfl) ?_
  refine lv_iconst (v := 1) hx hb dL_law_1605 (by decide) ?_
  refine lv_iadd hx hb dL_law_1606 ?_
  refine va_sld hx hb hX hbl hbA hS (zlin (k := 1) (by omega) (by omega)) dL_law_1607 ?_
  refine lv_aload_n hx hb dL_law_1608 rfl (lv_at hl 1 rfl) ?_
  refine lv_iload hx hb dL_law_1609 (lv_at hl 6 rfl) ?_
  refine lv_iconst (v := 2) hx hb dL_law_1611 (by decide) ?_
  refine lv_iadd hx hb dL_law_1612 ?_
  refine va_sld hx hb hX hbl hbA hS (zlin (k := 2) (by omega) (by omega)) dL_law_1613 ?_
  refine zcVw (ci := 5) (n := 2) (c_X5_bestSalt l D g uM M w (xs (Int32.toNatClampNeg (nI i + 1))) (xs (Int32.toNatClampNeg (nI i + 2))) V.ro) hx hb hml hown hts gL_law_X5_bestSalt rfl ⟨rfl, by decide, by decide, by decide⟩ ⟨Nat.le_of_ble_eq_true rfl, Nat.le_of_ble_eq_true rfl⟩ ⟨rfl, rfl⟩ hK (zsubB (cs := [zB_X5 (g 0) uM M w]) hP [11] rfl (zF1 _)) (zDsubB (cs := [zB_X5 (g 0) uM M w]) hD [11] (by decide) rfl (zF1 _)) rfl rfl rfl hS hl.1 rfl rfl (Nat.le_of_ble_eq_true rfl) ⟨hc, hsl⟩ dL_law_1614 (fun H2 locs2 hP2 hk2 hS => ?_)
  obtain ⟨hP, hD⟩ := zjoinB (cs := [zB_X5 (g 0) uM M w]) (cs' := [zB_X5 (g 0) uM (v_X5_bestSalt M (xs (Int32.toNatClampNeg (nI i + 1))) (xs (Int32.toNatClampNeg (nI i + 2)))).2 w]) hP hD [11] (by decide) rfl rfl (zF1 _) (zF1 _) hk2 hP2
  clear hP2 hk2
  have hP : va_P D vwCl (zF (zWd g f h u o x t0 t1 t2 t3 t4 t5 uM y yd Z T0 T1 T2 T3 T4 T5 T O X ((v_X5_bestSalt M (xs (Int32.toNatClampNeg (nI i + 1))) (xs (Int32.toNatClampNeg (nI i + 2)))).2) w J9 JD)) H2 := hP
  have hD : va_D (fun q : Nat => s.heap.size ≤ q) (zF (zWd g f h u o x t0 t1 t2 t3 t4 t5 uM y yd Z T0 T1 T2 T3 T4 T5 T O X ((v_X5_bestSalt M (xs (Int32.toNatClampNeg (nI i + 1))) (xs (Int32.toNatClampNeg (nI i + 2)))).2) w J9 JD)) := hD
  refine lv_istore (lv' := [(7, .int (v_X5_bestSalt M (xs (Int32.toNatClampNeg (nI i + 1))) (xs (Int32.toNatClampNeg (nI i + 2)))).1), (6, .int k9), (0, .ref b), (1, .ref (f 0)), (2, .ref (uM 0)), (3, .ref (y 0)), (4, .ref (yd 0)), (5, .int (nI i))]) hx hb dL_law_1617 hl (by decide) rfl (fun ls hl => ?_)
  refine lv_aload_n hx hb dL_law_1619 rfl (lv_at hl 4 rfl) ?_
  refine zcV (ci := 5) (n := 0) (c_X5_thrown l D g uM (v_X5_bestSalt M (xs (Int32.toNatClampNeg (nI i + 1))) (xs (Int32.toNatClampNeg (nI i + 2)))).2 w) hx hb hml hown hts gL_law_X5_thrown rfl ⟨rfl, by decide, by decide, by decide⟩ ⟨Nat.le_of_ble_eq_true rfl, Nat.le_of_ble_eq_true rfl⟩ ⟨rfl, rfl⟩ hK (zsubB (cs := [zB_X5 (g 0) uM (v_X5_bestSalt M (xs (Int32.toNatClampNeg (nI i + 1))) (xs (Int32.toNatClampNeg (nI i + 2)))).2 w]) hP [11] rfl (zF1 _)) rfl rfl rfl hl.1 rfl rfl (Nat.le_of_ble_eq_true rfl) ⟨hc, hsl⟩ dL_law_1620 ?_
  refine lv_iload hx hb dL_law_1623 (lv_at hl 1 rfl) ?_
  refine lv_icmp_eq (tgt := 1630) hx hb dL_law_1625 (by decide) (fun _ => ?_) (fun c9 => absurd h5.symm c9)
  refine lv_iload hx hb dL_law_1630 (lv_at hl 1 rfl) ?_
  have fin : W p l e room_1 s m #[Value.ref b] below meth c H2 locs2 (cells + 1) (slots + 6) Q (F0 m 1647 ls []) := by
    refine lv_goto (tgt := 1797) hx hb dL_law_1647 (by decide) ?_
    exact kk H2 locs2 ls Z T0 T1 T2 T3 T4 T5 T O X ((v_X5_bestSalt M (xs (Int32.toNatClampNeg (nI i + 1))) (xs (Int32.toNatClampNeg (nI i + 2)))).2) w J9 JD V1 hP hD hS (lvb2 hl)
  refine lv_if_ne (tgt := 1647) hx hb dL_law_1632 (by decide) (fun _ => fin) (fun k0 => ?_)
  refine lv_aload_n hx hb dL_law_1635 rfl (lv_at hl 5 rfl) ?_
  refine lv_iconst (v := 0) hx hb dL_law_1636 (by decide) ?_
  refine va_lald hx hb hK.1 hP 93 2 rfl rfl (vp_in_nI (n := 0) (N := 1) (by decide) (by decide)) dL_law_1637 ?_
  refine lv_iload hx hb dL_law_1638 (lv_at hl 0 rfl) ?_
  refine lv_i2l hx hb dL_law_1640 rfl ?_
  refine W.lcmp hx hb dL_law_1641 ?_
  refine lv_if_eq (tgt := 1647) hx hb dL_law_1642 (by decide) (fun _ => fin) (fun c9 => absurd ?_ c9)
  exact zlg0 (hJ k0)
theorem lk_nextEater {p : Program} {l : Launch} {e : Env} {s : State} {m : MethodId} {below : List Frame} {meth : Method} {c : Code} {b L : Nat} {xs : Nat → Int32} {D : va_G} {g : Nat → ClassId} {f h u o x t0 t1 t2 t3 t4 t5 uM y yd : Nat → Nat} {Q : State → Prop} {H : Heap} {locs : List Loc} {cells slots i : Nat} {ls : Array Slot} {Z T0 T1 T2 T3 T4 T5 T O X M : Nat → Nat → Int32} {w : Int64} {J : Nat → Int64} {JD : Nat → UInt64} (hx : p.tables.exec = Jvm.exec) (hb : c.code = cL_law) (hml : c.maxLocals = 9) (hown : s.vm.findClass RL = some m.cls) (hts : ∀ w ∈ wsL_law, w.before #[Value.ref b] s = true) (hX : va_X b L xs s s.heap) (hbl : b < s.heap.size) (hK : zK D (zT g) s) (hE : zE s.heap.size s) (hst : l.stackTraces = false)
    (V : zInv Z T0 T1 T2 T3 T4 T5 T X M) (hP : va_P D vwCl (zF (zWd g f h u o x t0 t1 t2 t3 t4 t5 uM y yd Z T0 T1 T2 T3 T4 T5 T O X M w J JD)) H) (hD : va_D (fun q : Nat => s.heap.size ≤ q) (zF (zWd g f h u o x t0 t1 t2 t3 t4 t5 uM y yd Z T0 T1 T2 T3 T4 T5 T O X M w J JD))) (hS : va_S (fun q : Nat => s.heap.size ≤ q) s.heap H locs) (hl : lv_has ls 9 [(0, .ref b), (1, .ref (f 0)), (2, .ref (uM 0)), (3, .ref (y 0)), (4, .ref (yd 0)), (5, .int (nI i))]) (hi : i + 4 ≤ L) (hL : L ≤ 2048) (hc : cells + 1 ≤ 601024) (hsl : slots + 6 ≤ 7293034)
    (kk : ∀ (H' : Heap) (locs' : List Loc) (ls' : Array Slot) (Z' T0' T1' T2' T3' T4' T5' T' O' X' M' : Nat → Nat → Int32) (w' : Int64) (J' : Nat → Int64) (JD' : Nat → UInt64), zInv Z' T0' T1' T2' T3' T4' T5' T' X' M' → va_P D vwCl (zF (zWd g f h u o x t0 t1 t2 t3 t4 t5 uM y yd Z' T0' T1' T2' T3' T4' T5' T' O' X' M' w' J' JD')) H' → va_D (fun q : Nat => s.heap.size ≤ q) (zF (zWd g f h u o x t0 t1 t2 t3 t4 t5 uM y yd Z' T0' T1' T2' T3' T4' T5' T' O' X' M' w' J' JD')) → va_S (fun q : Nat => s.heap.size ≤ q) s.heap H' locs' → lv_has ls' 9 [(0, .ref b), (1, .ref (f 0)), (2, .ref (uM 0)), (3, .ref (y 0)), (4, .ref (yd 0)), (5, .int (nI i))] → W p l e room_1 s m #[Value.ref b] below meth c H' locs' (cells + 1) (slots + 6) Q (F0 m 1797 ls' [])) : W p l e room_1 s m #[Value.ref b] below meth c H locs cells slots Q (F0 m 1650 ls []) := by
  have hbA : ¬ (fun q : Nat => s.heap.size ≤ q) b := Nat.not_le.mpr hbl
  obtain ⟨k9, O9, J9, hM, h5, hJ, V1⟩ := Lr_nextEater l D g s.heap.size f h u o x y O T J (xs (Int32.toNatClampNeg (nI i + 1))) Z T0 T1 T2 T3 T4 T5 X M hst V
  refine lv_aload_n hx hb dL_law_1650 rfl (lv_at hl 1 rfl) ?_
  refine lv_aload_n hx hb dL_law_1651 rfl (lv_at hl 0 rfl) ?_
  refine lv_iload hx hb dL_law_1652 (lv_at hl 5 rfl) ?_
  refine lv_iconst (v := 1) hx hb dL_law_1654 (by decide) ?_
  refine lv_iadd hx hb dL_law_1655 ?_
  refine va_sld hx hb hX hbl hbA hS (zlin (k := 1) (by omega) (by omega)) dL_law_1656 ?_
  refine lv_aload_n hx hb dL_law_1657 rfl (lv_at hl 3 rfl) ?_
  refine zcLS (n := 3) hM hx hb hml hown hts gL_law_L_nextEater rfl ⟨by decide, by decide, by decide⟩ ⟨Nat.le_of_ble_eq_true rfl, Nat.le_of_ble_eq_true rfl⟩ ⟨rfl, rfl⟩ hK (zsubB (cs := [zB_X4 f h u o x, zB_X2 (g 0) o O, zB_X3 (g 0) h T, zB_XJ (g 2) y J]) hP [0, 9, 8, 12] rfl rfl) (zDsubB (cs := [zB_X4 f h u o x, zB_X2 (g 0) o O, zB_X3 (g 0) h T, zB_XJ (g 2) y J]) hD [0, 9, 8, 12] (by decide) rfl rfl) (zDsubB (cs := [zB_X4 f h u o x, zB_X2 (g 0) o O, zB_X3 (g 0) h T, zB_XJ (g 2) y J]) hD [0, 9, 8, 12] (by decide) rfl rfl) hE (fun q hq => hS.2.1 q hq (Nat.not_le.mpr hq)) hS hl.1 rfl rfl (Nat.le_of_ble_eq_true rfl) ⟨hc, hsl⟩ dL_law_1658 (fun H1 locs1 hP1 hk1 hS => ?_)
  obtain ⟨hP, hD⟩ := zjoinB (cs := [zB_X4 f h u o x, zB_X2 (g 0) o O, zB_X3 (g 0) h T, zB_XJ (g 2) y J]) (cs' := [zB_X4 f h u o x, zB_X2 (g 0) o O9, zB_X3 (g 0) h T, zB_XJ (g 2) y J9]) hP hD [0, 9, 8, 12] (by decide) rfl rfl rfl rfl hk1 hP1
  clear hP1 hk1
  have hP : va_P D vwCl (zF (zWd g f h u o x t0 t1 t2 t3 t4 t5 uM y yd Z T0 T1 T2 T3 T4 T5 T O9 X M w J9 JD)) H1 := hP
  have hD : va_D (fun q : Nat => s.heap.size ≤ q) (zF (zWd g f h u o x t0 t1 t2 t3 t4 t5 uM y yd Z T0 T1 T2 T3 T4 T5 T O9 X M w J9 JD)) := hD
  refine lv_istore (lv' := [(6, .int k9), (0, .ref b), (1, .ref (f 0)), (2, .ref (uM 0)), (3, .ref (y 0)), (4, .ref (yd 0)), (5, .int (nI i))]) hx hb dL_law_1661 hl (by decide) rfl (fun ls hl => ?_)
  refine lv_aload_n hx hb dL_law_1663 rfl (lv_at hl 3 rfl) ?_
  refine lv_aload_n hx hb dL_law_1664 rfl (lv_at hl 1 rfl) ?_
  refine lv_iload hx hb dL_law_1665 (lv_at hl 6 rfl) ?_
  refine lv_iconst (v := 1) hx hb dL_law_1667 (by decide) ?_
  refine lv_iadd hx hb dL_law_1668 ?_
  refine va_sld hx hb hX hbl hbA hS (zlin (k := 1) (by omega) (by omega)) dL_law_1669 ?_
  refine zcVw (ci := 5) (n := 1) (c_X5_nextEater l D g uM M w (xs (Int32.toNatClampNeg (nI i + 1))) V.ro) hx hb hml hown hts gL_law_X5_nextEater rfl ⟨rfl, by decide, by decide, by decide⟩ ⟨Nat.le_of_ble_eq_true rfl, Nat.le_of_ble_eq_true rfl⟩ ⟨rfl, rfl⟩ hK (zsubB (cs := [zB_X5 (g 0) uM M w]) hP [11] rfl (zF1 _)) (zDsubB (cs := [zB_X5 (g 0) uM M w]) hD [11] (by decide) rfl (zF1 _)) rfl rfl rfl hS hl.1 rfl rfl (Nat.le_of_ble_eq_true rfl) ⟨hc, hsl⟩ dL_law_1670 (fun H2 locs2 hP2 hk2 hS => ?_)
  obtain ⟨hP, hD⟩ := zjoinB (cs := [zB_X5 (g 0) uM M w]) (cs' := [zB_X5 (g 0) uM (v_X5_nextEater M (xs (Int32.toNatClampNeg (nI i + 1)))).2 w]) hP hD [11] (by decide) rfl rfl (zF1 _) (zF1 _) hk2 hP2
  clear hP2 hk2
  have hP : va_P D vwCl (zF (zWd g f h u o x t0 t1 t2 t3 t4 t5 uM y yd Z T0 T1 T2 T3 T4 T5 T O9 X ((v_X5_nextEater M (xs (Int32.toNatClampNeg (nI i + 1)))).2) w J9 JD)) H2 := hP
  have hD : va_D (fun q : Nat => s.heap.size ≤ q) (zF (zWd g f h u o x t0 t1 t2 t3 t4 t5 uM y yd Z T0 T1 T2 T3 T4 T5 T O9 X ((v_X5_nextEater M (xs (Int32.toNatClampNeg (nI i + 1)))).2) w J9 JD)) := hD
  refine lv_istore (lv' := [(7, .int (v_X5_nextEater M (xs (Int32.toNatClampNeg (nI i + 1)))).1), (6, .int k9), (0, .ref b), (1, .ref (f 0)), (2, .ref (uM 0)), (3, .ref (y 0)), (4, .ref (yd 0)), (5, .int (nI i))]) hx hb dL_law_1673 hl (by decide) rfl (fun ls hl => ?_)
  refine lv_aload_n hx hb dL_law_1675 rfl (lv_at hl 4 rfl) ?_
  refine zcV (ci := 5) (n := 0) (c_X5_thrown l D g uM (v_X5_nextEater M (xs (Int32.toNatClampNeg (nI i + 1)))).2 w) hx hb hml hown hts gL_law_X5_thrown rfl ⟨rfl, by decide, by decide, by decide⟩ ⟨Nat.le_of_ble_eq_true rfl, Nat.le_of_ble_eq_true rfl⟩ ⟨rfl, rfl⟩ hK (zsubB (cs := [zB_X5 (g 0) uM (v_X5_nextEater M (xs (Int32.toNatClampNeg (nI i + 1)))).2 w]) hP [11] rfl (zF1 _)) rfl rfl rfl hl.1 rfl rfl (Nat.le_of_ble_eq_true rfl) ⟨hc, hsl⟩ dL_law_1676 ?_
  refine lv_iload hx hb dL_law_1679 (lv_at hl 1 rfl) ?_
  refine lv_icmp_eq (tgt := 1686) hx hb dL_law_1681 (by decide) (fun _ => ?_) (fun c9 => absurd h5.symm c9)
  refine lv_iload hx hb dL_law_1686 (lv_at hl 1 rfl) ?_
  have fin : W p l e room_1 s m #[Value.ref b] below meth c H2 locs2 (cells + 1) (slots + 6) Q (F0 m 1703 ls []) := by
    refine lv_goto (tgt := 1797) hx hb dL_law_1703 (by decide) ?_
    exact kk H2 locs2 ls Z T0 T1 T2 T3 T4 T5 T O9 X ((v_X5_nextEater M (xs (Int32.toNatClampNeg (nI i + 1)))).2) w J9 JD V1 hP hD hS (lvb2 hl)
  refine lv_if_ne (tgt := 1703) hx hb dL_law_1688 (by decide) (fun _ => fin) (fun k0 => ?_)
  refine lv_aload_n hx hb dL_law_1691 rfl (lv_at hl 5 rfl) ?_
  refine lv_iconst (v := 0) hx hb dL_law_1692 (by decide) ?_
  refine va_lald hx hb hK.1 hP 93 2 rfl rfl (vp_in_nI (n := 0) (N := 1) (by decide) (by decide)) dL_law_1693 ?_
  refine lv_iload hx hb dL_law_1694 (lv_at hl 0 rfl) ?_
  refine lv_i2l hx hb dL_law_1696 rfl ?_
  refine W.lcmp hx hb dL_law_1697 ?_
  refine lv_if_eq (tgt := 1703) hx hb dL_law_1698 (by decide) (fun _ => fin) (fun c9 => absurd ?_ c9)
  exact zlg0 (hJ k0)
theorem lk_part {p : Program} {l : Launch} {e : Env} {s : State} {m : MethodId} {below : List Frame} {meth : Method} {c : Code} {b L : Nat} {xs : Nat → Int32} {D : va_G} {g : Nat → ClassId} {f h u o x t0 t1 t2 t3 t4 t5 uM y yd : Nat → Nat} {Q : State → Prop} {H : Heap} {locs : List Loc} {cells slots i : Nat} {ls : Array Slot} {Z T0 T1 T2 T3 T4 T5 T O X M : Nat → Nat → Int32} {w : Int64} {J : Nat → Int64} {JD : Nat → UInt64} (hx : p.tables.exec = Jvm.exec) (hb : c.code = cL_law) (hml : c.maxLocals = 9) (hown : s.vm.findClass RL = some m.cls) (hts : ∀ w ∈ wsL_law, w.before #[Value.ref b] s = true) (hX : va_X b L xs s s.heap) (hbl : b < s.heap.size) (hK : zK D (zT g) s) (hE : zE s.heap.size s) (hst : l.stackTraces = false)
    (V : zInv Z T0 T1 T2 T3 T4 T5 T X M) (hP : va_P D vwCl (zF (zWd g f h u o x t0 t1 t2 t3 t4 t5 uM y yd Z T0 T1 T2 T3 T4 T5 T O X M w J JD)) H) (hD : va_D (fun q : Nat => s.heap.size ≤ q) (zF (zWd g f h u o x t0 t1 t2 t3 t4 t5 uM y yd Z T0 T1 T2 T3 T4 T5 T O X M w J JD))) (hS : va_S (fun q : Nat => s.heap.size ≤ q) s.heap H locs) (hl : lv_has ls 9 [(0, .ref b), (1, .ref (f 0)), (2, .ref (uM 0)), (3, .ref (y 0)), (4, .ref (yd 0)), (5, .int (nI i))]) (hi : i + 4 ≤ L) (hL : L ≤ 2048) (hc : cells + 1 ≤ 601024) (hsl : slots + 6 ≤ 7293034)
    (kk : ∀ (H' : Heap) (locs' : List Loc) (ls' : Array Slot) (Z' T0' T1' T2' T3' T4' T5' T' O' X' M' : Nat → Nat → Int32) (w' : Int64) (J' : Nat → Int64) (JD' : Nat → UInt64), zInv Z' T0' T1' T2' T3' T4' T5' T' X' M' → va_P D vwCl (zF (zWd g f h u o x t0 t1 t2 t3 t4 t5 uM y yd Z' T0' T1' T2' T3' T4' T5' T' O' X' M' w' J' JD')) H' → va_D (fun q : Nat => s.heap.size ≤ q) (zF (zWd g f h u o x t0 t1 t2 t3 t4 t5 uM y yd Z' T0' T1' T2' T3' T4' T5' T' O' X' M' w' J' JD')) → va_S (fun q : Nat => s.heap.size ≤ q) s.heap H' locs' → lv_has ls' 9 [(0, .ref b), (1, .ref (f 0)), (2, .ref (uM 0)), (3, .ref (y 0)), (4, .ref (yd 0)), (5, .int (nI i))] → W p l e room_1 s m #[Value.ref b] below meth c H' locs' (cells + 1) (slots + 6) Q (F0 m 1797 ls' [])) : W p l e room_1 s m #[Value.ref b] below meth c H locs cells slots Q (F0 m 1706 ls []) := by
  have hbA : ¬ (fun q : Nat => s.heap.size ≤ q) b := Nat.not_le.mpr hbl
  obtain ⟨k9, JD9, hM, h5, hJ, V1⟩ := Lr_part l D g s.heap.size f h u o x yd T JD (xs (Int32.toNatClampNeg (nI i + 1))) Z T0 T1 T2 T3 T4 T5 X M hst V
  refine lv_aload_n hx hb dL_law_1706 rfl (lv_at hl 1 rfl) ?_
  refine lv_aload_n hx hb dL_law_1707 rfl (lv_at hl 0 rfl) ?_
  refine lv_iload hx hb dL_law_1708 (lv_at hl 5 rfl) ?_
  refine lv_iconst (v := 1) hx hb dL_law_1710 (by decide) ?_
  refine lv_iadd hx hb dL_law_1711 ?_
  refine va_sld hx hb hX hbl hbA hS (zlin (k := 1) (by omega) (by omega)) dL_law_1712 ?_
  refine lv_aload hx hb dL_law_1713 (lv_at hl 4 rfl) ?_
  refine zcLS (n := 3) hM hx hb hml hown hts gL_law_L_part rfl ⟨by decide, by decide, by decide⟩ ⟨Nat.le_of_ble_eq_true rfl, Nat.le_of_ble_eq_true rfl⟩ ⟨rfl, rfl⟩ hK (zsubB (cs := [zB_X4 f h u o x, zB_X3 (g 0) h T, zB_XD (g 3) yd JD]) hP [0, 8, 13] rfl rfl) (zDsubB (cs := [zB_X4 f h u o x, zB_X3 (g 0) h T, zB_XD (g 3) yd JD]) hD [0, 8, 13] (by decide) rfl rfl) (zDsubB (cs := [zB_X4 f h u o x, zB_X3 (g 0) h T, zB_XD (g 3) yd JD]) hD [0, 8, 13] (by decide) rfl rfl) hE (fun q hq => hS.2.1 q hq (Nat.not_le.mpr hq)) hS hl.1 rfl rfl (Nat.le_of_ble_eq_true rfl) ⟨hc, hsl⟩ dL_law_1715 (fun H1 locs1 hP1 hk1 hS => ?_)
  obtain ⟨hP, hD⟩ := zjoinB (cs := [zB_X4 f h u o x, zB_X3 (g 0) h T, zB_XD (g 3) yd JD]) (cs' := [zB_X4 f h u o x, zB_X3 (g 0) h T, zB_XD (g 3) yd JD9]) hP hD [0, 8, 13] (by decide) rfl rfl rfl rfl hk1 hP1
  clear hP1 hk1
  have hP : va_P D vwCl (zF (zWd g f h u o x t0 t1 t2 t3 t4 t5 uM y yd Z T0 T1 T2 T3 T4 T5 T O X M w J JD9)) H1 := hP
  have hD : va_D (fun q : Nat => s.heap.size ≤ q) (zF (zWd g f h u o x t0 t1 t2 t3 t4 t5 uM y yd Z T0 T1 T2 T3 T4 T5 T O X M w J JD9)) := hD
  refine lv_istore (lv' := [(6, .int k9), (0, .ref b), (1, .ref (f 0)), (2, .ref (uM 0)), (3, .ref (y 0)), (4, .ref (yd 0)), (5, .int (nI i))]) hx hb dL_law_1718 hl (by decide) rfl (fun ls hl => ?_)
  refine lv_aload_n hx hb dL_law_1720 rfl (lv_at hl 3 rfl) ?_
  refine lv_aload_n hx hb dL_law_1721 rfl (lv_at hl 1 rfl) ?_
  refine lv_iload hx hb dL_law_1722 (lv_at hl 6 rfl) ?_
  refine lv_iconst (v := 1) hx hb dL_law_1724 (by decide) ?_
  refine lv_iadd hx hb dL_law_1725 ?_
  refine va_sld hx hb hX hbl hbA hS (zlin (k := 1) (by omega) (by omega)) dL_law_1726 ?_
  refine zcVw (ci := 5) (n := 1) (c_X5_part l D g uM M w (xs (Int32.toNatClampNeg (nI i + 1))) V.ro) hx hb hml hown hts gL_law_X5_part rfl ⟨rfl, by decide, by decide, by decide⟩ ⟨Nat.le_of_ble_eq_true rfl, Nat.le_of_ble_eq_true rfl⟩ ⟨rfl, rfl⟩ hK (zsubB (cs := [zB_X5 (g 0) uM M w]) hP [11] rfl (zF1 _)) (zDsubB (cs := [zB_X5 (g 0) uM M w]) hD [11] (by decide) rfl (zF1 _)) rfl rfl rfl hS hl.1 rfl rfl (Nat.le_of_ble_eq_true rfl) ⟨hc, hsl⟩ dL_law_1727 (fun H2 locs2 hP2 hk2 hS => ?_)
  obtain ⟨hP, hD⟩ := zjoinB (cs := [zB_X5 (g 0) uM M w]) (cs' := [zB_X5 (g 0) uM (v_X5_part M (xs (Int32.toNatClampNeg (nI i + 1)))).2 w]) hP hD [11] (by decide) rfl rfl (zF1 _) (zF1 _) hk2 hP2
  clear hP2 hk2
  have hP : va_P D vwCl (zF (zWd g f h u o x t0 t1 t2 t3 t4 t5 uM y yd Z T0 T1 T2 T3 T4 T5 T O X ((v_X5_part M (xs (Int32.toNatClampNeg (nI i + 1)))).2) w J JD9)) H2 := hP
  have hD : va_D (fun q : Nat => s.heap.size ≤ q) (zF (zWd g f h u o x t0 t1 t2 t3 t4 t5 uM y yd Z T0 T1 T2 T3 T4 T5 T O X ((v_X5_part M (xs (Int32.toNatClampNeg (nI i + 1)))).2) w J JD9)) := hD
  refine lv_dstore (lv' := [(7, .double (v_X5_part M (xs (Int32.toNatClampNeg (nI i + 1)))).1), (6, .int k9), (0, .ref b), (1, .ref (f 0)), (2, .ref (uM 0)), (3, .ref (y 0)), (4, .ref (yd 0)), (5, .int (nI i))]) hx hb dL_law_1730 hl (by decide) rfl (fun ls hl => ?_)
  refine lv_aload_n hx hb dL_law_1732 rfl (lv_at hl 4 rfl) ?_
  refine zcV (ci := 5) (n := 0) (c_X5_thrown l D g uM (v_X5_part M (xs (Int32.toNatClampNeg (nI i + 1)))).2 w) hx hb hml hown hts gL_law_X5_thrown rfl ⟨rfl, by decide, by decide, by decide⟩ ⟨Nat.le_of_ble_eq_true rfl, Nat.le_of_ble_eq_true rfl⟩ ⟨rfl, rfl⟩ hK (zsubB (cs := [zB_X5 (g 0) uM (v_X5_part M (xs (Int32.toNatClampNeg (nI i + 1)))).2 w]) hP [11] rfl (zF1 _)) rfl rfl rfl hl.1 rfl rfl (Nat.le_of_ble_eq_true rfl) ⟨hc, hsl⟩ dL_law_1733 ?_
  refine lv_iload hx hb dL_law_1736 (lv_at hl 1 rfl) ?_
  refine lv_icmp_eq (tgt := 1743) hx hb dL_law_1738 (by decide) (fun _ => ?_) (fun c9 => absurd h5.symm c9)
  refine lv_iload hx hb dL_law_1743 (lv_at hl 1 rfl) ?_
  have fin : W p l e room_1 s m #[Value.ref b] below meth c H2 locs2 (cells + 1) (slots + 6) Q (F0 m 1780 ls []) := by
    refine lv_goto (tgt := 1797) hx hb dL_law_1780 (by decide) ?_
    exact kk H2 locs2 ls Z T0 T1 T2 T3 T4 T5 T O X ((v_X5_part M (xs (Int32.toNatClampNeg (nI i + 1)))).2) w J JD9 V1 hP hD hS (lvb2 hl)
  refine lv_if_ne (tgt := 1780) hx hb dL_law_1745 (by decide) (fun _ => fin) (fun k0 => ?_)
  refine lv_aload hx hb dL_law_1748 (lv_at hl 6 rfl) ?_
  refine lv_iconst (v := 0) hx hb dL_law_1750 (by decide) ?_
  refine va_dald hx hb hK.1 hP 94 3 rfl rfl (vp_in_nI (n := 0) (N := 1) (by decide) (by decide)) dL_law_1751 ?_
  rw [show JD9 (Int32.toNatClampNeg 0) = (v_X5_part M (xs (Int32.toNatClampNeg (nI i + 1)))).1 from hJ k0]
  refine lv_dload hx hb dL_law_1752 (lv_at hl 0 rfl) ?_
  refine lv_dcmp hx hb dL_law_1754 ?_
  refine lv_if_eq (tgt := 1780) hx hb dL_law_1755 (by decide) (fun _ => fin) (fun v0 => ?_)
  refine lv_aload hx hb dL_law_1758 (lv_at hl 6 rfl) ?_
  refine lv_iconst (v := 0) hx hb dL_law_1760 (by decide) ?_
  refine va_dald hx hb hK.1 hP 94 3 rfl rfl (vp_in_nI (n := 0) (N := 1) (by decide) (by decide)) dL_law_1761 ?_
  rw [show JD9 (Int32.toNatClampNeg 0) = (v_X5_part M (xs (Int32.toNatClampNeg (nI i + 1)))).1 from hJ k0]
  refine lv_aload hx hb dL_law_1762 (lv_at hl 6 rfl) ?_
  refine lv_iconst (v := 0) hx hb dL_law_1764 (by decide) ?_
  refine va_dald hx hb hK.1 hP 94 3 rfl rfl (vp_in_nI (n := 0) (N := 1) (by decide) (by decide)) dL_law_1765 ?_
  rw [show JD9 (Int32.toNatClampNeg 0) = (v_X5_part M (xs (Int32.toNatClampNeg (nI i + 1)))).1 from hJ k0]
  refine lv_dcmp hx hb dL_law_1766 ?_
  refine lv_if_eq (tgt := 1778) hx hb dL_law_1767 (by decide) (fun c9 => absurd c9 v0) (fun _ => ?_)
  refine lv_dload hx hb dL_law_1770 (lv_at hl 0 rfl) ?_
  refine lv_dload hx hb dL_law_1772 (lv_at hl 0 rfl) ?_
  refine lv_dcmp hx hb dL_law_1774 ?_
  refine lv_if_ne (tgt := 1780) hx hb dL_law_1775 (by decide) (fun _ => fin) (fun c9 => absurd c9 v0)
theorem lk_digest {p : Program} {l : Launch} {e : Env} {s : State} {m : MethodId} {below : List Frame} {meth : Method} {c : Code} {b L : Nat} {xs : Nat → Int32} {D : va_G} {g : Nat → ClassId} {f h u o x t0 t1 t2 t3 t4 t5 uM y yd : Nat → Nat} {Q : State → Prop} {H : Heap} {locs : List Loc} {cells slots i : Nat} {ls : Array Slot} {Z T0 T1 T2 T3 T4 T5 T O X M : Nat → Nat → Int32} {w : Int64} {J : Nat → Int64} {JD : Nat → UInt64} (hx : p.tables.exec = Jvm.exec) (hb : c.code = cL_law) (hml : c.maxLocals = 9) (hown : s.vm.findClass RL = some m.cls) (hts : ∀ w ∈ wsL_law, w.before #[Value.ref b] s = true) (hX : va_X b L xs s s.heap) (hbl : b < s.heap.size) (hK : zK D (zT g) s) (hE : zE s.heap.size s) (hst : l.stackTraces = false)
    (V : zInv Z T0 T1 T2 T3 T4 T5 T X M) (hP : va_P D vwCl (zF (zWd g f h u o x t0 t1 t2 t3 t4 t5 uM y yd Z T0 T1 T2 T3 T4 T5 T O X M w J JD)) H) (hD : va_D (fun q : Nat => s.heap.size ≤ q) (zF (zWd g f h u o x t0 t1 t2 t3 t4 t5 uM y yd Z T0 T1 T2 T3 T4 T5 T O X M w J JD))) (hS : va_S (fun q : Nat => s.heap.size ≤ q) s.heap H locs) (hl : lv_has ls 9 [(0, .ref b), (1, .ref (f 0)), (2, .ref (uM 0)), (3, .ref (y 0)), (4, .ref (yd 0)), (5, .int (nI i))]) (hi : i + 4 ≤ L) (hL : L ≤ 2048) (hc : cells + 1 ≤ 601024) (hsl : slots + 6 ≤ 7293034)
    (kk : ∀ (H' : Heap) (locs' : List Loc) (ls' : Array Slot) (Z' T0' T1' T2' T3' T4' T5' T' O' X' M' : Nat → Nat → Int32) (w' : Int64) (J' : Nat → Int64) (JD' : Nat → UInt64), zInv Z' T0' T1' T2' T3' T4' T5' T' X' M' → va_P D vwCl (zF (zWd g f h u o x t0 t1 t2 t3 t4 t5 uM y yd Z' T0' T1' T2' T3' T4' T5' T' O' X' M' w' J' JD')) H' → va_D (fun q : Nat => s.heap.size ≤ q) (zF (zWd g f h u o x t0 t1 t2 t3 t4 t5 uM y yd Z' T0' T1' T2' T3' T4' T5' T' O' X' M' w' J' JD')) → va_S (fun q : Nat => s.heap.size ≤ q) s.heap H' locs' → lv_has ls' 9 [(0, .ref b), (1, .ref (f 0)), (2, .ref (uM 0)), (3, .ref (y 0)), (4, .ref (yd 0)), (5, .int (nI i))] → W p l e room_1 s m #[Value.ref b] below meth c H' locs' (cells + 1) (slots + 6) Q (F0 m 1797 ls' [])) : W p l e room_1 s m #[Value.ref b] below meth c H locs cells slots Q (F0 m 1783 ls []) := by
  have hbA : ¬ (fun q : Nat => s.heap.size ≤ q) b := Nat.not_le.mpr hbl
  obtain ⟨e1, V1, _⟩ := em_digest V O w
  refine W.widen (k := cells + 1) (n := slots + 6) (Nat.le_succ _) (Nat.le_add_right _ _) ?_
  refine lv_aload_n hx hb dL_law_1783 rfl (lv_at hl 1 rfl) ?_
  refine zcVw (ci := 4) (n := 0) (c_X4_digest l D g f h u o x t0 t1 t2 t3 t4 t5 T Z O X (fun b hb => by rw [(V.tw.br hb).2.2.1]; exact (V.ro.2.1 b hb).2.1)) hx hb hml hown hts gL_law_X4_digest rfl ⟨rfl, by decide, by decide, by decide⟩ ⟨Nat.le_of_ble_eq_true rfl, Nat.le_of_ble_eq_true rfl⟩ ⟨rfl, rfl⟩ hK (zsubB (cs := [zB_X4 f h u o x, zB_X3 (g 0) h T, zB_X1 (g 1) u t0 t1 t2 t3 t4 t5 Z, zB_X2 (g 0) o O, zB_X0 (g 0) x X]) hP [0, 8, 1, 9, 10] rfl rfl) (zDsubB (cs := [zB_X4 f h u o x, zB_X3 (g 0) h T, zB_X1 (g 1) u t0 t1 t2 t3 t4 t5 Z, zB_X2 (g 0) o O, zB_X0 (g 0) x X]) hD [0, 8, 1, 9, 10] (by decide) rfl rfl) rfl rfl rfl hS hl.1 rfl rfl (Nat.le_of_ble_eq_true rfl) ⟨hc, hsl⟩ dL_law_1784 (fun H1 locs1 hP1 hk1 hS => ?_)
  obtain ⟨hP, hD⟩ := zjoinB (cs := [zB_X4 f h u o x, zB_X3 (g 0) h T, zB_X1 (g 1) u t0 t1 t2 t3 t4 t5 Z, zB_X2 (g 0) o O, zB_X0 (g 0) x X]) (cs' := [zB_X4 f h u o x, zB_X3 (g 0) h T, zB_X1 (g 1) u t0 t1 t2 t3 t4 t5 Z, zB_X2 (g 0) o ((v_X4_digest T Z O X).2), zB_X0 (g 0) x X]) hP hD [0, 8, 1, 9, 10] (by decide) rfl rfl rfl rfl hk1 hP1
  clear hP1 hk1
  have hP : va_P D vwCl (zF (zWd g f h u o x t0 t1 t2 t3 t4 t5 uM y yd Z T0 T1 T2 T3 T4 T5 T ((v_X4_digest T Z O X).2) X M w J JD)) H1 := hP
  have hD : va_D (fun q : Nat => s.heap.size ≤ q) (zF (zWd g f h u o x t0 t1 t2 t3 t4 t5 uM y yd Z T0 T1 T2 T3 T4 T5 T ((v_X4_digest T Z O X).2) X M w J JD)) := hD
  refine lv_aload_n hx hb dL_law_1787 rfl (lv_at hl 2 rfl) ?_
  refine zcVw (ci := 5) (n := 0) (c_X5_digest l D g uM M w V.ro V.tx.1) hx hb hml hown hts gL_law_X5_digest rfl ⟨rfl, by decide, by decide, by decide⟩ ⟨Nat.le_of_ble_eq_true rfl, Nat.le_of_ble_eq_true rfl⟩ ⟨rfl, rfl⟩ hK (zsubB (cs := [zB_X5 (g 0) uM M w]) hP [11] rfl (zF1 _)) (zDsubB (cs := [zB_X5 (g 0) uM M w]) hD [11] (by decide) rfl (zF1 _)) rfl rfl rfl hS hl.1 rfl rfl (Nat.le_of_ble_eq_true rfl) ⟨hc, hsl⟩ dL_law_1788 (fun H2 locs2 hP2 hk2 hS => ?_)
  obtain ⟨hP, hD⟩ := zjoinB (cs := [zB_X5 (g 0) uM M w]) (cs' := [zB_X5 (g 0) uM ((v_X5_digest M w).2.1) ((v_X5_digest M w).2.2)]) hP hD [11] (by decide) rfl rfl (zF1 _) (zF1 _) hk2 hP2
  clear hP2 hk2
  have hP : va_P D vwCl (zF (zWd g f h u o x t0 t1 t2 t3 t4 t5 uM y yd Z T0 T1 T2 T3 T4 T5 T ((v_X4_digest T Z O X).2) X ((v_X5_digest M w).2.1) ((v_X5_digest M w).2.2) J JD)) H2 := hP
  have hD : va_D (fun q : Nat => s.heap.size ≤ q) (zF (zWd g f h u o x t0 t1 t2 t3 t4 t5 uM y yd Z T0 T1 T2 T3 T4 T5 T ((v_X4_digest T Z O X).2) X ((v_X5_digest M w).2.1) ((v_X5_digest M w).2.2) J JD)) := hD
  refine W.lcmp hx hb dL_law_1791 ?_
  refine lv_if_eq (tgt := 1797) hx hb dL_law_1792 (by decide) (fun _ => kk H2 locs2 ls Z T0 T1 T2 T3 T4 T5 T ((v_X4_digest T Z O X).2) X ((v_X5_digest M w).2.1) ((v_X5_digest M w).2.2) J JD V1 hP hD hS hl) (fun c9 => absurd (zlg0 e1) c9)
