/-! the law's loop -/
section ZLL
theorem zand31 (x : Int32) : vp_in (x &&& 31) 32 := by
  have z : ∀ i, 5 ≤ i → i < 32 → bt (x &&& 31) i = false := fun i h1 h2 => by
    rw [b_and, (by decide +kernel : ∀ i, i < 32 → 5 ≤ i → bt 31 i = false) i h2 h1, Bool.and_false]
  have e : nI (x &&& 31).toBitVec.toNat = x &&& 31 := by
    apply Int32.toBitVec_inj.1
    show BitVec.ofNat 32 (x &&& 31).toBitVec.toNat = (x &&& 31).toBitVec
    exact BitVec.eq_of_toNat_eq (by rw [BitVec.toNat_ofNat, Nat.mod_eq_of_lt (x &&& 31).toBitVec.isLt])
  have h2 : (x &&& 31).toBitVec.toNat < 2 ^ 5 := by
    refine Nat.lt_pow_two_of_testBit _ fun i hi => ?_
    rcases Nat.lt_or_ge i 32 with q | q
    · rw [← bt_nI q, e]; exact z i hi q
    · rw [BitVec.testBit_toNat]; exact BitVec.getLsbD_of_ge _ _ q
  rw [← e]; exact vp_in_nI (by omega) (by decide)
theorem zsub4 {L : Nat} (hL : L ≤ 2048) : (Int32.ofNat L - 4).toInt = (L : Int) - 4 := by
  have h0 : (Int32.ofNat L).toInt = (L : Int) := nI_toInt (n := L) (by omega)
  rw [Int32.toInt_sub, h0, show (4 : Int32).toInt = 4 from rfl]
  exact Int.bmod_eq_of_le (by omega) (by omega)
theorem zinc4 (i : Nat) : nI i + Int32.ofInt 4 = nI (i + 4) := (nI_addN i 4).symm
theorem lvrot {ls : Array Slot} {q0 q1 q2 q3 q4 q5 : Nat × Value} (h : lv_has ls 9 [q5, q0, q1, q2, q3, q4]) : lv_has ls 9 [q0, q1, q2, q3, q4, q5] := ⟨h.1, h.2.1, fun q hq => h.2.2 q (by
  simp only [List.mem_cons, List.not_mem_nil, or_false] at hq ⊢
  rcases hq with h | h | h | h | h | h <;> simp [h])⟩
theorem lk_step {p : Program} {l : Launch} {e : Env} {s : State} {m : MethodId} {below : List Frame} {meth : Method} {c : Code} {b L : Nat} {xs : Nat → Int32} {D : va_G} {g : Nat → ClassId} {f h u o x t0 t1 t2 t3 t4 t5 uM y yd : Nat → Nat} {Q : State → Prop} {H : Heap} {locs : List Loc} {cells slots i : Nat} {ls : Array Slot} {Z T0 T1 T2 T3 T4 T5 T O X M : Nat → Nat → Int32} {w : Int64} {J : Nat → Int64} {JD : Nat → UInt64} (hx : p.tables.exec = Jvm.exec) (hb : c.code = cL_law) (hml : c.maxLocals = 9) (hown : s.vm.findClass RL = some m.cls) (hts : ∀ w ∈ wsL_law, w.before #[Value.ref b] s = true) (hX : va_X b L xs s s.heap) (hbl : b < s.heap.size) (hK : zK D (zT g) s) (hE : zE s.heap.size s) (hst : l.stackTraces = false)
    (V : zInv Z T0 T1 T2 T3 T4 T5 T X M) (hP : va_P D vwCl (zF (zWd g f h u o x t0 t1 t2 t3 t4 t5 uM y yd Z T0 T1 T2 T3 T4 T5 T O X M w J JD)) H) (hD : va_D (fun q : Nat => s.heap.size ≤ q) (zF (zWd g f h u o x t0 t1 t2 t3 t4 t5 uM y yd Z T0 T1 T2 T3 T4 T5 T O X M w J JD))) (hS : va_S (fun q : Nat => s.heap.size ≤ q) s.heap H locs) (hl : lv_has ls 9 [(0, .ref b), (1, .ref (f 0)), (2, .ref (uM 0)), (3, .ref (y 0)), (4, .ref (yd 0)), (5, .int (nI i))]) (hi : i + 4 ≤ L) (hL : L ≤ 2048) (hc : cells + 1 ≤ 601024) (hsl : slots + 6 ≤ 7293034)
    (kk : ∀ (H' : Heap) (locs' : List Loc) (ls' : Array Slot) (Z' T0' T1' T2' T3' T4' T5' T' O' X' M' : Nat → Nat → Int32) (w' : Int64) (J' : Nat → Int64) (JD' : Nat → UInt64), zInv Z' T0' T1' T2' T3' T4' T5' T' X' M' → va_P D vwCl (zF (zWd g f h u o x t0 t1 t2 t3 t4 t5 uM y yd Z' T0' T1' T2' T3' T4' T5' T' O' X' M' w' J' JD')) H' → va_D (fun q : Nat => s.heap.size ≤ q) (zF (zWd g f h u o x t0 t1 t2 t3 t4 t5 uM y yd Z' T0' T1' T2' T3' T4' T5' T' O' X' M' w' J' JD')) → va_S (fun q : Nat => s.heap.size ≤ q) s.heap H' locs' → lv_has ls' 9 [(0, .ref b), (1, .ref (f 0)), (2, .ref (uM 0)), (3, .ref (y 0)), (4, .ref (yd 0)), (5, .int (nI i))] → W p l e room_1 s m #[Value.ref b] below meth c H' locs' (cells + 1) (slots + 6) Q (F0 m 1797 ls' [])) : W p l e room_1 s m #[Value.ref b] below meth c H locs cells slots Q (F0 m 37 ls []) := by
  have hbA : ¬ (fun q : Nat => s.heap.size ≤ q) b := Nat.not_le.mpr hbl
  refine lv_aload_n hx hb dL_law_37 rfl (lv_at hl 0 rfl) ?_
  refine lv_iload hx hb dL_law_38 (lv_at hl 5 rfl) ?_
  refine va_sld hx hb hX hbl hbA hS (vp_in_nI (by omega) (by omega)) dL_law_40 ?_
  refine lv_bipush (v := 31) hx hb dL_law_41 (by decide) ?_
  refine lv_iand hx hb dL_law_43 ?_
  obtain ⟨k, hk, ek⟩ := vp_in_of (zand31 (xs (Int32.toNatClampNeg (nI i)))) (by decide)
  rw [ek]
  have hk0 : (nI k).toInt = (k : Int) := nI_toInt (by omega)
  by_cases c27 : 27 ≤ k
  · refine lv_tableOut (tgt := 1797) hx hb dL_law_44 (Or.inr (by rw [hk0]; omega)) (by decide) ?_
    refine W.widen (k := cells + 1) (n := slots + 6) (Nat.le_succ _) (Nat.le_add_right _ _) ?_
    exact kk H locs ls Z T0 T1 T2 T3 T4 T5 T O X M w J JD V hP hD hS hl
  · have all : k = 0 ∨ k = 1 ∨ k = 2 ∨ k = 3 ∨ k = 4 ∨ k = 5 ∨ k = 6 ∨ k = 7 ∨ k = 8 ∨ k = 9 ∨ k = 10 ∨ k = 11 ∨ k = 12 ∨ k = 13 ∨ k = 14 ∨ k = 15 ∨ k = 16 ∨ k = 17 ∨ k = 18 ∨ k = 19 ∨ k = 20 ∨ k = 21 ∨ k = 22 ∨ k = 23 ∨ k = 24 ∨ k = 25 ∨ k = 26 := by omega
    rcases all with rfl | rfl | rfl | rfl | rfl | rfl | rfl | rfl | rfl | rfl | rfl | rfl | rfl | rfl | rfl | rfl | rfl | rfl | rfl | rfl | rfl | rfl | rfl | rfl | rfl | rfl | rfl
    · exact lv_tableIn (off := 124) (tgt := 168) hx hb dL_law_44 (by decide) (by decide) (by decide) (by decide) (lk_open hx hb hml hown hts hX hbl hK hE hst V hP hD hS hl hi hL hc hsl kk)
    · exact lv_tableIn (off := 220) (tgt := 264) hx hb dL_law_44 (by decide) (by decide) (by decide) (by decide) (lk_end hx hb hml hown hts hX hbl hK hE hst V hP hD hS hl hi hL hc hsl kk)
    · exact lv_tableIn (off := 276) (tgt := 320) hx hb dL_law_44 (by decide) (by decide) (by decide) (by decide) (lk_raise hx hb hml hown hts hX hbl hK hE hst V hP hD hS hl hi hL hc hsl kk)
    · exact lv_tableIn (off := 344) (tgt := 388) hx hb dL_law_44 (by decide) (by decide) (by decide) (by decide) (lk_lower hx hb hml hown hts hX hbl hK hE hst V hP hD hS hl hi hL hc hsl kk)
    · exact lv_tableIn (off := 412) (tgt := 456) hx hb dL_law_44 (by decide) (by decide) (by decide) (by decide) (lk_resalt hx hb hml hown hts hX hbl hK hE hst V hP hD hS hl hi hL hc hsl kk)
    · exact lv_tableIn (off := 480) (tgt := 524) hx hb dL_law_44 (by decide) (by decide) (by decide) (by decide) (lk_shake hx hb hml hown hts hX hbl hK hE hst V hP hD hS hl hi hL hc hsl kk)
    · exact lv_tableIn (off := 548) (tgt := 592) hx hb dL_law_44 (by decide) (by decide) (by decide) (by decide) (lk_hold hx hb hml hown hts hX hbl hK hE hst V hP hD hS hl hi hL hc hsl kk)
    · exact lv_tableIn (off := 644) (tgt := 688) hx hb dL_law_44 (by decide) (by decide) (by decide) (by decide) (lk_letGo hx hb hml hown hts hX hbl hK hE hst V hP hD hS hl hi hL hc hsl kk)
    · exact lv_tableIn (off := 712) (tgt := 756) hx hb dL_law_44 (by decide) (by decide) (by decide) (by decide) (lk_pass hx hb hml hown hts hX hbl hK hE hst V hP hD hS hl hi hL hc hsl kk)
    · exact lv_tableIn (off := 768) (tgt := 812) hx hb dL_law_44 (by decide) (by decide) (by decide) (by decide) (lk_append hx hb hml hown hts hX hbl hK hE hst V hP hD hS hl hi hL hc hsl kk)
    · exact lv_tableIn (off := 824) (tgt := 868) hx hb dL_law_44 (by decide) (by decide) (by decide) (by decide) (lk_clearBuffer hx hb hml hown hts hX hbl hK hE hst V hP hD hS hl hi hL hc hsl kk)
    · exact lv_tableIn (off := 837) (tgt := 881) hx hb dL_law_44 (by decide) (by decide) (by decide) (by decide) (lk_firstError hx hb hml hown hts hX hbl hK hE hst V hP hD hS hl hi hL hc hsl kk)
    · exact lv_tableIn (off := 850) (tgt := 894) hx hb dL_law_44 (by decide) (by decide) (by decide) (by decide) (lk_run hx hb hml hown hts hX hbl hK hE hst V hP hD hS hl hi hL hc hsl kk)
    · exact lv_tableIn (off := 894) (tgt := 938) hx hb dL_law_44 (by decide) (by decide) (by decide) (by decide) (lk_undo hx hb hml hown hts hX hbl hK hE hst V hP hD hS hl hi hL hc hsl kk)
    · exact lv_tableIn (off := 938) (tgt := 982) hx hb dL_law_44 (by decide) (by decide) (by decide) (by decide) (lk_eats hx hb hml hown hts hX hbl hK hE hst V hP hD hS hl hi hL hc hsl kk)
    · exact lv_tableIn (off := 1006) (tgt := 1050) hx hb dL_law_44 (by decide) (by decide) (by decide) (by decide) (lk_bucket hx hb hml hown hts hX hbl hK hE hst V hP hD hS hl hi hL hc hsl kk)
    · exact lv_tableIn (off := 1074) (tgt := 1118) hx hb dL_law_44 (by decide) (by decide) (by decide) (by decide) (lk_bread hx hb hml hown hts hX hbl hK hE hst V hP hD hS hl hi hL hc hsl kk)
    · exact lv_tableIn (off := 1142) (tgt := 1186) hx hb dL_law_44 (by decide) (by decide) (by decide) (by decide) (lk_person hx hb hml hown hts hX hbl hK hE hst V hP hD hS hl hi hL hc hsl kk)
    · exact lv_tableIn (off := 1210) (tgt := 1254) hx hb dL_law_44 (by decide) (by decide) (by decide) (by decide) (lk_owner hx hb hml hown hts hX hbl hK hE hst V hP hD hS hl hi hL hc hsl kk)
    · exact lv_tableIn (off := 1278) (tgt := 1322) hx hb dL_law_44 (by decide) (by decide) (by decide) (by decide) (lk_count hx hb hml hown hts hX hbl hK hE hst V hP hD hS hl hi hL hc hsl kk)
    · exact lv_tableIn (off := 1334) (tgt := 1378) hx hb dL_law_44 (by decide) (by decide) (by decide) (by decide) (lk_overlap hx hb hml hown hts hX hbl hK hE hst V hP hD hS hl hi hL hc hsl kk)
    · exact lv_tableIn (off := 1402) (tgt := 1446) hx hb dL_law_44 (by decide) (by decide) (by decide) (by decide) (lk_ifShare hx hb hml hown hts hX hbl hK hE hst V hP hD hS hl hi hL hc hsl kk)
    · exact lv_tableIn (off := 1470) (tgt := 1514) hx hb dL_law_44 (by decide) (by decide) (by decide) (by decide) (lk_shareFor hx hb hml hown hts hX hbl hK hE hst V hP hD hS hl hi hL hc hsl kk)
    · exact lv_tableIn (off := 1538) (tgt := 1582) hx hb dL_law_44 (by decide) (by decide) (by decide) (by decide) (lk_bestSalt hx hb hml hown hts hX hbl hK hE hst V hP hD hS hl hi hL hc hsl kk)
    · exact lv_tableIn (off := 1606) (tgt := 1650) hx hb dL_law_44 (by decide) (by decide) (by decide) (by decide) (lk_nextEater hx hb hml hown hts hX hbl hK hE hst V hP hD hS hl hi hL hc hsl kk)
    · exact lv_tableIn (off := 1662) (tgt := 1706) hx hb dL_law_44 (by decide) (by decide) (by decide) (by decide) (lk_part hx hb hml hown hts hX hbl hK hE hst V hP hD hS hl hi hL hc hsl kk)
    · exact lv_tableIn (off := 1739) (tgt := 1783) hx hb dL_law_44 (by decide) (by decide) (by decide) (by decide) (lk_digest hx hb hml hown hts hX hbl hK hE hst V hP hD hS hl hi hL hc hsl kk)
theorem lk_loop {p : Program} {l : Launch} {e : Env} {s : State} {m : MethodId} {below : List Frame} {meth : Method} {c : Code} {b L : Nat} {xs : Nat → Int32} {D : va_G} {g : Nat → ClassId} {f h u o x t0 t1 t2 t3 t4 t5 uM y yd : Nat → Nat}
    (hx : p.tables.exec = Jvm.exec) (hb : c.code = cL_law) (hr : meth.sig.returnType = Jvm.Pilot.CSaltSharesLaw_law_r5749_5612aa.ret) (hml : c.maxLocals = 9) (hown : s.vm.findClass RL = some m.cls) (hts : ∀ w ∈ wsL_law, w.before #[Value.ref b] s = true) (hX : va_X b L xs s s.heap) (hbl : b < s.heap.size) (hK : zK D (zT g) s) (hE : zE s.heap.size s) (hst : l.stackTraces = false) (hL : L ≤ 2048) {Q : State → Prop}
    (kend : ∀ (H' : Heap) (locs' : List Loc) (ls' : Array Slot) (k' n' : Nat), k' ≤ 601024 → n' ≤ 7293034 → (∀ q ∈ locs', s.heap.size ≤ q.base) → W p l e room_1 s m #[Value.ref b] below meth c H' locs' k' n' Q (F0 m 1803 ls' [])) :
    ∀ (n i : Nat) (H : Heap) (locs : List Loc) (cells slots : Nat) (ls : Array Slot) (Z T0 T1 T2 T3 T4 T5 T O X M : Nat → Nat → Int32) (w : Int64) (J : Nat → Int64) (JD : Nat → UInt64), L - i < n → i ≤ L → cells ≤ 1000 + i → slots ≤ 20000 + 6 * i → zInv Z T0 T1 T2 T3 T4 T5 T X M → va_P D vwCl (zF (zWd g f h u o x t0 t1 t2 t3 t4 t5 uM y yd Z T0 T1 T2 T3 T4 T5 T O X M w J JD)) H → va_D (fun q : Nat => s.heap.size ≤ q) (zF (zWd g f h u o x t0 t1 t2 t3 t4 t5 uM y yd Z T0 T1 T2 T3 T4 T5 T O X M w J JD)) → va_S (fun q : Nat => s.heap.size ≤ q) s.heap H locs → lv_has ls 9 [(0, .ref b), (1, .ref (f 0)), (2, .ref (uM 0)), (3, .ref (y 0)), (4, .ref (yd 0)), (5, .int (nI i))] → W p l e room_1 s m #[Value.ref b] below meth c H locs cells slots Q (F0 m 28 ls []) := by
  intro n
  induction n with
  | zero => intro i H locs cells slots ls Z T0 T1 T2 T3 T4 T5 T O X M w J JD hn; exact absurd hn (Nat.not_lt_zero _)
  | succ n ih =>
    intro i H locs cells slots ls Z T0 T1 T2 T3 T4 T5 T O X M w J JD hn hi hc hsl V hP hD hS hl
    have hbA : ¬ (fun q : Nat => s.heap.size ≤ q) b := Nat.not_le.mpr hbl
    refine lv_iload hx hb dL_law_28 (lv_at hl 5 rfl) ?_
    refine lv_aload_n hx hb dL_law_30 rfl (lv_at hl 0 rfl) ?_
    refine va_slen hx hb hX hbl hbA hS dL_law_31 ?_
    refine lv_iconst (v := 4) hx hb dL_law_32 (by decide) ?_
    refine lv_isub hx hb dL_law_33 ?_
    have e4 : (Int32.ofNat L - 4).toInt = (L : Int) - 4 := zsub4 hL
    refine lv_icmp_gt (tgt := 1803) hx hb dL_law_34 (by decide) (fun _ => kend H locs ls cells slots (by omega) (by omega) hS.2.2) (fun c9 => ?_)
    have hi4 : i + 4 ≤ L := by
      rw [Int32.lt_iff_toInt_lt, e4, nI_toInt (by omega)] at c9; omega
    refine lk_step hx hb hml hown hts hX hbl hK hE hst V hP hD hS hl hi4 hL (by omega) (by omega) (fun H' locs' ls' Z' T0' T1' T2' T3' T4' T5' T' O' X' M' w' J' JD' V' hP' hD' hS' hl' => ?_)
    refine lv_iinc (k := 5) (x := nI i) (v := nI (i + 4)) (lv' := [(5, .int (nI (i + 4))), (0, .ref b), (1, .ref (f 0)), (2, .ref (uM 0)), (3, .ref (y 0)), (4, .ref (yd 0))]) hx hb dL_law_1797 hl' rfl (zinc4 i) (by decide) rfl (fun ls2 hl2 => ?_)
    refine lv_goto (tgt := 28) hx hb dL_law_1800 (by decide) ?_
    exact ih (i + 4) H' locs' (cells + 1) (slots + 6) ls2 Z' T0' T1' T2' T3' T4' T5' T' O' X' M' w' J' JD' (by omega) (by omega) (by omega) (by omega) V' hP' hD' hS' (lvrot hl2)
end ZLL
