theorem zad_X0 (cI : ClassId) (h : Nat → Nat) (T : Nat → Nat → Int32) : (zB_X0 cI h T).map Prod.fst = [h 0, h 1] := rfl
theorem zad_X2 (cI : ClassId) (h : Nat → Nat) (T : Nat → Nat → Int32) : (zB_X2 cI h T).map Prod.fst = [h 0, h 1, h 4, h 5] := rfl
theorem zad_X3 (cI : ClassId) (h : Nat → Nat) (T : Nat → Nat → Int32) : (zB_X3 cI h T).map Prod.fst = [h 0, h 6, h 7, h 8, h 9, h 10, h 11, h 12, h 13, h 14, h 15] := rfl
theorem zad_X5 (cI : ClassId) (h : Nat → Nat) (T : Nat → Nat → Int32) (w : Int64) : (zB_X5 cI h T w).map Prod.fst = [h 0, h 1, h 3, h 5, h 7, h 8, h 12] := rfl
theorem zad_X1 (cT : ClassId) (u t0 t1 t2 t3 t4 t5 : Nat → Nat) (Z : Nat → Nat → Int32) : (zB_X1 cT u t0 t1 t2 t3 t4 t5 Z).map Prod.fst = [u 0, u 3] := rfl
theorem zad_X4 (f h u o x : Nat → Nat) : (zB_X4 f h u o x).map Prod.fst = [f 0] := rfl
def v_X4_hashWithBread_175 (T : Nat → Nat → Int32) (O : Nat → Nat → Int32) (b : Nat) : Nat → Int64 → Nat → Int64 × (Nat → Nat → Int32)
  | 0, _, _ => (0, (fun _ _ => 0))
  | n + 1, hash', pe => (if 150 ≤ pe then (hash', (v_X2_firstNewcomer ((v_X2_leastShare ((v_X2_eatersAt O T (nI b) 50).2) T (nI b) 75).2) T (nI b)).2) else v_X4_hashWithBread_175 T O b n ((31 * hash') + (Int32.toInt64 (v_X3_reasonBy T pe b (v_X3_saltOf T b)))) (pe + 1))
def v_X4_hashWithBread_6 (T : Nat → Nat → Int32) (O : Nat → Nat → Int32) (b : Nat) : Nat → Int64 → Nat → Int64 × (Nat → Nat → Int32)
  | 0, _, _ => (0, (fun _ _ => 0))
  | n + 1, hash, wh => (if 11 < wh then v_X4_hashWithBread_175 T O b 151 ((31 * ((31 * ((31 * ((31 * ((31 * ((31 * hash) + (Int32.toInt64 (nI (v_X3_eatersOfBoth T b 0))))) + (Int32.toInt64 ((v_X2_eatersAt O T (nI b) 50).1)))) + (Int32.toInt64 ((v_X2_leastShare ((v_X2_eatersAt O T (nI b) 50).2) T (nI b) 75).1)))) + (Int32.toInt64 (v_X4_bestSaltFrom T (nI b) 100)))) + (Int32.toInt64 ((v_X2_firstNewcomer ((v_X2_leastShare ((v_X2_eatersAt O T (nI b) 50).2) T (nI b) 75).2) T (nI b)).1)))) + (v_X4_bitsOf (v_X4_partOf T b))) 0 else v_X4_hashWithBread_6 T O b n ((31 * hash) + (Int32.toInt64 (v_X3_breadProperty T b (nI wh)))) (wh + 1))
def v_X4_hashWithBread (T : Nat → Nat → Int32) (O : Nat → Nat → Int32) (st : Int64) (b : Nat) : Int64 × (Nat → Nat → Int32) := v_X4_hashWithBread_6 T O b 13 st 0
set_option maxHeartbeats 400000 in
set_option maxRecDepth 100000 in
theorem c_X4_hashWithBread (l : Launch) (D : va_G) (g : Nat → ClassId) (f : Nat → Nat) (h : Nat → Nat) (u : Nat → Nat) (o : Nat → Nat) (x : Nat → Nat) (T : Nat → Nat → Int32) (O : Nat → Nat → Int32) (st : Int64) (b : Nat) (z0 : b < 8) (z1 : ∀ b : Nat, b < 8 → vp_in (T 7 b) 101) : Wr l D (zT g) yX4_hashWithBread wsX4_hashWithBread (rmOf 5 114) [.ref (f 0), .long st, .int (nI b)] (zF [zB_X4 f h u o x, zB_X3 (g 0) h T, zB_X2 (g 0) o O]) (some (.long ((v_X4_hashWithBread T O st b).1))) (zF [zB_X4 f h u o x, zB_X3 (g 0) h T, zB_X2 (g 0) o ((v_X4_hashWithBread T O st b).2)]) := by
  refine Wr.of (cc := cX4_hashWithBread) (maxL := 8) (ret := (some .long)) (by decide) rfl (Nat.le_of_ble_eq_true rfl) ?_
  intro p e s m below meth c ls hx hb hr hml hown hts hlocks hP hD hS hK hl
  have hown : s.vm.findClass RX4 = some m.cls := hown
  have hinX4 : ∀ w ∈ u_ws RX4 TX4 4, w ∈ wsX4_hashWithBread := fun _ h9 => (List.mem_cons_of_mem _ (List.mem_append_left _ (List.mem_append_left _ (List.mem_append_right _ h9))))
  obtain ⟨q, hq⟩ : ∃ q : Int64 × (Nat → Nat → Int32), q = v_X4_hashWithBread T O st b := ⟨_, rfl⟩
  rw [← hq]
  unfold v_X4_hashWithBread at hq
  have hl : lv_has ls 8 [(0, .ref (f 0)), (1, .long st), (3, .int (nI b))] := hl
  refine lv_lload_n hx hb dX4_hashWithBread_0 rfl (lv_at hl 1 rfl) ?_
  refine lv_lstore (lv' := [(4, .long st), (0, .ref (f 0)), (1, .long st), (3, .int (nI b))]) hx hb dX4_hashWithBread_1 hl (by decide) rfl (fun ls hl => ?_)
  refine lv_iconst (v := 0) hx hb dX4_hashWithBread_3 (by decide) ?_
  refine lv_istore (lv' := [(6, .int 0), (4, .long st), (0, .ref (f 0)), (1, .long st), (3, .int (nI b))]) hx hb dX4_hashWithBread_4 hl (by decide) rfl (fun ls hl => ?_)
  have L6 : ∀ (n : Nat) (hash : Int64) (wh : Nat), (wh ≤ 12) → 12 - wh < n → ∀ (H : Heap) (locs : List Loc), va_P D vwCl (zF [zB_X4 f h u o x, zB_X3 (g 0) h T, zB_X2 (g 0) o O]) H → va_D (zA (zF [zB_X4 f h u o x, zB_X3 (g 0) h T, zB_X2 (g 0) o O])) (zF [zB_X4 f h u o x, zB_X3 (g 0) h T, zB_X2 (g 0) o O]) → va_S (zA (zF [zB_X4 f h u o x, zB_X3 (g 0) h T, zB_X2 (g 0) o O])) s.heap H locs → ∀ (ls : Array Slot), lv_has ls 8 [(0, .ref (f 0)), (1, .long st), (3, .int (nI b)), (4, .long hash), (6, .int (nI wh))] → q = v_X4_hashWithBread_6 T O b n hash wh → W p l e (rmOf 5 114) s m [.ref (f 0), .long st, .int (nI b)].toArray below meth c H locs 0 0 (MQ below (zQw D (zF [zB_X4 f h u o x, zB_X3 (g 0) h T, zB_X2 (g 0) o O]) (some (.long q.1)) (zF [zB_X4 f h u o x, zB_X3 (g 0) h T, zB_X2 (g 0) o q.2])) [.ref (f 0), .long st, .int (nI b)].toArray s 0 0 (zA (zF [zB_X4 f h u o x, zB_X3 (g 0) h T, zB_X2 (g 0) o O]))) (F0 m 6 ls []) := by
    intro n
    induction n with
    | zero => intro hash wh v6_0 hn; exact absurd hn (Nat.not_lt_zero _)
    | succ n ih6 =>
      intro hash wh v6_0 hn6 H locs hP hD hS ls hl hq
      rw [v_X4_hashWithBread_6] at hq
      refine lv_iload hx hb dX4_hashWithBread_6 (lv_at hl 4 rfl) ?_
      refine lv_bipush (v := 11) hx hb dX4_hashWithBread_8 (by decide) ?_
      refine lv_icmp_gt (tgt := 39) hx hb dX4_hashWithBread_10 (by decide) (fun c_1 => ?_) (fun c_1 => ?_)
      · have c_1 : 11 < wh := (nI_ltI (a := 11) (b := wh) (by omega) (by omega)).mp c_1
        have hq := hq.trans (if_pos c_1)
        refine lv_ldc2 (v := 31) hx hb hown (hts (.constantLong RX4 250 (31)) (List.mem_of_getElem? (i := 1) rfl)) dX4_hashWithBread_39 ?_
        refine lv_lload hx hb dX4_hashWithBread_42 (lv_at hl 3 rfl) ?_
        refine lv_lmul hx hb dX4_hashWithBread_44 ?_
        refine lv_aload_n hx hb dX4_hashWithBread_45 rfl (lv_at hl 0 rfl) ?_
        refine va_get (D := D) (ci := 4) (v := .ref (h 0)) (C := RX4) (T := TX4) (N := 4) hx hb hts hinX4 hown hK.1 hP 0 rfl rfl 0 (by decide) (hts (.fieldLink RX4 10 "SaltShares" "town" "LSaltShares$Town;") (List.mem_of_getElem? (i := 2) rfl)) (fun _ h9 => h9) rfl dX4_hashWithBread_46 ?_
        refine lv_iload_n hx hb dX4_hashWithBread_49 rfl (lv_at hl 2 rfl) ?_
        refine lv_iconst (v := 0) hx hb dX4_hashWithBread_50 (by decide) ?_
        refine zcV (ci := 3) (n := 2) (c_X3_eatersOfBoth l D g h T b 0 (by omega) (by omega)) hx hb hml hown hts gX4_hashWithBread_X3_eatersOfBoth rfl ⟨rfl, by decide, by decide, by decide⟩ ⟨Nat.le_of_ble_eq_true rfl, Nat.le_of_ble_eq_true rfl⟩ ⟨rfl, rfl⟩ hK (zsubB (cs := [zB_X3 (g 0) h T]) hP [1] rfl (zF1 _)) rfl rfl rfl hl.1 rfl rfl (Nat.le_of_ble_eq_true rfl) ⟨Nat.zero_le _, Nat.zero_le _⟩ dX4_hashWithBread_51 ?_
        refine lv_i2l hx hb dX4_hashWithBread_54 rfl ?_
        refine lv_ladd hx hb dX4_hashWithBread_55 ?_
        refine lv_lstore (lv' := [(4, .long ((31 * hash) + (Int32.toInt64 (nI (v_X3_eatersOfBoth T b 0))))), (0, .ref (f 0)), (1, .long st), (3, .int (nI b)), (6, .int (nI wh))]) hx hb dX4_hashWithBread_56 hl (by decide) rfl (fun ls hl => ?_)
        refine lv_ldc2 (v := 31) hx hb hown (hts (.constantLong RX4 250 (31)) (List.mem_of_getElem? (i := 1) rfl)) dX4_hashWithBread_58 ?_
        refine lv_lload hx hb dX4_hashWithBread_61 (lv_at hl 0 rfl) ?_
        refine lv_lmul hx hb dX4_hashWithBread_63 ?_
        refine lv_aload_n hx hb dX4_hashWithBread_64 rfl (lv_at hl 1 rfl) ?_
        refine va_get (D := D) (ci := 4) (v := .ref (o 0)) (C := RX4) (T := TX4) (N := 4) hx hb hts hinX4 hown hK.1 hP 0 rfl rfl 2 (by decide) (hts (.fieldLink RX4 26 "SaltShares" "outlook" "LSaltShares$Outlook;") (List.mem_of_getElem? (i := 3) rfl)) (fun _ h9 => h9) rfl dX4_hashWithBread_65 ?_
        refine lv_aload_n hx hb dX4_hashWithBread_68 rfl (lv_at hl 1 rfl) ?_
        refine va_get (D := D) (ci := 4) (v := .ref (h 0)) (C := RX4) (T := TX4) (N := 4) hx hb hts hinX4 hown hK.1 hP 0 rfl rfl 0 (by decide) (hts (.fieldLink RX4 10 "SaltShares" "town" "LSaltShares$Town;") (List.mem_of_getElem? (i := 2) rfl)) (fun _ h9 => h9) rfl dX4_hashWithBread_69 ?_
        refine lv_iload_n hx hb dX4_hashWithBread_72 rfl (lv_at hl 3 rfl) ?_
        refine lv_bipush (v := 50) hx hb dX4_hashWithBread_73 (by decide) ?_
        refine zcVw (ci := 2) (n := 3) (c_X2_eatersAt l D g o h O T (nI b) 50) hx hb hml hown hts gX4_hashWithBread_X2_eatersAt rfl ⟨rfl, by decide, by decide, by decide⟩ ⟨Nat.le_of_ble_eq_true rfl, Nat.le_of_ble_eq_true rfl⟩ ⟨rfl, rfl⟩ hK (zsubB (cs := [zB_X2 (g 0) o O, zB_X3 (g 0) h T]) hP [2, 1] rfl (zF2 _ _)) (zDsubB (cs := [zB_X2 (g 0) o O, zB_X3 (g 0) h T]) hD [2, 1] (by decide) rfl (zF2 _ _)) rfl rfl rfl hS hl.1 rfl rfl (Nat.le_of_ble_eq_true rfl) ⟨Nat.zero_le _, Nat.zero_le _⟩ dX4_hashWithBread_75 (fun H1 locs hP1 hk1 hS => ?_)
        obtain ⟨hP, hD⟩ := zjoinB (cs := [zB_X2 (g 0) o O, zB_X3 (g 0) h T]) (cs' := [zB_X2 (g 0) o ((v_X2_eatersAt O T (nI b) 50).2), zB_X3 (g 0) h T]) hP hD [2, 1] (by decide) rfl (by simp only [zF, List.flatten_cons, List.flatten_nil, List.append_nil, List.map_append, List.map_cons, List.map_nil, zad_X0, zad_X1, zad_X2, zad_X3, zad_X4, zad_X5]) (zF2 _ _) (zF2 _ _) hk1 hP1
        clear hP1 hk1
        have hP : va_P D vwCl (zF [zB_X4 f h u o x, zB_X3 (g 0) h T, zB_X2 (g 0) o ((v_X2_eatersAt O T (nI b) 50).2)]) H1 := hP
        have hD : va_D (zA (zF [zB_X4 f h u o x, zB_X3 (g 0) h T, zB_X2 (g 0) o O])) (zF [zB_X4 f h u o x, zB_X3 (g 0) h T, zB_X2 (g 0) o ((v_X2_eatersAt O T (nI b) 50).2)]) := hD
        refine lv_i2l hx hb dX4_hashWithBread_78 rfl ?_
        refine lv_ladd hx hb dX4_hashWithBread_79 ?_
        refine lv_lstore (lv' := [(4, .long ((31 * ((31 * hash) + (Int32.toInt64 (nI (v_X3_eatersOfBoth T b 0))))) + (Int32.toInt64 ((v_X2_eatersAt O T (nI b) 50).1)))), (0, .ref (f 0)), (1, .long st), (3, .int (nI b)), (6, .int (nI wh))]) hx hb dX4_hashWithBread_80 hl (by decide) rfl (fun ls hl => ?_)
        refine lv_ldc2 (v := 31) hx hb hown (hts (.constantLong RX4 250 (31)) (List.mem_of_getElem? (i := 1) rfl)) dX4_hashWithBread_82 ?_
        refine lv_lload hx hb dX4_hashWithBread_85 (lv_at hl 0 rfl) ?_
        refine lv_lmul hx hb dX4_hashWithBread_87 ?_
        refine lv_aload_n hx hb dX4_hashWithBread_88 rfl (lv_at hl 1 rfl) ?_
        refine va_get (D := D) (ci := 4) (v := .ref (o 0)) (C := RX4) (T := TX4) (N := 4) hx hb hts hinX4 hown hK.1 hP 0 rfl rfl 2 (by decide) (hts (.fieldLink RX4 26 "SaltShares" "outlook" "LSaltShares$Outlook;") (List.mem_of_getElem? (i := 3) rfl)) (fun _ h9 => h9) rfl dX4_hashWithBread_89 ?_
        refine lv_aload_n hx hb dX4_hashWithBread_92 rfl (lv_at hl 1 rfl) ?_
        refine va_get (D := D) (ci := 4) (v := .ref (h 0)) (C := RX4) (T := TX4) (N := 4) hx hb hts hinX4 hown hK.1 hP 0 rfl rfl 0 (by decide) (hts (.fieldLink RX4 10 "SaltShares" "town" "LSaltShares$Town;") (List.mem_of_getElem? (i := 2) rfl)) (fun _ h9 => h9) rfl dX4_hashWithBread_93 ?_
        refine lv_iload_n hx hb dX4_hashWithBread_96 rfl (lv_at hl 3 rfl) ?_
        refine lv_bipush (v := 75) hx hb dX4_hashWithBread_97 (by decide) ?_
        refine zcVw (ci := 2) (n := 3) (c_X2_leastShare l D g o h ((v_X2_eatersAt O T (nI b) 50).2) T (nI b) 75) hx hb hml hown hts gX4_hashWithBread_X2_leastShare rfl ⟨rfl, by decide, by decide, by decide⟩ ⟨Nat.le_of_ble_eq_true rfl, Nat.le_of_ble_eq_true rfl⟩ ⟨rfl, rfl⟩ hK (zsubB (cs := [zB_X2 (g 0) o ((v_X2_eatersAt O T (nI b) 50).2), zB_X3 (g 0) h T]) hP [2, 1] rfl (zF2 _ _)) (zDsubB (cs := [zB_X2 (g 0) o ((v_X2_eatersAt O T (nI b) 50).2), zB_X3 (g 0) h T]) hD [2, 1] (by decide) rfl (zF2 _ _)) rfl rfl rfl hS hl.1 rfl rfl (Nat.le_of_ble_eq_true rfl) ⟨Nat.zero_le _, Nat.zero_le _⟩ dX4_hashWithBread_99 (fun H1 locs hP1 hk1 hS => ?_)
        obtain ⟨hP, hD⟩ := zjoinB (cs := [zB_X2 (g 0) o ((v_X2_eatersAt O T (nI b) 50).2), zB_X3 (g 0) h T]) (cs' := [zB_X2 (g 0) o ((v_X2_leastShare ((v_X2_eatersAt O T (nI b) 50).2) T (nI b) 75).2), zB_X3 (g 0) h T]) hP hD [2, 1] (by decide) rfl (by simp only [zF, List.flatten_cons, List.flatten_nil, List.append_nil, List.map_append, List.map_cons, List.map_nil, zad_X0, zad_X1, zad_X2, zad_X3, zad_X4, zad_X5]) (zF2 _ _) (zF2 _ _) hk1 hP1
        clear hP1 hk1
        have hP : va_P D vwCl (zF [zB_X4 f h u o x, zB_X3 (g 0) h T, zB_X2 (g 0) o ((v_X2_leastShare ((v_X2_eatersAt O T (nI b) 50).2) T (nI b) 75).2)]) H1 := hP
        have hD : va_D (zA (zF [zB_X4 f h u o x, zB_X3 (g 0) h T, zB_X2 (g 0) o O])) (zF [zB_X4 f h u o x, zB_X3 (g 0) h T, zB_X2 (g 0) o ((v_X2_leastShare ((v_X2_eatersAt O T (nI b) 50).2) T (nI b) 75).2)]) := hD
        refine lv_i2l hx hb dX4_hashWithBread_102 rfl ?_
        refine lv_ladd hx hb dX4_hashWithBread_103 ?_
        refine lv_lstore (lv' := [(4, .long ((31 * ((31 * ((31 * hash) + (Int32.toInt64 (nI (v_X3_eatersOfBoth T b 0))))) + (Int32.toInt64 ((v_X2_eatersAt O T (nI b) 50).1)))) + (Int32.toInt64 ((v_X2_leastShare ((v_X2_eatersAt O T (nI b) 50).2) T (nI b) 75).1)))), (0, .ref (f 0)), (1, .long st), (3, .int (nI b)), (6, .int (nI wh))]) hx hb dX4_hashWithBread_104 hl (by decide) rfl (fun ls hl => ?_)
        refine lv_ldc2 (v := 31) hx hb hown (hts (.constantLong RX4 250 (31)) (List.mem_of_getElem? (i := 1) rfl)) dX4_hashWithBread_106 ?_
        refine lv_lload hx hb dX4_hashWithBread_109 (lv_at hl 0 rfl) ?_
        refine lv_lmul hx hb dX4_hashWithBread_111 ?_
        refine lv_aload_n hx hb dX4_hashWithBread_112 rfl (lv_at hl 1 rfl) ?_
        refine lv_iload_n hx hb dX4_hashWithBread_113 rfl (lv_at hl 3 rfl) ?_
        refine lv_bipush (v := 100) hx hb dX4_hashWithBread_114 (by decide) ?_
        refine zcV (ci := 4) (n := 2) (c_X4_bestSaltFrom l D g f h u o x T (nI b) 100 (by omega)) hx hb hml hown hts gX4_hashWithBread_X4_bestSaltFrom rfl ⟨rfl, by decide, by decide, by decide⟩ ⟨Nat.le_of_ble_eq_true rfl, Nat.le_of_ble_eq_true rfl⟩ ⟨rfl, rfl⟩ hK (zsubB (cs := [zB_X4 f h u o x, zB_X3 (g 0) h T]) hP [0, 1] rfl (zF2 _ _)) rfl rfl rfl hl.1 rfl rfl (Nat.le_of_ble_eq_true rfl) ⟨Nat.zero_le _, Nat.zero_le _⟩ dX4_hashWithBread_116 ?_
        refine lv_i2l hx hb dX4_hashWithBread_119 rfl ?_
        refine lv_ladd hx hb dX4_hashWithBread_120 ?_
        refine lv_lstore (lv' := [(4, .long ((31 * ((31 * ((31 * ((31 * hash) + (Int32.toInt64 (nI (v_X3_eatersOfBoth T b 0))))) + (Int32.toInt64 ((v_X2_eatersAt O T (nI b) 50).1)))) + (Int32.toInt64 ((v_X2_leastShare ((v_X2_eatersAt O T (nI b) 50).2) T (nI b) 75).1)))) + (Int32.toInt64 (v_X4_bestSaltFrom T (nI b) 100)))), (0, .ref (f 0)), (1, .long st), (3, .int (nI b)), (6, .int (nI wh))]) hx hb dX4_hashWithBread_121 hl (by decide) rfl (fun ls hl => ?_)
        refine lv_ldc2 (v := 31) hx hb hown (hts (.constantLong RX4 250 (31)) (List.mem_of_getElem? (i := 1) rfl)) dX4_hashWithBread_123 ?_
        refine lv_lload hx hb dX4_hashWithBread_126 (lv_at hl 0 rfl) ?_
        refine lv_lmul hx hb dX4_hashWithBread_128 ?_
        refine lv_aload_n hx hb dX4_hashWithBread_129 rfl (lv_at hl 1 rfl) ?_
        refine va_get (D := D) (ci := 4) (v := .ref (o 0)) (C := RX4) (T := TX4) (N := 4) hx hb hts hinX4 hown hK.1 hP 0 rfl rfl 2 (by decide) (hts (.fieldLink RX4 26 "SaltShares" "outlook" "LSaltShares$Outlook;") (List.mem_of_getElem? (i := 3) rfl)) (fun _ h9 => h9) rfl dX4_hashWithBread_130 ?_
        refine lv_aload_n hx hb dX4_hashWithBread_133 rfl (lv_at hl 1 rfl) ?_
        refine va_get (D := D) (ci := 4) (v := .ref (h 0)) (C := RX4) (T := TX4) (N := 4) hx hb hts hinX4 hown hK.1 hP 0 rfl rfl 0 (by decide) (hts (.fieldLink RX4 10 "SaltShares" "town" "LSaltShares$Town;") (List.mem_of_getElem? (i := 2) rfl)) (fun _ h9 => h9) rfl dX4_hashWithBread_134 ?_
        refine lv_iload_n hx hb dX4_hashWithBread_137 rfl (lv_at hl 3 rfl) ?_
        refine zcVw (ci := 2) (n := 2) (c_X2_firstNewcomer l D g o h ((v_X2_leastShare ((v_X2_eatersAt O T (nI b) 50).2) T (nI b) 75).2) T (nI b) z1) hx hb hml hown hts gX4_hashWithBread_X2_firstNewcomer rfl ⟨rfl, by decide, by decide, by decide⟩ ⟨Nat.le_of_ble_eq_true rfl, Nat.le_of_ble_eq_true rfl⟩ ⟨rfl, rfl⟩ hK (zsubB (cs := [zB_X2 (g 0) o ((v_X2_leastShare ((v_X2_eatersAt O T (nI b) 50).2) T (nI b) 75).2), zB_X3 (g 0) h T]) hP [2, 1] rfl (zF2 _ _)) (zDsubB (cs := [zB_X2 (g 0) o ((v_X2_leastShare ((v_X2_eatersAt O T (nI b) 50).2) T (nI b) 75).2), zB_X3 (g 0) h T]) hD [2, 1] (by decide) rfl (zF2 _ _)) rfl rfl rfl hS hl.1 rfl rfl (Nat.le_of_ble_eq_true rfl) ⟨Nat.zero_le _, Nat.zero_le _⟩ dX4_hashWithBread_138 (fun H1 locs hP1 hk1 hS => ?_)
        obtain ⟨hP, hD⟩ := zjoinB (cs := [zB_X2 (g 0) o ((v_X2_leastShare ((v_X2_eatersAt O T (nI b) 50).2) T (nI b) 75).2), zB_X3 (g 0) h T]) (cs' := [zB_X2 (g 0) o ((v_X2_firstNewcomer ((v_X2_leastShare ((v_X2_eatersAt O T (nI b) 50).2) T (nI b) 75).2) T (nI b)).2), zB_X3 (g 0) h T]) hP hD [2, 1] (by decide) rfl (by simp only [zF, List.flatten_cons, List.flatten_nil, List.append_nil, List.map_append, List.map_cons, List.map_nil, zad_X0, zad_X1, zad_X2, zad_X3, zad_X4, zad_X5]) (zF2 _ _) (zF2 _ _) hk1 hP1
        clear hP1 hk1
        have hP : va_P D vwCl (zF [zB_X4 f h u o x, zB_X3 (g 0) h T, zB_X2 (g 0) o ((v_X2_firstNewcomer ((v_X2_leastShare ((v_X2_eatersAt O T (nI b) 50).2) T (nI b) 75).2) T (nI b)).2)]) H1 := hP
        have hD : va_D (zA (zF [zB_X4 f h u o x, zB_X3 (g 0) h T, zB_X2 (g 0) o O])) (zF [zB_X4 f h u o x, zB_X3 (g 0) h T, zB_X2 (g 0) o ((v_X2_firstNewcomer ((v_X2_leastShare ((v_X2_eatersAt O T (nI b) 50).2) T (nI b) 75).2) T (nI b)).2)]) := hD
        refine lv_i2l hx hb dX4_hashWithBread_141 rfl ?_
        refine lv_ladd hx hb dX4_hashWithBread_142 ?_
        refine lv_lstore (lv' := [(4, .long ((31 * ((31 * ((31 * ((31 * ((31 * hash) + (Int32.toInt64 (nI (v_X3_eatersOfBoth T b 0))))) + (Int32.toInt64 ((v_X2_eatersAt O T (nI b) 50).1)))) + (Int32.toInt64 ((v_X2_leastShare ((v_X2_eatersAt O T (nI b) 50).2) T (nI b) 75).1)))) + (Int32.toInt64 (v_X4_bestSaltFrom T (nI b) 100)))) + (Int32.toInt64 ((v_X2_firstNewcomer ((v_X2_leastShare ((v_X2_eatersAt O T (nI b) 50).2) T (nI b) 75).2) T (nI b)).1)))), (0, .ref (f 0)), (1, .long st), (3, .int (nI b)), (6, .int (nI wh))]) hx hb dX4_hashWithBread_143 hl (by decide) rfl (fun ls hl => ?_)
        refine lv_ldc2 (v := 31) hx hb hown (hts (.constantLong RX4 250 (31)) (List.mem_of_getElem? (i := 1) rfl)) dX4_hashWithBread_145 ?_
        refine lv_lload hx hb dX4_hashWithBread_148 (lv_at hl 0 rfl) ?_
        refine lv_lmul hx hb dX4_hashWithBread_150 ?_
        refine lv_aload_n hx hb dX4_hashWithBread_151 rfl (lv_at hl 1 rfl) ?_
        refine lv_iload_n hx hb dX4_hashWithBread_152 rfl (lv_at hl 3 rfl) ?_
        refine zcV (ci := 4) (n := 1) (c_X4_partOf l D g f h u o x T b (by omega)) hx hb hml hown hts gX4_hashWithBread_X4_partOf rfl ⟨rfl, by decide, by decide, by decide⟩ ⟨Nat.le_of_ble_eq_true rfl, Nat.le_of_ble_eq_true rfl⟩ ⟨rfl, rfl⟩ hK (zsubB (cs := [zB_X4 f h u o x, zB_X3 (g 0) h T]) hP [0, 1] rfl (zF2 _ _)) rfl rfl rfl hl.1 rfl rfl (Nat.le_of_ble_eq_true rfl) ⟨Nat.zero_le _, Nat.zero_le _⟩ dX4_hashWithBread_153 ?_
        refine zcSO (n := 1) (c_X4_bitsOf l D g (v_X4_partOf T b) (zfin_part T b)) hx hb hml hown hts gX4_hashWithBread_X4_bitsOf rfl ⟨by decide, by decide, by decide⟩ ⟨Nat.le_of_ble_eq_true rfl, Nat.le_of_ble_eq_true rfl⟩ ⟨rfl, rfl⟩ hK (hP.sub [] rfl) hl.1 rfl rfl (Nat.le_of_ble_eq_true rfl) ⟨Nat.zero_le _, Nat.zero_le _⟩ dX4_hashWithBread_156 ?_
        refine lv_ladd hx hb dX4_hashWithBread_159 ?_
        refine lv_lstore (lv' := [(4, .long ((31 * ((31 * ((31 * ((31 * ((31 * ((31 * hash) + (Int32.toInt64 (nI (v_X3_eatersOfBoth T b 0))))) + (Int32.toInt64 ((v_X2_eatersAt O T (nI b) 50).1)))) + (Int32.toInt64 ((v_X2_leastShare ((v_X2_eatersAt O T (nI b) 50).2) T (nI b) 75).1)))) + (Int32.toInt64 (v_X4_bestSaltFrom T (nI b) 100)))) + (Int32.toInt64 ((v_X2_firstNewcomer ((v_X2_leastShare ((v_X2_eatersAt O T (nI b) 50).2) T (nI b) 75).2) T (nI b)).1)))) + (v_X4_bitsOf (v_X4_partOf T b)))), (0, .ref (f 0)), (1, .long st), (3, .int (nI b)), (6, .int (nI wh))]) hx hb dX4_hashWithBread_160 hl (by decide) rfl (fun ls hl => ?_)
        refine lv_aload_n hx hb dX4_hashWithBread_162 rfl (lv_at hl 1 rfl) ?_
        refine va_get (D := D) (ci := 4) (v := .ref (h 0)) (C := RX4) (T := TX4) (N := 4) hx hb hts hinX4 hown hK.1 hP 0 rfl rfl 0 (by decide) (hts (.fieldLink RX4 10 "SaltShares" "town" "LSaltShares$Town;") (List.mem_of_getElem? (i := 2) rfl)) (fun _ h9 => h9) rfl dX4_hashWithBread_163 ?_
        refine lv_iload_n hx hb dX4_hashWithBread_166 rfl (lv_at hl 3 rfl) ?_
        refine zcV (ci := 3) (n := 1) (c_X3_saltOf l D g h T b (by omega)) hx hb hml hown hts gX4_hashWithBread_X3_saltOf rfl ⟨rfl, by decide, by decide, by decide⟩ ⟨Nat.le_of_ble_eq_true rfl, Nat.le_of_ble_eq_true rfl⟩ ⟨rfl, rfl⟩ hK (zsubB (cs := [zB_X3 (g 0) h T]) hP [1] rfl (zF1 _)) rfl rfl rfl hl.1 rfl rfl (Nat.le_of_ble_eq_true rfl) ⟨Nat.zero_le _, Nat.zero_le _⟩ dX4_hashWithBread_167 ?_
        refine lv_istore (lv' := [(6, .int (v_X3_saltOf T b)), (4, .long ((31 * ((31 * ((31 * ((31 * ((31 * ((31 * hash) + (Int32.toInt64 (nI (v_X3_eatersOfBoth T b 0))))) + (Int32.toInt64 ((v_X2_eatersAt O T (nI b) 50).1)))) + (Int32.toInt64 ((v_X2_leastShare ((v_X2_eatersAt O T (nI b) 50).2) T (nI b) 75).1)))) + (Int32.toInt64 (v_X4_bestSaltFrom T (nI b) 100)))) + (Int32.toInt64 ((v_X2_firstNewcomer ((v_X2_leastShare ((v_X2_eatersAt O T (nI b) 50).2) T (nI b) 75).2) T (nI b)).1)))) + (v_X4_bitsOf (v_X4_partOf T b)))), (0, .ref (f 0)), (1, .long st), (3, .int (nI b))]) hx hb dX4_hashWithBread_170 hl (by decide) rfl (fun ls hl => ?_)
        refine lv_iconst (v := 0) hx hb dX4_hashWithBread_172 (by decide) ?_
        refine lv_istore (lv' := [(7, .int 0), (6, .int (v_X3_saltOf T b)), (4, .long ((31 * ((31 * ((31 * ((31 * ((31 * ((31 * hash) + (Int32.toInt64 (nI (v_X3_eatersOfBoth T b 0))))) + (Int32.toInt64 ((v_X2_eatersAt O T (nI b) 50).1)))) + (Int32.toInt64 ((v_X2_leastShare ((v_X2_eatersAt O T (nI b) 50).2) T (nI b) 75).1)))) + (Int32.toInt64 (v_X4_bestSaltFrom T (nI b) 100)))) + (Int32.toInt64 ((v_X2_firstNewcomer ((v_X2_leastShare ((v_X2_eatersAt O T (nI b) 50).2) T (nI b) 75).2) T (nI b)).1)))) + (v_X4_bitsOf (v_X4_partOf T b)))), (0, .ref (f 0)), (1, .long st), (3, .int (nI b))]) hx hb dX4_hashWithBread_173 hl (by decide) rfl (fun ls hl => ?_)
        have L175 : ∀ (n : Nat) (hash' : Int64) (pe : Nat), (pe ≤ 150) → 150 - pe < n → ∀ (H : Heap) (locs : List Loc), va_P D vwCl (zF [zB_X4 f h u o x, zB_X3 (g 0) h T, zB_X2 (g 0) o ((v_X2_firstNewcomer ((v_X2_leastShare ((v_X2_eatersAt O T (nI b) 50).2) T (nI b) 75).2) T (nI b)).2)]) H → va_D (zA (zF [zB_X4 f h u o x, zB_X3 (g 0) h T, zB_X2 (g 0) o O])) (zF [zB_X4 f h u o x, zB_X3 (g 0) h T, zB_X2 (g 0) o ((v_X2_firstNewcomer ((v_X2_leastShare ((v_X2_eatersAt O T (nI b) 50).2) T (nI b) 75).2) T (nI b)).2)]) → va_S (zA (zF [zB_X4 f h u o x, zB_X3 (g 0) h T, zB_X2 (g 0) o O])) s.heap H locs → ∀ (ls : Array Slot), lv_has ls 8 [(0, .ref (f 0)), (1, .long st), (3, .int (nI b)), (4, .long hash'), (6, .int (v_X3_saltOf T b)), (7, .int (nI pe))] → q = v_X4_hashWithBread_175 T O b n hash' pe → W p l e (rmOf 5 114) s m [.ref (f 0), .long st, .int (nI b)].toArray below meth c H locs 0 0 (MQ below (zQw D (zF [zB_X4 f h u o x, zB_X3 (g 0) h T, zB_X2 (g 0) o O]) (some (.long q.1)) (zF [zB_X4 f h u o x, zB_X3 (g 0) h T, zB_X2 (g 0) o q.2])) [.ref (f 0), .long st, .int (nI b)].toArray s 0 0 (zA (zF [zB_X4 f h u o x, zB_X3 (g 0) h T, zB_X2 (g 0) o O]))) (F0 m 175 ls []) := by
          intro n
          induction n with
          | zero => intro hash' pe v175_0 hn; exact absurd hn (Nat.not_lt_zero _)
          | succ n ih175 =>
            intro hash' pe v175_0 hn175 H locs hP hD hS ls hl hq
            rw [v_X4_hashWithBread_175] at hq
            refine lv_iload hx hb dX4_hashWithBread_175 (lv_at hl 5 rfl) ?_
            refine lv_sipush (v := 150) hx hb dX4_hashWithBread_177 (by decide) ?_
            refine lv_icmp_ge (tgt := 211) hx hb dX4_hashWithBread_180 (by decide) (fun c_10 => ?_) (fun c_10 => ?_)
            · have c_10 : 150 ≤ pe := (nI_leI (a := 150) (b := pe) (by omega) (by omega)).mp c_10
              have hq := hq.trans (if_pos c_10)
              refine lv_lload hx hb dX4_hashWithBread_211 (lv_at hl 3 rfl) ?_
              exact zretw_l hx hb hr hlocks dX4_hashWithBread_213 hP hS (congrArg (fun z9 => z9.1) hq) (congrArg (fun z9 => zF [zB_X4 f h u o x, zB_X3 (g 0) h T, zB_X2 (g 0) o z9.2]) hq)
            · have c_10 : ¬ (150 ≤ pe) := fun h9 => c_10 ((nI_leI (a := 150) (b := pe) (by omega) (by omega)).mpr h9)
              have hq := hq.trans (if_neg c_10)
              refine lv_ldc2 (v := 31) hx hb hown (hts (.constantLong RX4 250 (31)) (List.mem_of_getElem? (i := 1) rfl)) dX4_hashWithBread_183 ?_
              refine lv_lload hx hb dX4_hashWithBread_186 (lv_at hl 3 rfl) ?_
              refine lv_lmul hx hb dX4_hashWithBread_188 ?_
              refine lv_aload_n hx hb dX4_hashWithBread_189 rfl (lv_at hl 0 rfl) ?_
              refine va_get (D := D) (ci := 4) (v := .ref (h 0)) (C := RX4) (T := TX4) (N := 4) hx hb hts hinX4 hown hK.1 hP 0 rfl rfl 0 (by decide) (hts (.fieldLink RX4 10 "SaltShares" "town" "LSaltShares$Town;") (List.mem_of_getElem? (i := 2) rfl)) (fun _ h9 => h9) rfl dX4_hashWithBread_190 ?_
              refine lv_iload hx hb dX4_hashWithBread_193 (lv_at hl 5 rfl) ?_
              refine lv_iload_n hx hb dX4_hashWithBread_195 rfl (lv_at hl 2 rfl) ?_
              refine lv_iload hx hb dX4_hashWithBread_196 (lv_at hl 4 rfl) ?_
              refine zcV (ci := 3) (n := 3) (c_X3_reasonBy l D g h T pe b (v_X3_saltOf T b) (by omega) (by omega)) hx hb hml hown hts gX4_hashWithBread_X3_reasonBy rfl ⟨rfl, by decide, by decide, by decide⟩ ⟨Nat.le_of_ble_eq_true rfl, Nat.le_of_ble_eq_true rfl⟩ ⟨rfl, rfl⟩ hK (zsubB (cs := [zB_X3 (g 0) h T]) hP [1] rfl (zF1 _)) rfl rfl rfl hl.1 rfl rfl (Nat.le_of_ble_eq_true rfl) ⟨Nat.zero_le _, Nat.zero_le _⟩ dX4_hashWithBread_198 ?_
              refine lv_i2l hx hb dX4_hashWithBread_201 rfl ?_
              refine lv_ladd hx hb dX4_hashWithBread_202 ?_
              refine lv_lstore (lv' := [(4, .long ((31 * hash') + (Int32.toInt64 (v_X3_reasonBy T pe b (v_X3_saltOf T b))))), (0, .ref (f 0)), (1, .long st), (3, .int (nI b)), (6, .int (v_X3_saltOf T b)), (7, .int (nI pe))]) hx hb dX4_hashWithBread_203 hl (by decide) rfl (fun ls hl => ?_)
              refine lv_iinc (v := (nI (pe + 1))) (lv' := [(7, .int (nI (pe + 1))), (4, .long ((31 * hash') + (Int32.toInt64 (v_X3_reasonBy T pe b (v_X3_saltOf T b))))), (0, .ref (f 0)), (1, .long st), (3, .int (nI b)), (6, .int (v_X3_saltOf T b))]) hx hb dX4_hashWithBread_205 hl (k := 5) rfl (nI_add _ 1) (by decide) rfl (fun ls hl => ?_)
              refine lv_goto (tgt := 175) hx hb dX4_hashWithBread_208 (by decide) ?_
              exact ih175 ((31 * hash') + (Int32.toInt64 (v_X3_reasonBy T pe b (v_X3_saltOf T b)))) (pe + 1) (by omega) (by omega) _ _ hP hD hS ls (lv_sub hl [2, 3, 4, 1, 5, 0] rfl) hq
        exact L175 151 ((31 * ((31 * ((31 * ((31 * ((31 * ((31 * hash) + (Int32.toInt64 (nI (v_X3_eatersOfBoth T b 0))))) + (Int32.toInt64 ((v_X2_eatersAt O T (nI b) 50).1)))) + (Int32.toInt64 ((v_X2_leastShare ((v_X2_eatersAt O T (nI b) 50).2) T (nI b) 75).1)))) + (Int32.toInt64 (v_X4_bestSaltFrom T (nI b) 100)))) + (Int32.toInt64 ((v_X2_firstNewcomer ((v_X2_leastShare ((v_X2_eatersAt O T (nI b) 50).2) T (nI b) 75).2) T (nI b)).1)))) + (v_X4_bitsOf (v_X4_partOf T b))) 0 (by omega) (by omega) _ _ hP hD hS ls (lv_sub hl [3, 4, 5, 2, 1, 0] rfl) hq
      · have c_1 : ¬ (11 < wh) := fun h9 => c_1 ((nI_ltI (a := 11) (b := wh) (by omega) (by omega)).mpr h9)
        have hq := hq.trans (if_neg c_1)
        refine lv_ldc2 (v := 31) hx hb hown (hts (.constantLong RX4 250 (31)) (List.mem_of_getElem? (i := 1) rfl)) dX4_hashWithBread_13 ?_
        refine lv_lload hx hb dX4_hashWithBread_16 (lv_at hl 3 rfl) ?_
        refine lv_lmul hx hb dX4_hashWithBread_18 ?_
        refine lv_aload_n hx hb dX4_hashWithBread_19 rfl (lv_at hl 0 rfl) ?_
        refine va_get (D := D) (ci := 4) (v := .ref (h 0)) (C := RX4) (T := TX4) (N := 4) hx hb hts hinX4 hown hK.1 hP 0 rfl rfl 0 (by decide) (hts (.fieldLink RX4 10 "SaltShares" "town" "LSaltShares$Town;") (List.mem_of_getElem? (i := 2) rfl)) (fun _ h9 => h9) rfl dX4_hashWithBread_20 ?_
        refine lv_iload_n hx hb dX4_hashWithBread_23 rfl (lv_at hl 2 rfl) ?_
        refine lv_iload hx hb dX4_hashWithBread_24 (lv_at hl 4 rfl) ?_
        refine zcV (ci := 3) (n := 2) (c_X3_breadProperty l D g h T b (nI wh) (by omega)) hx hb hml hown hts gX4_hashWithBread_X3_breadProperty rfl ⟨rfl, by decide, by decide, by decide⟩ ⟨Nat.le_of_ble_eq_true rfl, Nat.le_of_ble_eq_true rfl⟩ ⟨rfl, rfl⟩ hK (zsubB (cs := [zB_X3 (g 0) h T]) hP [1] rfl (zF1 _)) rfl rfl rfl hl.1 rfl rfl (Nat.le_of_ble_eq_true rfl) ⟨Nat.zero_le _, Nat.zero_le _⟩ dX4_hashWithBread_26 ?_
        refine lv_i2l hx hb dX4_hashWithBread_29 rfl ?_
        refine lv_ladd hx hb dX4_hashWithBread_30 ?_
        refine lv_lstore (lv' := [(4, .long ((31 * hash) + (Int32.toInt64 (v_X3_breadProperty T b (nI wh))))), (0, .ref (f 0)), (1, .long st), (3, .int (nI b)), (6, .int (nI wh))]) hx hb dX4_hashWithBread_31 hl (by decide) rfl (fun ls hl => ?_)
        refine lv_iinc (v := (nI (wh + 1))) (lv' := [(6, .int (nI (wh + 1))), (4, .long ((31 * hash) + (Int32.toInt64 (v_X3_breadProperty T b (nI wh))))), (0, .ref (f 0)), (1, .long st), (3, .int (nI b))]) hx hb dX4_hashWithBread_33 hl (k := 4) rfl (nI_add _ 1) (by decide) rfl (fun ls hl => ?_)
        refine lv_goto (tgt := 6) hx hb dX4_hashWithBread_36 (by decide) ?_
        exact ih6 ((31 * hash) + (Int32.toInt64 (v_X3_breadProperty T b (nI wh)))) (wh + 1) (by omega) (by omega) _ _ hP hD hS ls (lv_sub hl [2, 3, 4, 1, 0] rfl) hq
  exact L6 13 st 0 (by omega) (by omega) _ _ hP hD hS ls (lv_sub hl [2, 3, 4, 1, 0] rfl) hq
def v_X4_digest_125 (X : Nat → Nat → Int32) (O1 : Nat → Nat → Int32) : Nat → Int64 → Nat → Int64 × (Nat → Nat → Int32)
  | 0, _, _ => (0, (fun _ _ => 0))
  | n + 1, hash''', i' => (if (X 1 0) ≤ (nI i') then (hash''', O1) else (if 60 ≤ i' then (hash''', O1) else v_X4_digest_125 X O1 n ((31 * hash''') + (Int32.toInt64 (X 0 i'))) (i' + 1)))
def v_X4_digest_78 (T : Nat → Nat → Int32) (X : Nat → Nat → Int32) (O1 : Nat → Nat → Int32) : Nat → Int64 → Nat → Int64 × (Nat → Nat → Int32)
  | 0, _, _ => (0, (fun _ _ => 0))
  | n + 1, hash'', i => (if 300 ≤ i then v_X4_digest_125 X O1 61 ((31 * hash'') + (Int32.toInt64 (X 1 0))) 0 else v_X4_digest_78 T X O1 n ((31 * hash'') + (Int32.toInt64 (T 10 i))) (i + 1))
def v_X4_digest_40 (T : Nat → Nat → Int32) (X : Nat → Nat → Int32) : Nat → Int64 → Nat → (Nat → Nat → Int32) → Int64 × (Nat → Nat → Int32)
  | 0, _, _, _ => (0, (fun _ _ => 0))
  | n + 1, hash', b, O1 => (if (T 0 0) ≤ (nI b) then v_X4_digest_78 T X O1 301 (v_X4_hashWithPersons T hash') 0 else (if 8 ≤ b then v_X4_digest_78 T X O1 301 (v_X4_hashWithPersons T hash') 0 else v_X4_digest_40 T X n ((v_X4_hashWithBread T O1 hash' b).1) (b + 1) ((v_X4_hashWithBread T O1 hash' b).2)))
def v_X4_digest_6 (T : Nat → Nat → Int32) (Z : Nat → Nat → Int32) (O : Nat → Nat → Int32) (X : Nat → Nat → Int32) : Nat → Int64 → Nat → Int64 × (Nat → Nat → Int32)
  | 0, _, _ => (0, (fun _ _ => 0))
  | n + 1, hash, wh => (if 22 < wh then v_X4_digest_40 T X 9 hash 0 O else (if (v_X4_isCounted (nI wh)) = true then v_X4_digest_6 T Z O X n ((31 * hash) + (Int32.toInt64 (v_X4_numberOf Z T (nI wh)))) (wh + 1) else v_X4_digest_6 T Z O X n hash (wh + 1)))
def v_X4_digest (T : Nat → Nat → Int32) (Z : Nat → Nat → Int32) (O : Nat → Nat → Int32) (X : Nat → Nat → Int32) : Int64 × (Nat → Nat → Int32) := v_X4_digest_6 T Z O X 24 2459 0
set_option maxHeartbeats 400000 in
set_option maxRecDepth 100000 in
theorem c_X4_digest (l : Launch) (D : va_G) (g : Nat → ClassId) (f : Nat → Nat) (h : Nat → Nat) (u : Nat → Nat) (o : Nat → Nat) (x : Nat → Nat) (t0 : Nat → Nat) (t1 : Nat → Nat) (t2 : Nat → Nat) (t3 : Nat → Nat) (t4 : Nat → Nat) (t5 : Nat → Nat) (T : Nat → Nat → Int32) (Z : Nat → Nat → Int32) (O : Nat → Nat → Int32) (X : Nat → Nat → Int32) (z0 : ∀ b : Nat, b < 8 → vp_in (T 7 b) 101) : Wr l D (zT g) yX4_digest wsX4_digest (rmOf 6 141) [.ref (f 0)] (zF [zB_X4 f h u o x, zB_X3 (g 0) h T, zB_X1 (g 1) u t0 t1 t2 t3 t4 t5 Z, zB_X2 (g 0) o O, zB_X0 (g 0) x X]) (some (.long ((v_X4_digest T Z O X).1))) (zF [zB_X4 f h u o x, zB_X3 (g 0) h T, zB_X1 (g 1) u t0 t1 t2 t3 t4 t5 Z, zB_X2 (g 0) o ((v_X4_digest T Z O X).2), zB_X0 (g 0) x X]) := by
  refine Wr.of (cc := cX4_digest) (maxL := 4) (ret := (some .long)) (by decide) rfl (Nat.le_of_ble_eq_true rfl) ?_
  intro p e s m below meth c ls hx hb hr hml hown hts hlocks hP hD hS hK hl
  have hown : s.vm.findClass RX4 = some m.cls := hown
  have hinX0 : ∀ w ∈ u_ws RX0 TX0 7, w ∈ wsX4_digest := fun _ h9 => (List.mem_cons_of_mem _ (List.mem_append_left _ (List.mem_append_left _ (List.mem_append_right _ h9))))
  have hinX3 : ∀ w ∈ u_ws RX3 TX3 15, w ∈ wsX4_digest := fun _ h9 => (List.mem_cons_of_mem _ (List.mem_append_left _ (List.mem_append_left _ (List.mem_append_left _ (List.mem_append_right _ h9)))))
  have hinX4 : ∀ w ∈ u_ws RX4 TX4 4, w ∈ wsX4_digest := fun _ h9 => (List.mem_cons_of_mem _ (List.mem_append_left _ (List.mem_append_left _ (List.mem_append_left _ (List.mem_append_left _ (List.mem_append_right _ h9))))))
  obtain ⟨q, hq⟩ : ∃ q : Int64 × (Nat → Nat → Int32), q = v_X4_digest T Z O X := ⟨_, rfl⟩
  rw [← hq]
  unfold v_X4_digest at hq
  have hl : lv_has ls 4 [(0, .ref (f 0))] := hl
  refine lv_ldc2 (v := 2459) hx hb hown (hts (.constantLong RX4 248 (2459)) (List.mem_of_getElem? (i := 1) rfl)) dX4_digest_0 ?_
  refine lv_lstore_n (lv' := [(1, .long 2459), (0, .ref (f 0))]) hx hb dX4_digest_3 rfl hl (by decide) rfl (fun ls hl => ?_)
  refine lv_iconst (v := 0) hx hb dX4_digest_4 (by decide) ?_
  refine lv_istore_n (lv' := [(3, .int 0), (1, .long 2459), (0, .ref (f 0))]) hx hb dX4_digest_5 rfl hl (by decide) rfl (fun ls hl => ?_)
  have L6 : ∀ (n : Nat) (hash : Int64) (wh : Nat), (wh ≤ 23) → 23 - wh < n → ∀ (H : Heap) (locs : List Loc), va_P D vwCl (zF [zB_X4 f h u o x, zB_X3 (g 0) h T, zB_X1 (g 1) u t0 t1 t2 t3 t4 t5 Z, zB_X2 (g 0) o O, zB_X0 (g 0) x X]) H → va_D (zA (zF [zB_X4 f h u o x, zB_X3 (g 0) h T, zB_X1 (g 1) u t0 t1 t2 t3 t4 t5 Z, zB_X2 (g 0) o O, zB_X0 (g 0) x X])) (zF [zB_X4 f h u o x, zB_X3 (g 0) h T, zB_X1 (g 1) u t0 t1 t2 t3 t4 t5 Z, zB_X2 (g 0) o O, zB_X0 (g 0) x X]) → va_S (zA (zF [zB_X4 f h u o x, zB_X3 (g 0) h T, zB_X1 (g 1) u t0 t1 t2 t3 t4 t5 Z, zB_X2 (g 0) o O, zB_X0 (g 0) x X])) s.heap H locs → ∀ (ls : Array Slot), lv_has ls 4 [(0, .ref (f 0)), (1, .long hash), (3, .int (nI wh))] → q = v_X4_digest_6 T Z O X n hash wh → W p l e (rmOf 6 141) s m [.ref (f 0)].toArray below meth c H locs 0 0 (MQ below (zQw D (zF [zB_X4 f h u o x, zB_X3 (g 0) h T, zB_X1 (g 1) u t0 t1 t2 t3 t4 t5 Z, zB_X2 (g 0) o O, zB_X0 (g 0) x X]) (some (.long q.1)) (zF [zB_X4 f h u o x, zB_X3 (g 0) h T, zB_X1 (g 1) u t0 t1 t2 t3 t4 t5 Z, zB_X2 (g 0) o q.2, zB_X0 (g 0) x X])) [.ref (f 0)].toArray s 0 0 (zA (zF [zB_X4 f h u o x, zB_X3 (g 0) h T, zB_X1 (g 1) u t0 t1 t2 t3 t4 t5 Z, zB_X2 (g 0) o O, zB_X0 (g 0) x X]))) (F0 m 6 ls []) := by
    intro n
    induction n with
    | zero => intro hash wh v6_0 hn; exact absurd hn (Nat.not_lt_zero _)
    | succ n ih6 =>
      intro hash wh v6_0 hn6 H locs hP hD hS ls hl hq
      rw [v_X4_digest_6] at hq
      refine lv_iload_n hx hb dX4_digest_6 rfl (lv_at hl 2 rfl) ?_
      refine lv_bipush (v := 22) hx hb dX4_digest_7 (by decide) ?_
      refine lv_icmp_gt (tgt := 38) hx hb dX4_digest_9 (by decide) (fun c_1 => ?_) (fun c_1 => ?_)
      · have c_1 : 22 < wh := (nI_ltI (a := 22) (b := wh) (by omega) (by omega)).mp c_1
        have hq := hq.trans (if_pos c_1)
        refine lv_iconst (v := 0) hx hb dX4_digest_38 (by decide) ?_
        refine lv_istore_n (lv' := [(3, .int 0), (0, .ref (f 0)), (1, .long hash)]) hx hb dX4_digest_39 rfl hl (by decide) rfl (fun ls hl => ?_)
        have L40 : ∀ (n : Nat) (hash' : Int64) (b : Nat) (O1 : Nat → Nat → Int32), (b ≤ 8) → 8 - b < n → ∀ (H : Heap) (locs : List Loc), va_P D vwCl (zF [zB_X4 f h u o x, zB_X3 (g 0) h T, zB_X1 (g 1) u t0 t1 t2 t3 t4 t5 Z, zB_X2 (g 0) o O1, zB_X0 (g 0) x X]) H → va_D (zA (zF [zB_X4 f h u o x, zB_X3 (g 0) h T, zB_X1 (g 1) u t0 t1 t2 t3 t4 t5 Z, zB_X2 (g 0) o O, zB_X0 (g 0) x X])) (zF [zB_X4 f h u o x, zB_X3 (g 0) h T, zB_X1 (g 1) u t0 t1 t2 t3 t4 t5 Z, zB_X2 (g 0) o O1, zB_X0 (g 0) x X]) → va_S (zA (zF [zB_X4 f h u o x, zB_X3 (g 0) h T, zB_X1 (g 1) u t0 t1 t2 t3 t4 t5 Z, zB_X2 (g 0) o O, zB_X0 (g 0) x X])) s.heap H locs → ∀ (ls : Array Slot), lv_has ls 4 [(0, .ref (f 0)), (1, .long hash'), (3, .int (nI b))] → q = v_X4_digest_40 T X n hash' b O1 → W p l e (rmOf 6 141) s m [.ref (f 0)].toArray below meth c H locs 0 0 (MQ below (zQw D (zF [zB_X4 f h u o x, zB_X3 (g 0) h T, zB_X1 (g 1) u t0 t1 t2 t3 t4 t5 Z, zB_X2 (g 0) o O, zB_X0 (g 0) x X]) (some (.long q.1)) (zF [zB_X4 f h u o x, zB_X3 (g 0) h T, zB_X1 (g 1) u t0 t1 t2 t3 t4 t5 Z, zB_X2 (g 0) o q.2, zB_X0 (g 0) x X])) [.ref (f 0)].toArray s 0 0 (zA (zF [zB_X4 f h u o x, zB_X3 (g 0) h T, zB_X1 (g 1) u t0 t1 t2 t3 t4 t5 Z, zB_X2 (g 0) o O, zB_X0 (g 0) x X]))) (F0 m 40 ls []) := by
          intro n
          induction n with
          | zero => intro hash' b O1 v40_0 hn; exact absurd hn (Nat.not_lt_zero _)
          | succ n ih40 =>
            intro hash' b O1 v40_0 hn40 H locs hP hD hS ls hl hq
            rw [v_X4_digest_40] at hq
            refine lv_iload_n hx hb dX4_digest_40 rfl (lv_at hl 2 rfl) ?_
            refine lv_aload_n hx hb dX4_digest_41 rfl (lv_at hl 0 rfl) ?_
            refine va_get (D := D) (ci := 4) (v := .ref (h 0)) (C := RX4) (T := TX4) (N := 4) hx hb hts hinX4 hown hK.1 hP 0 rfl rfl 0 (by decide) (hts (.fieldLink RX4 10 "SaltShares" "town" "LSaltShares$Town;") (List.mem_of_getElem? (i := 3) rfl)) (fun _ h9 => h9) rfl dX4_digest_42 ?_
            refine va_get (D := D) (ci := 3) (v := .int (T 0 0)) (C := RX3) (T := TX3) (N := 15) hx hb hts hinX3 hown hK.1 hP 1 rfl rfl 0 (by decide) (hts (.fieldLink RX4 52 "SaltShares$Town" "breads" "I") (List.mem_of_getElem? (i := 4) rfl)) (fun _ h9 => h9) rfl dX4_digest_45 ?_
            refine lv_icmp_ge (tgt := 70) hx hb dX4_digest_48 (by decide) (fun c_2 => ?_) (fun c_2 => ?_)
            · have c_2 : (T 0 0) ≤ (nI b) := c_2
              have hq := hq.trans (if_pos c_2)
              refine lv_aload_n hx hb dX4_digest_70 rfl (lv_at hl 0 rfl) ?_
              refine lv_lload_n hx hb dX4_digest_71 rfl (lv_at hl 1 rfl) ?_
              refine zcV (ci := 4) (n := 1) (c_X4_hashWithPersons l D g f h u o x T hash') hx hb hml hown hts gX4_digest_X4_hashWithPersons rfl ⟨rfl, by decide, by decide, by decide⟩ ⟨Nat.le_of_ble_eq_true rfl, Nat.le_of_ble_eq_true rfl⟩ ⟨rfl, rfl⟩ hK (zsubB (cs := [zB_X4 f h u o x, zB_X3 (g 0) h T]) hP [0, 1] rfl (zF2 _ _)) rfl rfl rfl hl.1 rfl rfl (Nat.le_of_ble_eq_true rfl) ⟨Nat.zero_le _, Nat.zero_le _⟩ dX4_digest_72 ?_
              refine lv_lstore_n (lv' := [(1, .long (v_X4_hashWithPersons T hash')), (0, .ref (f 0)), (3, .int (nI b))]) hx hb dX4_digest_75 rfl hl (by decide) rfl (fun ls hl => ?_)
              refine lv_iconst (v := 0) hx hb dX4_digest_76 (by decide) ?_
              refine lv_istore_n (lv' := [(3, .int 0), (1, .long (v_X4_hashWithPersons T hash')), (0, .ref (f 0))]) hx hb dX4_digest_77 rfl hl (by decide) rfl (fun ls hl => ?_)
              have L78 : ∀ (n : Nat) (hash'' : Int64) (i : Nat), (i ≤ 300) → 300 - i < n → ∀ (H : Heap) (locs : List Loc), va_P D vwCl (zF [zB_X4 f h u o x, zB_X3 (g 0) h T, zB_X1 (g 1) u t0 t1 t2 t3 t4 t5 Z, zB_X2 (g 0) o O1, zB_X0 (g 0) x X]) H → va_D (zA (zF [zB_X4 f h u o x, zB_X3 (g 0) h T, zB_X1 (g 1) u t0 t1 t2 t3 t4 t5 Z, zB_X2 (g 0) o O, zB_X0 (g 0) x X])) (zF [zB_X4 f h u o x, zB_X3 (g 0) h T, zB_X1 (g 1) u t0 t1 t2 t3 t4 t5 Z, zB_X2 (g 0) o O1, zB_X0 (g 0) x X]) → va_S (zA (zF [zB_X4 f h u o x, zB_X3 (g 0) h T, zB_X1 (g 1) u t0 t1 t2 t3 t4 t5 Z, zB_X2 (g 0) o O, zB_X0 (g 0) x X])) s.heap H locs → ∀ (ls : Array Slot), lv_has ls 4 [(0, .ref (f 0)), (1, .long hash''), (3, .int (nI i))] → q = v_X4_digest_78 T X O1 n hash'' i → W p l e (rmOf 6 141) s m [.ref (f 0)].toArray below meth c H locs 0 0 (MQ below (zQw D (zF [zB_X4 f h u o x, zB_X3 (g 0) h T, zB_X1 (g 1) u t0 t1 t2 t3 t4 t5 Z, zB_X2 (g 0) o O, zB_X0 (g 0) x X]) (some (.long q.1)) (zF [zB_X4 f h u o x, zB_X3 (g 0) h T, zB_X1 (g 1) u t0 t1 t2 t3 t4 t5 Z, zB_X2 (g 0) o q.2, zB_X0 (g 0) x X])) [.ref (f 0)].toArray s 0 0 (zA (zF [zB_X4 f h u o x, zB_X3 (g 0) h T, zB_X1 (g 1) u t0 t1 t2 t3 t4 t5 Z, zB_X2 (g 0) o O, zB_X0 (g 0) x X]))) (F0 m 78 ls []) := by
                intro n
                induction n with
                | zero => intro hash'' i v78_0 hn; exact absurd hn (Nat.not_lt_zero _)
                | succ n ih78 =>
                  intro hash'' i v78_0 hn78 H locs hP hD hS ls hl hq
                  rw [v_X4_digest_78] at hq
                  refine lv_iload_n hx hb dX4_digest_78 rfl (lv_at hl 2 rfl) ?_
                  refine lv_sipush (v := 300) hx hb dX4_digest_79 (by decide) ?_
                  refine lv_icmp_ge (tgt := 108) hx hb dX4_digest_82 (by decide) (fun c_4 => ?_) (fun c_4 => ?_)
                  · have c_4 : 300 ≤ i := (nI_leI (a := 300) (b := i) (by omega) (by omega)).mp c_4
                    have hq := hq.trans (if_pos c_4)
                    refine lv_ldc2 (v := 31) hx hb hown (hts (.constantLong RX4 250 (31)) (List.mem_of_getElem? (i := 2) rfl)) dX4_digest_108 ?_
                    refine lv_lload_n hx hb dX4_digest_111 rfl (lv_at hl 1 rfl) ?_
                    refine lv_lmul hx hb dX4_digest_112 ?_
                    refine lv_aload_n hx hb dX4_digest_113 rfl (lv_at hl 0 rfl) ?_
                    refine va_get (D := D) (ci := 4) (v := .ref (x 0)) (C := RX4) (T := TX4) (N := 4) hx hb hts hinX4 hown hK.1 hP 0 rfl rfl 3 (by decide) (hts (.fieldLink RX4 33 "SaltShares" "text" "LSaltShares$CommandText;") (List.mem_of_getElem? (i := 6) rfl)) (fun _ h9 => h9) rfl dX4_digest_114 ?_
                    refine va_get (D := D) (ci := 0) (v := .int (X 1 0)) (C := RX0) (T := TX0) (N := 7) hx hb hts hinX0 hown hK.1 hP 18 rfl rfl 1 (by decide) (hts (.fieldLink RX4 166 "SaltShares$CommandText" "length" "I") (List.mem_of_getElem? (i := 7) rfl)) (fun _ h9 => h9) rfl dX4_digest_117 ?_
                    refine lv_i2l hx hb dX4_digest_120 rfl ?_
                    refine lv_ladd hx hb dX4_digest_121 ?_
                    refine lv_lstore_n (lv' := [(1, .long ((31 * hash'') + (Int32.toInt64 (X 1 0)))), (0, .ref (f 0)), (3, .int (nI i))]) hx hb dX4_digest_122 rfl hl (by decide) rfl (fun ls hl => ?_)
                    refine lv_iconst (v := 0) hx hb dX4_digest_123 (by decide) ?_
                    refine lv_istore_n (lv' := [(3, .int 0), (1, .long ((31 * hash'') + (Int32.toInt64 (X 1 0)))), (0, .ref (f 0))]) hx hb dX4_digest_124 rfl hl (by decide) rfl (fun ls hl => ?_)
                    have L125 : ∀ (n : Nat) (hash''' : Int64) (i' : Nat), (i' ≤ 60) → 60 - i' < n → ∀ (H : Heap) (locs : List Loc), va_P D vwCl (zF [zB_X4 f h u o x, zB_X3 (g 0) h T, zB_X1 (g 1) u t0 t1 t2 t3 t4 t5 Z, zB_X2 (g 0) o O1, zB_X0 (g 0) x X]) H → va_D (zA (zF [zB_X4 f h u o x, zB_X3 (g 0) h T, zB_X1 (g 1) u t0 t1 t2 t3 t4 t5 Z, zB_X2 (g 0) o O, zB_X0 (g 0) x X])) (zF [zB_X4 f h u o x, zB_X3 (g 0) h T, zB_X1 (g 1) u t0 t1 t2 t3 t4 t5 Z, zB_X2 (g 0) o O1, zB_X0 (g 0) x X]) → va_S (zA (zF [zB_X4 f h u o x, zB_X3 (g 0) h T, zB_X1 (g 1) u t0 t1 t2 t3 t4 t5 Z, zB_X2 (g 0) o O, zB_X0 (g 0) x X])) s.heap H locs → ∀ (ls : Array Slot), lv_has ls 4 [(0, .ref (f 0)), (1, .long hash'''), (3, .int (nI i'))] → q = v_X4_digest_125 X O1 n hash''' i' → W p l e (rmOf 6 141) s m [.ref (f 0)].toArray below meth c H locs 0 0 (MQ below (zQw D (zF [zB_X4 f h u o x, zB_X3 (g 0) h T, zB_X1 (g 1) u t0 t1 t2 t3 t4 t5 Z, zB_X2 (g 0) o O, zB_X0 (g 0) x X]) (some (.long q.1)) (zF [zB_X4 f h u o x, zB_X3 (g 0) h T, zB_X1 (g 1) u t0 t1 t2 t3 t4 t5 Z, zB_X2 (g 0) o q.2, zB_X0 (g 0) x X])) [.ref (f 0)].toArray s 0 0 (zA (zF [zB_X4 f h u o x, zB_X3 (g 0) h T, zB_X1 (g 1) u t0 t1 t2 t3 t4 t5 Z, zB_X2 (g 0) o O, zB_X0 (g 0) x X]))) (F0 m 125 ls []) := by
                      intro n
                      induction n with
                      | zero => intro hash''' i' v125_0 hn; exact absurd hn (Nat.not_lt_zero _)
                      | succ n ih125 =>
                        intro hash''' i' v125_0 hn125 H locs hP hD hS ls hl hq
                        rw [v_X4_digest_125] at hq
                        refine lv_iload_n hx hb dX4_digest_125 rfl (lv_at hl 2 rfl) ?_
                        refine lv_aload_n hx hb dX4_digest_126 rfl (lv_at hl 0 rfl) ?_
                        refine va_get (D := D) (ci := 4) (v := .ref (x 0)) (C := RX4) (T := TX4) (N := 4) hx hb hts hinX4 hown hK.1 hP 0 rfl rfl 3 (by decide) (hts (.fieldLink RX4 33 "SaltShares" "text" "LSaltShares$CommandText;") (List.mem_of_getElem? (i := 6) rfl)) (fun _ h9 => h9) rfl dX4_digest_127 ?_
                        refine va_get (D := D) (ci := 0) (v := .int (X 1 0)) (C := RX0) (T := TX0) (N := 7) hx hb hts hinX0 hown hK.1 hP 18 rfl rfl 1 (by decide) (hts (.fieldLink RX4 166 "SaltShares$CommandText" "length" "I") (List.mem_of_getElem? (i := 7) rfl)) (fun _ h9 => h9) rfl dX4_digest_130 ?_
                        refine lv_icmp_ge (tgt := 165) hx hb dX4_digest_133 (by decide) (fun c_5 => ?_) (fun c_5 => ?_)
                        · have c_5 : (X 1 0) ≤ (nI i') := c_5
                          have hq := hq.trans (if_pos c_5)
                          refine lv_lload_n hx hb dX4_digest_165 rfl (lv_at hl 1 rfl) ?_
                          exact zretw_l hx hb hr hlocks dX4_digest_166 hP hS (congrArg (fun z9 => z9.1) hq) (congrArg (fun z9 => zF [zB_X4 f h u o x, zB_X3 (g 0) h T, zB_X1 (g 1) u t0 t1 t2 t3 t4 t5 Z, zB_X2 (g 0) o z9.2, zB_X0 (g 0) x X]) hq)
                        · have c_5 : ¬ ((X 1 0) ≤ (nI i')) := c_5
                          have hq := hq.trans (if_neg c_5)
                          refine lv_iload_n hx hb dX4_digest_136 rfl (lv_at hl 2 rfl) ?_
                          refine lv_bipush (v := 60) hx hb dX4_digest_137 (by decide) ?_
                          refine lv_icmp_ge (tgt := 165) hx hb dX4_digest_139 (by decide) (fun c_6 => ?_) (fun c_6 => ?_)
                          · have c_6 : 60 ≤ i' := (nI_leI (a := 60) (b := i') (by omega) (by omega)).mp c_6
                            have hq := hq.trans (if_pos c_6)
                            refine lv_lload_n hx hb dX4_digest_165 rfl (lv_at hl 1 rfl) ?_
                            exact zretw_l hx hb hr hlocks dX4_digest_166 hP hS (congrArg (fun z9 => z9.1) hq) (congrArg (fun z9 => zF [zB_X4 f h u o x, zB_X3 (g 0) h T, zB_X1 (g 1) u t0 t1 t2 t3 t4 t5 Z, zB_X2 (g 0) o z9.2, zB_X0 (g 0) x X]) hq)
                          · have c_6 : ¬ (60 ≤ i') := fun h9 => c_6 ((nI_leI (a := 60) (b := i') (by omega) (by omega)).mpr h9)
                            have hq := hq.trans (if_neg c_6)
                            refine lv_ldc2 (v := 31) hx hb hown (hts (.constantLong RX4 250 (31)) (List.mem_of_getElem? (i := 2) rfl)) dX4_digest_142 ?_
                            refine lv_lload_n hx hb dX4_digest_145 rfl (lv_at hl 1 rfl) ?_
                            refine lv_lmul hx hb dX4_digest_146 ?_
                            refine lv_aload_n hx hb dX4_digest_147 rfl (lv_at hl 0 rfl) ?_
                            refine va_get (D := D) (ci := 4) (v := .ref (x 0)) (C := RX4) (T := TX4) (N := 4) hx hb hts hinX4 hown hK.1 hP 0 rfl rfl 3 (by decide) (hts (.fieldLink RX4 33 "SaltShares" "text" "LSaltShares$CommandText;") (List.mem_of_getElem? (i := 6) rfl)) (fun _ h9 => h9) rfl dX4_digest_148 ?_
                            refine va_get (D := D) (ci := 0) (v := .ref (x 1)) (C := RX0) (T := TX0) (N := 7) hx hb hts hinX0 hown hK.1 hP 18 rfl rfl 0 (by decide) (hts (.fieldLink RX4 260 "SaltShares$CommandText" "codes" "[I") (List.mem_of_getElem? (i := 8) rfl)) (fun _ h9 => h9) rfl dX4_digest_151 ?_
                            refine lv_iload_n hx hb dX4_digest_154 rfl (lv_at hl 2 rfl) ?_
                            refine z_iald (i := i') hx hb hK hP 19 0 rfl rfl (by omega) (by decide) dX4_digest_155 ?_
                            refine lv_i2l hx hb dX4_digest_156 rfl ?_
                            refine lv_ladd hx hb dX4_digest_157 ?_
                            refine lv_lstore_n (lv' := [(1, .long ((31 * hash''') + (Int32.toInt64 (X 0 i')))), (0, .ref (f 0)), (3, .int (nI i'))]) hx hb dX4_digest_158 rfl hl (by decide) rfl (fun ls hl => ?_)
                            refine lv_iinc (v := (nI (i' + 1))) (lv' := [(3, .int (nI (i' + 1))), (1, .long ((31 * hash''') + (Int32.toInt64 (X 0 i')))), (0, .ref (f 0))]) hx hb dX4_digest_159 hl (k := 2) rfl (nI_add _ 1) (by decide) rfl (fun ls hl => ?_)
                            refine lv_goto (tgt := 125) hx hb dX4_digest_162 (by decide) ?_
                            exact ih125 ((31 * hash''') + (Int32.toInt64 (X 0 i'))) (i' + 1) (by omega) (by omega) _ _ hP hD hS ls (lv_sub hl [2, 1, 0] rfl) hq
                    exact L125 61 ((31 * hash'') + (Int32.toInt64 (X 1 0))) 0 (by omega) (by omega) _ _ hP hD hS ls (lv_sub hl [2, 1, 0] rfl) hq
                  · have c_4 : ¬ (300 ≤ i) := fun h9 => c_4 ((nI_leI (a := 300) (b := i) (by omega) (by omega)).mpr h9)
                    have hq := hq.trans (if_neg c_4)
                    refine lv_ldc2 (v := 31) hx hb hown (hts (.constantLong RX4 250 (31)) (List.mem_of_getElem? (i := 2) rfl)) dX4_digest_85 ?_
                    refine lv_lload_n hx hb dX4_digest_88 rfl (lv_at hl 1 rfl) ?_
                    refine lv_lmul hx hb dX4_digest_89 ?_
                    refine lv_aload_n hx hb dX4_digest_90 rfl (lv_at hl 0 rfl) ?_
                    refine va_get (D := D) (ci := 4) (v := .ref (h 0)) (C := RX4) (T := TX4) (N := 4) hx hb hts hinX4 hown hK.1 hP 0 rfl rfl 0 (by decide) (hts (.fieldLink RX4 10 "SaltShares" "town" "LSaltShares$Town;") (List.mem_of_getElem? (i := 3) rfl)) (fun _ h9 => h9) rfl dX4_digest_91 ?_
                    refine va_get (D := D) (ci := 3) (v := .ref (h 11)) (C := RX3) (T := TX3) (N := 15) hx hb hts hinX3 hown hK.1 hP 1 rfl rfl 10 (by decide) (hts (.fieldLink RX4 214 "SaltShares$Town" "ownerOf" "[I") (List.mem_of_getElem? (i := 5) rfl)) (fun _ h9 => h9) rfl dX4_digest_94 ?_
                    refine lv_iload_n hx hb dX4_digest_97 rfl (lv_at hl 2 rfl) ?_
                    refine z_iald (i := i) hx hb hK hP 7 0 rfl rfl (by omega) (by decide) dX4_digest_98 ?_
                    refine lv_i2l hx hb dX4_digest_99 rfl ?_
                    refine lv_ladd hx hb dX4_digest_100 ?_
                    refine lv_lstore_n (lv' := [(1, .long ((31 * hash'') + (Int32.toInt64 (T 10 i)))), (0, .ref (f 0)), (3, .int (nI i))]) hx hb dX4_digest_101 rfl hl (by decide) rfl (fun ls hl => ?_)
                    refine lv_iinc (v := (nI (i + 1))) (lv' := [(3, .int (nI (i + 1))), (1, .long ((31 * hash'') + (Int32.toInt64 (T 10 i)))), (0, .ref (f 0))]) hx hb dX4_digest_102 hl (k := 2) rfl (nI_add _ 1) (by decide) rfl (fun ls hl => ?_)
                    refine lv_goto (tgt := 78) hx hb dX4_digest_105 (by decide) ?_
                    exact ih78 ((31 * hash'') + (Int32.toInt64 (T 10 i))) (i + 1) (by omega) (by omega) _ _ hP hD hS ls (lv_sub hl [2, 1, 0] rfl) hq
              exact L78 301 (v_X4_hashWithPersons T hash') 0 (by omega) (by omega) _ _ hP hD hS ls (lv_sub hl [2, 1, 0] rfl) hq
            · have c_2 : ¬ ((T 0 0) ≤ (nI b)) := c_2
              have hq := hq.trans (if_neg c_2)
              refine lv_iload_n hx hb dX4_digest_51 rfl (lv_at hl 2 rfl) ?_
              refine lv_bipush (v := 8) hx hb dX4_digest_52 (by decide) ?_
              refine lv_icmp_ge (tgt := 70) hx hb dX4_digest_54 (by decide) (fun c_7 => ?_) (fun c_7 => ?_)
              · have c_7 : 8 ≤ b := (nI_leI (a := 8) (b := b) (by omega) (by omega)).mp c_7
                have hq := hq.trans (if_pos c_7)
                refine lv_aload_n hx hb dX4_digest_70 rfl (lv_at hl 0 rfl) ?_
                refine lv_lload_n hx hb dX4_digest_71 rfl (lv_at hl 1 rfl) ?_
                refine zcV (ci := 4) (n := 1) (c_X4_hashWithPersons l D g f h u o x T hash') hx hb hml hown hts gX4_digest_X4_hashWithPersons rfl ⟨rfl, by decide, by decide, by decide⟩ ⟨Nat.le_of_ble_eq_true rfl, Nat.le_of_ble_eq_true rfl⟩ ⟨rfl, rfl⟩ hK (zsubB (cs := [zB_X4 f h u o x, zB_X3 (g 0) h T]) hP [0, 1] rfl (zF2 _ _)) rfl rfl rfl hl.1 rfl rfl (Nat.le_of_ble_eq_true rfl) ⟨Nat.zero_le _, Nat.zero_le _⟩ dX4_digest_72 ?_
                refine lv_lstore_n (lv' := [(1, .long (v_X4_hashWithPersons T hash')), (0, .ref (f 0)), (3, .int (nI b))]) hx hb dX4_digest_75 rfl hl (by decide) rfl (fun ls hl => ?_)
                refine lv_iconst (v := 0) hx hb dX4_digest_76 (by decide) ?_
                refine lv_istore_n (lv' := [(3, .int 0), (1, .long (v_X4_hashWithPersons T hash')), (0, .ref (f 0))]) hx hb dX4_digest_77 rfl hl (by decide) rfl (fun ls hl => ?_)
                have L78 : ∀ (n : Nat) (hash'' : Int64) (i : Nat), (i ≤ 300) → 300 - i < n → ∀ (H : Heap) (locs : List Loc), va_P D vwCl (zF [zB_X4 f h u o x, zB_X3 (g 0) h T, zB_X1 (g 1) u t0 t1 t2 t3 t4 t5 Z, zB_X2 (g 0) o O1, zB_X0 (g 0) x X]) H → va_D (zA (zF [zB_X4 f h u o x, zB_X3 (g 0) h T, zB_X1 (g 1) u t0 t1 t2 t3 t4 t5 Z, zB_X2 (g 0) o O, zB_X0 (g 0) x X])) (zF [zB_X4 f h u o x, zB_X3 (g 0) h T, zB_X1 (g 1) u t0 t1 t2 t3 t4 t5 Z, zB_X2 (g 0) o O1, zB_X0 (g 0) x X]) → va_S (zA (zF [zB_X4 f h u o x, zB_X3 (g 0) h T, zB_X1 (g 1) u t0 t1 t2 t3 t4 t5 Z, zB_X2 (g 0) o O, zB_X0 (g 0) x X])) s.heap H locs → ∀ (ls : Array Slot), lv_has ls 4 [(0, .ref (f 0)), (1, .long hash''), (3, .int (nI i))] → q = v_X4_digest_78 T X O1 n hash'' i → W p l e (rmOf 6 141) s m [.ref (f 0)].toArray below meth c H locs 0 0 (MQ below (zQw D (zF [zB_X4 f h u o x, zB_X3 (g 0) h T, zB_X1 (g 1) u t0 t1 t2 t3 t4 t5 Z, zB_X2 (g 0) o O, zB_X0 (g 0) x X]) (some (.long q.1)) (zF [zB_X4 f h u o x, zB_X3 (g 0) h T, zB_X1 (g 1) u t0 t1 t2 t3 t4 t5 Z, zB_X2 (g 0) o q.2, zB_X0 (g 0) x X])) [.ref (f 0)].toArray s 0 0 (zA (zF [zB_X4 f h u o x, zB_X3 (g 0) h T, zB_X1 (g 1) u t0 t1 t2 t3 t4 t5 Z, zB_X2 (g 0) o O, zB_X0 (g 0) x X]))) (F0 m 78 ls []) := by
                  intro n
                  induction n with
                  | zero => intro hash'' i v78_0 hn; exact absurd hn (Nat.not_lt_zero _)
                  | succ n ih78 =>
                    intro hash'' i v78_0 hn78 H locs hP hD hS ls hl hq
                    rw [v_X4_digest_78] at hq
                    refine lv_iload_n hx hb dX4_digest_78 rfl (lv_at hl 2 rfl) ?_
                    refine lv_sipush (v := 300) hx hb dX4_digest_79 (by decide) ?_
                    refine lv_icmp_ge (tgt := 108) hx hb dX4_digest_82 (by decide) (fun c_9 => ?_) (fun c_9 => ?_)
                    · have c_9 : 300 ≤ i := (nI_leI (a := 300) (b := i) (by omega) (by omega)).mp c_9
                      have hq := hq.trans (if_pos c_9)
                      refine lv_ldc2 (v := 31) hx hb hown (hts (.constantLong RX4 250 (31)) (List.mem_of_getElem? (i := 2) rfl)) dX4_digest_108 ?_
                      refine lv_lload_n hx hb dX4_digest_111 rfl (lv_at hl 1 rfl) ?_
                      refine lv_lmul hx hb dX4_digest_112 ?_
                      refine lv_aload_n hx hb dX4_digest_113 rfl (lv_at hl 0 rfl) ?_
                      refine va_get (D := D) (ci := 4) (v := .ref (x 0)) (C := RX4) (T := TX4) (N := 4) hx hb hts hinX4 hown hK.1 hP 0 rfl rfl 3 (by decide) (hts (.fieldLink RX4 33 "SaltShares" "text" "LSaltShares$CommandText;") (List.mem_of_getElem? (i := 6) rfl)) (fun _ h9 => h9) rfl dX4_digest_114 ?_
                      refine va_get (D := D) (ci := 0) (v := .int (X 1 0)) (C := RX0) (T := TX0) (N := 7) hx hb hts hinX0 hown hK.1 hP 18 rfl rfl 1 (by decide) (hts (.fieldLink RX4 166 "SaltShares$CommandText" "length" "I") (List.mem_of_getElem? (i := 7) rfl)) (fun _ h9 => h9) rfl dX4_digest_117 ?_
                      refine lv_i2l hx hb dX4_digest_120 rfl ?_
                      refine lv_ladd hx hb dX4_digest_121 ?_
                      refine lv_lstore_n (lv' := [(1, .long ((31 * hash'') + (Int32.toInt64 (X 1 0)))), (0, .ref (f 0)), (3, .int (nI i))]) hx hb dX4_digest_122 rfl hl (by decide) rfl (fun ls hl => ?_)
                      refine lv_iconst (v := 0) hx hb dX4_digest_123 (by decide) ?_
                      refine lv_istore_n (lv' := [(3, .int 0), (1, .long ((31 * hash'') + (Int32.toInt64 (X 1 0)))), (0, .ref (f 0))]) hx hb dX4_digest_124 rfl hl (by decide) rfl (fun ls hl => ?_)
                      have L125 : ∀ (n : Nat) (hash''' : Int64) (i' : Nat), (i' ≤ 60) → 60 - i' < n → ∀ (H : Heap) (locs : List Loc), va_P D vwCl (zF [zB_X4 f h u o x, zB_X3 (g 0) h T, zB_X1 (g 1) u t0 t1 t2 t3 t4 t5 Z, zB_X2 (g 0) o O1, zB_X0 (g 0) x X]) H → va_D (zA (zF [zB_X4 f h u o x, zB_X3 (g 0) h T, zB_X1 (g 1) u t0 t1 t2 t3 t4 t5 Z, zB_X2 (g 0) o O, zB_X0 (g 0) x X])) (zF [zB_X4 f h u o x, zB_X3 (g 0) h T, zB_X1 (g 1) u t0 t1 t2 t3 t4 t5 Z, zB_X2 (g 0) o O1, zB_X0 (g 0) x X]) → va_S (zA (zF [zB_X4 f h u o x, zB_X3 (g 0) h T, zB_X1 (g 1) u t0 t1 t2 t3 t4 t5 Z, zB_X2 (g 0) o O, zB_X0 (g 0) x X])) s.heap H locs → ∀ (ls : Array Slot), lv_has ls 4 [(0, .ref (f 0)), (1, .long hash'''), (3, .int (nI i'))] → q = v_X4_digest_125 X O1 n hash''' i' → W p l e (rmOf 6 141) s m [.ref (f 0)].toArray below meth c H locs 0 0 (MQ below (zQw D (zF [zB_X4 f h u o x, zB_X3 (g 0) h T, zB_X1 (g 1) u t0 t1 t2 t3 t4 t5 Z, zB_X2 (g 0) o O, zB_X0 (g 0) x X]) (some (.long q.1)) (zF [zB_X4 f h u o x, zB_X3 (g 0) h T, zB_X1 (g 1) u t0 t1 t2 t3 t4 t5 Z, zB_X2 (g 0) o q.2, zB_X0 (g 0) x X])) [.ref (f 0)].toArray s 0 0 (zA (zF [zB_X4 f h u o x, zB_X3 (g 0) h T, zB_X1 (g 1) u t0 t1 t2 t3 t4 t5 Z, zB_X2 (g 0) o O, zB_X0 (g 0) x X]))) (F0 m 125 ls []) := by
                        intro n
                        induction n with
                        | zero => intro hash''' i' v125_0 hn; exact absurd hn (Nat.not_lt_zero _)
                        | succ n ih125 =>
                          intro hash''' i' v125_0 hn125 H locs hP hD hS ls hl hq
                          rw [v_X4_digest_125] at hq
                          refine lv_iload_n hx hb dX4_digest_125 rfl (lv_at hl 2 rfl) ?_
                          refine lv_aload_n hx hb dX4_digest_126 rfl (lv_at hl 0 rfl) ?_
                          refine va_get (D := D) (ci := 4) (v := .ref (x 0)) (C := RX4) (T := TX4) (N := 4) hx hb hts hinX4 hown hK.1 hP 0 rfl rfl 3 (by decide) (hts (.fieldLink RX4 33 "SaltShares" "text" "LSaltShares$CommandText;") (List.mem_of_getElem? (i := 6) rfl)) (fun _ h9 => h9) rfl dX4_digest_127 ?_
                          refine va_get (D := D) (ci := 0) (v := .int (X 1 0)) (C := RX0) (T := TX0) (N := 7) hx hb hts hinX0 hown hK.1 hP 18 rfl rfl 1 (by decide) (hts (.fieldLink RX4 166 "SaltShares$CommandText" "length" "I") (List.mem_of_getElem? (i := 7) rfl)) (fun _ h9 => h9) rfl dX4_digest_130 ?_
                          refine lv_icmp_ge (tgt := 165) hx hb dX4_digest_133 (by decide) (fun c_10 => ?_) (fun c_10 => ?_)
                          · have c_10 : (X 1 0) ≤ (nI i') := c_10
                            have hq := hq.trans (if_pos c_10)
                            refine lv_lload_n hx hb dX4_digest_165 rfl (lv_at hl 1 rfl) ?_
                            exact zretw_l hx hb hr hlocks dX4_digest_166 hP hS (congrArg (fun z9 => z9.1) hq) (congrArg (fun z9 => zF [zB_X4 f h u o x, zB_X3 (g 0) h T, zB_X1 (g 1) u t0 t1 t2 t3 t4 t5 Z, zB_X2 (g 0) o z9.2, zB_X0 (g 0) x X]) hq)
                          · have c_10 : ¬ ((X 1 0) ≤ (nI i')) := c_10
                            have hq := hq.trans (if_neg c_10)
                            refine lv_iload_n hx hb dX4_digest_136 rfl (lv_at hl 2 rfl) ?_
                            refine lv_bipush (v := 60) hx hb dX4_digest_137 (by decide) ?_
                            refine lv_icmp_ge (tgt := 165) hx hb dX4_digest_139 (by decide) (fun c_11 => ?_) (fun c_11 => ?_)
                            · have c_11 : 60 ≤ i' := (nI_leI (a := 60) (b := i') (by omega) (by omega)).mp c_11
                              have hq := hq.trans (if_pos c_11)
                              refine lv_lload_n hx hb dX4_digest_165 rfl (lv_at hl 1 rfl) ?_
                              exact zretw_l hx hb hr hlocks dX4_digest_166 hP hS (congrArg (fun z9 => z9.1) hq) (congrArg (fun z9 => zF [zB_X4 f h u o x, zB_X3 (g 0) h T, zB_X1 (g 1) u t0 t1 t2 t3 t4 t5 Z, zB_X2 (g 0) o z9.2, zB_X0 (g 0) x X]) hq)
                            · have c_11 : ¬ (60 ≤ i') := fun h9 => c_11 ((nI_leI (a := 60) (b := i') (by omega) (by omega)).mpr h9)
                              have hq := hq.trans (if_neg c_11)
                              refine lv_ldc2 (v := 31) hx hb hown (hts (.constantLong RX4 250 (31)) (List.mem_of_getElem? (i := 2) rfl)) dX4_digest_142 ?_
                              refine lv_lload_n hx hb dX4_digest_145 rfl (lv_at hl 1 rfl) ?_
                              refine lv_lmul hx hb dX4_digest_146 ?_
                              refine lv_aload_n hx hb dX4_digest_147 rfl (lv_at hl 0 rfl) ?_
                              refine va_get (D := D) (ci := 4) (v := .ref (x 0)) (C := RX4) (T := TX4) (N := 4) hx hb hts hinX4 hown hK.1 hP 0 rfl rfl 3 (by decide) (hts (.fieldLink RX4 33 "SaltShares" "text" "LSaltShares$CommandText;") (List.mem_of_getElem? (i := 6) rfl)) (fun _ h9 => h9) rfl dX4_digest_148 ?_
                              refine va_get (D := D) (ci := 0) (v := .ref (x 1)) (C := RX0) (T := TX0) (N := 7) hx hb hts hinX0 hown hK.1 hP 18 rfl rfl 0 (by decide) (hts (.fieldLink RX4 260 "SaltShares$CommandText" "codes" "[I") (List.mem_of_getElem? (i := 8) rfl)) (fun _ h9 => h9) rfl dX4_digest_151 ?_
                              refine lv_iload_n hx hb dX4_digest_154 rfl (lv_at hl 2 rfl) ?_
                              refine z_iald (i := i') hx hb hK hP 19 0 rfl rfl (by omega) (by decide) dX4_digest_155 ?_
                              refine lv_i2l hx hb dX4_digest_156 rfl ?_
                              refine lv_ladd hx hb dX4_digest_157 ?_
                              refine lv_lstore_n (lv' := [(1, .long ((31 * hash''') + (Int32.toInt64 (X 0 i')))), (0, .ref (f 0)), (3, .int (nI i'))]) hx hb dX4_digest_158 rfl hl (by decide) rfl (fun ls hl => ?_)
                              refine lv_iinc (v := (nI (i' + 1))) (lv' := [(3, .int (nI (i' + 1))), (1, .long ((31 * hash''') + (Int32.toInt64 (X 0 i')))), (0, .ref (f 0))]) hx hb dX4_digest_159 hl (k := 2) rfl (nI_add _ 1) (by decide) rfl (fun ls hl => ?_)
                              refine lv_goto (tgt := 125) hx hb dX4_digest_162 (by decide) ?_
                              exact ih125 ((31 * hash''') + (Int32.toInt64 (X 0 i'))) (i' + 1) (by omega) (by omega) _ _ hP hD hS ls (lv_sub hl [2, 1, 0] rfl) hq
                      exact L125 61 ((31 * hash'') + (Int32.toInt64 (X 1 0))) 0 (by omega) (by omega) _ _ hP hD hS ls (lv_sub hl [2, 1, 0] rfl) hq
                    · have c_9 : ¬ (300 ≤ i) := fun h9 => c_9 ((nI_leI (a := 300) (b := i) (by omega) (by omega)).mpr h9)
                      have hq := hq.trans (if_neg c_9)
                      refine lv_ldc2 (v := 31) hx hb hown (hts (.constantLong RX4 250 (31)) (List.mem_of_getElem? (i := 2) rfl)) dX4_digest_85 ?_
                      refine lv_lload_n hx hb dX4_digest_88 rfl (lv_at hl 1 rfl) ?_
                      refine lv_lmul hx hb dX4_digest_89 ?_
                      refine lv_aload_n hx hb dX4_digest_90 rfl (lv_at hl 0 rfl) ?_
                      refine va_get (D := D) (ci := 4) (v := .ref (h 0)) (C := RX4) (T := TX4) (N := 4) hx hb hts hinX4 hown hK.1 hP 0 rfl rfl 0 (by decide) (hts (.fieldLink RX4 10 "SaltShares" "town" "LSaltShares$Town;") (List.mem_of_getElem? (i := 3) rfl)) (fun _ h9 => h9) rfl dX4_digest_91 ?_
                      refine va_get (D := D) (ci := 3) (v := .ref (h 11)) (C := RX3) (T := TX3) (N := 15) hx hb hts hinX3 hown hK.1 hP 1 rfl rfl 10 (by decide) (hts (.fieldLink RX4 214 "SaltShares$Town" "ownerOf" "[I") (List.mem_of_getElem? (i := 5) rfl)) (fun _ h9 => h9) rfl dX4_digest_94 ?_
                      refine lv_iload_n hx hb dX4_digest_97 rfl (lv_at hl 2 rfl) ?_
                      refine z_iald (i := i) hx hb hK hP 7 0 rfl rfl (by omega) (by decide) dX4_digest_98 ?_
                      refine lv_i2l hx hb dX4_digest_99 rfl ?_
                      refine lv_ladd hx hb dX4_digest_100 ?_
                      refine lv_lstore_n (lv' := [(1, .long ((31 * hash'') + (Int32.toInt64 (T 10 i)))), (0, .ref (f 0)), (3, .int (nI i))]) hx hb dX4_digest_101 rfl hl (by decide) rfl (fun ls hl => ?_)
                      refine lv_iinc (v := (nI (i + 1))) (lv' := [(3, .int (nI (i + 1))), (1, .long ((31 * hash'') + (Int32.toInt64 (T 10 i)))), (0, .ref (f 0))]) hx hb dX4_digest_102 hl (k := 2) rfl (nI_add _ 1) (by decide) rfl (fun ls hl => ?_)
                      refine lv_goto (tgt := 78) hx hb dX4_digest_105 (by decide) ?_
                      exact ih78 ((31 * hash'') + (Int32.toInt64 (T 10 i))) (i + 1) (by omega) (by omega) _ _ hP hD hS ls (lv_sub hl [2, 1, 0] rfl) hq
                exact L78 301 (v_X4_hashWithPersons T hash') 0 (by omega) (by omega) _ _ hP hD hS ls (lv_sub hl [2, 1, 0] rfl) hq
              · have c_7 : ¬ (8 ≤ b) := fun h9 => c_7 ((nI_leI (a := 8) (b := b) (by omega) (by omega)).mpr h9)
                have hq := hq.trans (if_neg c_7)
                refine lv_aload_n hx hb dX4_digest_57 rfl (lv_at hl 0 rfl) ?_
                refine lv_lload_n hx hb dX4_digest_58 rfl (lv_at hl 1 rfl) ?_
                refine lv_iload_n hx hb dX4_digest_59 rfl (lv_at hl 2 rfl) ?_
                refine zcVw (ci := 4) (n := 2) (c_X4_hashWithBread l D g f h u o x T O1 hash' b (by omega) z0) hx hb hml hown hts gX4_digest_X4_hashWithBread rfl ⟨rfl, by decide, by decide, by decide⟩ ⟨Nat.le_of_ble_eq_true rfl, Nat.le_of_ble_eq_true rfl⟩ ⟨rfl, rfl⟩ hK (zsubB (cs := [zB_X4 f h u o x, zB_X3 (g 0) h T, zB_X2 (g 0) o O1]) hP [0, 1, 3] rfl rfl) (zDsubB (cs := [zB_X4 f h u o x, zB_X3 (g 0) h T, zB_X2 (g 0) o O1]) hD [0, 1, 3] (by decide) rfl rfl) rfl rfl rfl hS hl.1 rfl rfl (Nat.le_of_ble_eq_true rfl) ⟨Nat.zero_le _, Nat.zero_le _⟩ dX4_digest_60 (fun H1 locs hP1 hk1 hS => ?_)
                obtain ⟨hP, hD⟩ := zjoinB (cs := [zB_X4 f h u o x, zB_X3 (g 0) h T, zB_X2 (g 0) o O1]) (cs' := [zB_X4 f h u o x, zB_X3 (g 0) h T, zB_X2 (g 0) o ((v_X4_hashWithBread T O1 hash' b).2)]) hP hD [0, 1, 3] (by decide) rfl (by simp only [zF, List.flatten_cons, List.flatten_nil, List.append_nil, List.map_append, List.map_cons, List.map_nil, zad_X0, zad_X1, zad_X2, zad_X3, zad_X4, zad_X5]) rfl rfl hk1 hP1
                clear hP1 hk1
                have hP : va_P D vwCl (zF [zB_X4 f h u o x, zB_X3 (g 0) h T, zB_X1 (g 1) u t0 t1 t2 t3 t4 t5 Z, zB_X2 (g 0) o ((v_X4_hashWithBread T O1 hash' b).2), zB_X0 (g 0) x X]) H1 := hP
                have hD : va_D (zA (zF [zB_X4 f h u o x, zB_X3 (g 0) h T, zB_X1 (g 1) u t0 t1 t2 t3 t4 t5 Z, zB_X2 (g 0) o O, zB_X0 (g 0) x X])) (zF [zB_X4 f h u o x, zB_X3 (g 0) h T, zB_X1 (g 1) u t0 t1 t2 t3 t4 t5 Z, zB_X2 (g 0) o ((v_X4_hashWithBread T O1 hash' b).2), zB_X0 (g 0) x X]) := hD
                refine lv_lstore_n (lv' := [(1, .long ((v_X4_hashWithBread T O1 hash' b).1)), (0, .ref (f 0)), (3, .int (nI b))]) hx hb dX4_digest_63 rfl hl (by decide) rfl (fun ls hl => ?_)
                refine lv_iinc (v := (nI (b + 1))) (lv' := [(3, .int (nI (b + 1))), (1, .long ((v_X4_hashWithBread T O1 hash' b).1)), (0, .ref (f 0))]) hx hb dX4_digest_64 hl (k := 2) rfl (nI_add _ 1) (by decide) rfl (fun ls hl => ?_)
                refine lv_goto (tgt := 40) hx hb dX4_digest_67 (by decide) ?_
                exact ih40 ((v_X4_hashWithBread T O1 hash' b).1) (b + 1) ((v_X4_hashWithBread T O1 hash' b).2) (by omega) (by omega) _ _ hP hD hS ls (lv_sub hl [2, 1, 0] rfl) hq
        exact L40 9 hash 0 O (by omega) (by omega) _ _ hP hD hS ls (lv_sub hl [1, 2, 0] rfl) hq
      · have c_1 : ¬ (22 < wh) := fun h9 => c_1 ((nI_ltI (a := 22) (b := wh) (by omega) (by omega)).mpr h9)
        have hq := hq.trans (if_neg c_1)
        refine lv_iload_n hx hb dX4_digest_12 rfl (lv_at hl 2 rfl) ?_
        refine zcSO (n := 1) (c_X4_isCounted l D g (nI wh)) hx hb hml hown hts gX4_digest_X4_isCounted rfl ⟨by decide, by decide, by decide⟩ ⟨Nat.le_of_ble_eq_true rfl, Nat.le_of_ble_eq_true rfl⟩ ⟨rfl, rfl⟩ hK (hP.sub [] rfl) hl.1 rfl rfl (Nat.le_of_ble_eq_true rfl) ⟨Nat.zero_le _, Nat.zero_le _⟩ dX4_digest_13 ?_
        refine zif_eq (tgt := 32) hx hb dX4_digest_16 (by decide) (fun c_14 => ?_) (fun c_14 => ?_)
        · have hq := hq.trans (zif_f c_14)
          refine lv_iinc (v := (nI (wh + 1))) (lv' := [(3, .int (nI (wh + 1))), (0, .ref (f 0)), (1, .long hash)]) hx hb dX4_digest_32 hl (k := 2) rfl (nI_add _ 1) (by decide) rfl (fun ls hl => ?_)
          refine lv_goto (tgt := 6) hx hb dX4_digest_35 (by decide) ?_
          exact ih6 hash (wh + 1) (by omega) (by omega) _ _ hP hD hS ls (lv_sub hl [1, 2, 0] rfl) hq
        · have hq := hq.trans (zif_t c_14)
          refine lv_ldc2 (v := 31) hx hb hown (hts (.constantLong RX4 250 (31)) (List.mem_of_getElem? (i := 2) rfl)) dX4_digest_19 ?_
          refine lv_lload_n hx hb dX4_digest_22 rfl (lv_at hl 1 rfl) ?_
          refine lv_lmul hx hb dX4_digest_23 ?_
          refine lv_aload_n hx hb dX4_digest_24 rfl (lv_at hl 0 rfl) ?_
          refine lv_iload_n hx hb dX4_digest_25 rfl (lv_at hl 2 rfl) ?_
          refine zcV (ci := 4) (n := 1) (c_X4_numberOf l D g f h u o x t0 t1 t2 t3 t4 t5 Z T (nI wh)) hx hb hml hown hts gX4_digest_X4_numberOf rfl ⟨rfl, by decide, by decide, by decide⟩ ⟨Nat.le_of_ble_eq_true rfl, Nat.le_of_ble_eq_true rfl⟩ ⟨rfl, rfl⟩ hK (zsubB (cs := [zB_X4 f h u o x, zB_X1 (g 1) u t0 t1 t2 t3 t4 t5 Z, zB_X3 (g 0) h T]) hP [0, 2, 1] rfl rfl) rfl rfl rfl hl.1 rfl rfl (Nat.le_of_ble_eq_true rfl) ⟨Nat.zero_le _, Nat.zero_le _⟩ dX4_digest_26 ?_
          refine lv_i2l hx hb dX4_digest_29 rfl ?_
          refine lv_ladd hx hb dX4_digest_30 ?_
          refine lv_lstore_n (lv' := [(1, .long ((31 * hash) + (Int32.toInt64 (v_X4_numberOf Z T (nI wh))))), (0, .ref (f 0)), (3, .int (nI wh))]) hx hb dX4_digest_31 rfl hl (by decide) rfl (fun ls hl => ?_)
          refine lv_iinc (v := (nI (wh + 1))) (lv' := [(3, .int (nI (wh + 1))), (1, .long ((31 * hash) + (Int32.toInt64 (v_X4_numberOf Z T (nI wh))))), (0, .ref (f 0))]) hx hb dX4_digest_32 hl (k := 2) rfl (nI_add _ 1) (by decide) rfl (fun ls hl => ?_)
          refine lv_goto (tgt := 6) hx hb dX4_digest_35 (by decide) ?_
          exact ih6 ((31 * hash) + (Int32.toInt64 (v_X4_numberOf Z T (nI wh)))) (wh + 1) (by omega) (by omega) _ _ hP hD hS ls (lv_sub hl [2, 1, 0] rfl) hq
  exact L6 24 2459 0 (by omega) (by omega) _ _ hP hD hS ls (lv_sub hl [2, 1, 0] rfl) hq
