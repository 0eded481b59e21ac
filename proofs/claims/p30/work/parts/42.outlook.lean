def v_X2_addToRow (O : Nat → Nat → Int32) (k : Nat) : (Nat → Nat → Int32) := (if 100 ≤ (O 1 0) then O else zU (zU O 0 (upd (O 0) (Int32.toNatClampNeg (O 1 0)) (nI k))) 1 (fun _ => ((O 1 0) + 1)))
set_option maxHeartbeats 400000 in
set_option maxRecDepth 100000 in
theorem c_X2_addToRow (l : Launch) (D : va_G) (g : Nat → ClassId) (o : Nat → Nat) (O : Nat → Nat → Int32) (k : Nat) (z0 : k < 100) (z1 : vp_in (O 1 0) 101) : Wr l D (zT g) yX2_addToRow wsX2_addToRow (rmOf 0 0) [.ref (o 0), .int (nI k)] (zB_X2 (g 0) o O) (none) (zB_X2 (g 0) o (v_X2_addToRow O k)) := by
  refine Wr.of (cc := cX2_addToRow) (maxL := 2) (ret := none) (by decide) rfl (Nat.le_of_ble_eq_true rfl) ?_
  intro p e s m below meth c ls hx hb hr hml hown hts hlocks hP hD hS hK hl
  have hown : s.vm.findClass RX2 = some m.cls := hown
  have hinX2 : ∀ w ∈ u_ws RX2 TX2 5, w ∈ wsX2_addToRow := fun _ h9 => (List.mem_cons_of_mem _ (List.mem_append_right _ h9))
  obtain ⟨q, hq⟩ : ∃ q : (Nat → Nat → Int32), q = v_X2_addToRow O k := ⟨_, rfl⟩
  rw [← hq]
  unfold v_X2_addToRow at hq
  have hl : lv_has ls 2 [(0, .ref (o 0)), (1, .int (nI k))] := hl
  refine lv_aload_n hx hb dX2_addToRow_0 rfl (lv_at hl 0 rfl) ?_
  refine va_get (D := D) (ci := 2) (v := .int (O 1 0)) (C := RX2) (T := TX2) (N := 5) hx hb hts hinX2 hown hK.1 hP 0 rfl rfl 1 (by decide) (hts (.fieldLink RX2 31 "SaltShares$Outlook" "reach" "I") (List.mem_of_getElem? (i := 1) rfl)) (fun _ h9 => h9) rfl dX2_addToRow_1 ?_
  refine lv_bipush (v := 100) hx hb dX2_addToRow_4 (by decide) ?_
  refine lv_icmp_ge (tgt := 29) hx hb dX2_addToRow_6 (by decide) (fun c_1 => ?_) (fun c_1 => ?_)
  · have c_1 : 100 ≤ (O 1 0) := c_1
    have hq := hq.trans (if_pos c_1)
    exact zretw_v hx hb hr hlocks dX2_addToRow_29 hP hS (congrArg (fun z9 => zB_X2 (g 0) o z9) hq)
  · have c_1 : ¬ (100 ≤ (O 1 0)) := c_1
    have hq := hq.trans (if_neg c_1)
    refine lv_aload_n hx hb dX2_addToRow_9 rfl (lv_at hl 0 rfl) ?_
    refine va_get (D := D) (ci := 2) (v := .ref (o 1)) (C := RX2) (T := TX2) (N := 5) hx hb hts hinX2 hown hK.1 hP 0 rfl rfl 0 (by decide) (hts (.fieldLink RX2 9 "SaltShares$Outlook" "row" "[I") (List.mem_of_getElem? (i := 2) rfl)) (fun _ h9 => h9) rfl dX2_addToRow_10 ?_
    refine lv_aload_n hx hb dX2_addToRow_13 rfl (lv_at hl 0 rfl) ?_
    refine va_get (D := D) (ci := 2) (v := .int (O 1 0)) (C := RX2) (T := TX2) (N := 5) hx hb hts hinX2 hown hK.1 hP 0 rfl rfl 1 (by decide) (hts (.fieldLink RX2 31 "SaltShares$Outlook" "reach" "I") (List.mem_of_getElem? (i := 1) rfl)) (fun _ h9 => h9) rfl dX2_addToRow_14 ?_
    refine lv_iload_n hx hb dX2_addToRow_17 rfl (lv_at hl 1 rfl) ?_
    refine va_iast (x := (nI k)) hx hb hK.1 hP hD hS 1 0 rfl rfl (zrow1 z1 (by with_reducible assumption)) dX2_addToRow_18 (fun H locs hP hD hS => ?_)
    have hP : va_P D vwCl (zB_X2 (g 0) o (zU O 0 (upd (O 0) (Int32.toNatClampNeg (O 1 0)) (nI k)))) H := hP
    have hD : va_D (zA (zB_X2 (g 0) o O)) (zB_X2 (g 0) o (zU O 0 (upd (O 0) (Int32.toNatClampNeg (O 1 0)) (nI k)))) := hD
    refine lv_aload_n hx hb dX2_addToRow_19 rfl (lv_at hl 0 rfl) ?_
    refine lv_dup hx hb dX2_addToRow_20 rfl ?_
    refine va_get (D := D) (ci := 2) (v := .int (O 1 0)) (C := RX2) (T := TX2) (N := 5) hx hb hts hinX2 hown hK.1 hP 0 rfl rfl 1 (by decide) (hts (.fieldLink RX2 31 "SaltShares$Outlook" "reach" "I") (List.mem_of_getElem? (i := 1) rfl)) (fun _ h9 => h9) rfl dX2_addToRow_21 ?_
    refine lv_iconst (v := 1) hx hb dX2_addToRow_24 (by decide) ?_
    refine lv_iadd hx hb dX2_addToRow_25 ?_
    refine va_put (D := D) (ci := 2) (v := .int ((O 1 0) + 1)) (ty := .int) (C := RX2) (T := TX2) (N := 5) hx hb hts hinX2 tyX2 tyX2_ok nmX2 hown hK.1 hP hD hS 0 rfl rfl 1 (by decide) (hts (.fieldLink RX2 31 "SaltShares$Outlook" "reach" "I") (List.mem_of_getElem? (i := 1) rfl)) (fun _ h9 => h9) rfl (by decide +kernel) rfl rfl (Nat.le_of_ble_eq_true rfl) dX2_addToRow_26 (fun H locs hP hD hS => ?_)
    have hP : va_P D vwCl (zB_X2 (g 0) o (zU (zU O 0 (upd (O 0) (Int32.toNatClampNeg (O 1 0)) (nI k))) 1 (fun _ => ((O 1 0) + 1)))) H := hP
    have hD : va_D (zA (zB_X2 (g 0) o O)) (zB_X2 (g 0) o (zU (zU O 0 (upd (O 0) (Int32.toNatClampNeg (O 1 0)) (nI k))) 1 (fun _ => ((O 1 0) + 1)))) := hD
    exact zretw_v hx hb hr hlocks dX2_addToRow_29 hP hS (congrArg (fun z9 => zB_X2 (g 0) o z9) hq)
theorem zatr {O : Nat → Nat → Int32} {k : Nat} (h : vp_in (O 1 0) 101) : vp_in ((v_X2_addToRow O k) 1 0) 101 := by
  unfold v_X2_addToRow
  split
  · exact h
  · exact (zstep (n := 100) (by decide) h (by assumption)).2.1
def v_X2_lookAtBuckets_47 (T : Nat → Nat → Int32) (b : Nat) : Nat → Nat → (Nat → Nat → Int32) → (Nat → Nat → Int32)
  | 0, _, _ => ((fun _ _ => 0))
  | n + 1, i', O1' => (if 100 ≤ i' then O1' else (if (v_X4_isGroup (T 5 b)) = true then (if (T 10 ((Int32.toNatClampNeg (T 5 b)) * 100 + i')) = (-1) then v_X2_lookAtBuckets_47 T b n (i' + 1) (v_X2_addToRow O1' i') else v_X2_lookAtBuckets_47 T b n (i' + 1) O1') else (if (nI i') < (T 7 b) then v_X2_lookAtBuckets_47 T b n (i' + 1) O1' else v_X2_lookAtBuckets_47 T b n (i' + 1) (v_X2_addToRow O1' i'))))
def v_X2_lookAtBuckets_15 (T : Nat → Nat → Int32) (b : Nat) : Nat → Nat → (Nat → Nat → Int32) → (Nat → Nat → Int32)
  | 0, _, _ => ((fun _ _ => 0))
  | n + 1, i, O1 => (if 100 ≤ i then v_X2_lookAtBuckets_47 T b 101 0 O1 else (if (v_X3_owns T b i) = true then v_X2_lookAtBuckets_15 T b n (i + 1) (v_X2_addToRow O1 i) else v_X2_lookAtBuckets_15 T b n (i + 1) O1))
def v_X2_lookAtBuckets (O : Nat → Nat → Int32) (T : Nat → Nat → Int32) (b : Nat) : (Nat → Nat → Int32) := v_X2_lookAtBuckets_15 T b 101 0 (zU O 1 (fun _ => 0))
set_option maxHeartbeats 400000 in
set_option maxRecDepth 100000 in
theorem c_X2_lookAtBuckets (l : Launch) (D : va_G) (g : Nat → ClassId) (o : Nat → Nat) (h : Nat → Nat) (O : Nat → Nat → Int32) (T : Nat → Nat → Int32) (b : Nat) (z0 : b < 8) : Wr l D (zT g) yX2_lookAtBuckets wsX2_lookAtBuckets (rmOf 1 23) [.ref (o 0), .ref (h 0), .int (nI b)] ((zB_X2 (g 0) o O) ++ (zB_X3 (g 0) h T)) (none) ((zB_X2 (g 0) o (v_X2_lookAtBuckets O T b)) ++ (zB_X3 (g 0) h T)) := by
  refine Wr.of (cc := cX2_lookAtBuckets) (maxL := 6) (ret := none) (by decide) rfl (Nat.le_of_ble_eq_true rfl) ?_
  intro p e s m below meth c ls hx hb hr hml hown hts hlocks hP hD hS hK hl
  have hown : s.vm.findClass RX2 = some m.cls := hown
  have hinX2 : ∀ w ∈ u_ws RX2 TX2 5, w ∈ wsX2_lookAtBuckets := fun _ h9 => (List.mem_cons_of_mem _ (List.mem_append_right _ h9))
  have hinX3 : ∀ w ∈ u_ws RX3 TX3 15, w ∈ wsX2_lookAtBuckets := fun _ h9 => (List.mem_cons_of_mem _ (List.mem_append_left _ (List.mem_append_right _ h9)))
  obtain ⟨q, hq⟩ : ∃ q : (Nat → Nat → Int32), q = v_X2_lookAtBuckets O T b := ⟨_, rfl⟩
  rw [← hq]
  unfold v_X2_lookAtBuckets at hq
  have hl : lv_has ls 6 [(0, .ref (o 0)), (1, .ref (h 0)), (2, .int (nI b))] := hl
  refine lv_aload_n hx hb dX2_lookAtBuckets_0 rfl (lv_at hl 1 rfl) ?_
  refine va_get (D := D) (ci := 3) (v := .ref (h 6)) (C := RX3) (T := TX3) (N := 15) hx hb hts hinX3 hown hK.1 hP 4 rfl rfl 5 (by decide) (hts (.fieldLink RX2 47 "SaltShares$Town" "groupOf" "[I") (List.mem_of_getElem? (i := 1) rfl)) (fun _ h9 => h9) rfl dX2_lookAtBuckets_1 ?_
  refine lv_iload_n hx hb dX2_lookAtBuckets_4 rfl (lv_at hl 2 rfl) ?_
  refine z_iald (i := b) hx hb hK hP 5 0 rfl rfl (by omega) (by decide) dX2_lookAtBuckets_5 ?_
  refine lv_istore_n (lv' := [(3, .int (T 5 b)), (0, .ref (o 0)), (1, .ref (h 0)), (2, .int (nI b))]) hx hb dX2_lookAtBuckets_6 rfl hl (by decide) rfl (fun ls hl => ?_)
  refine lv_aload_n hx hb dX2_lookAtBuckets_7 rfl (lv_at hl 1 rfl) ?_
  refine lv_iconst (v := 0) hx hb dX2_lookAtBuckets_8 (by decide) ?_
  refine va_put (D := D) (ci := 2) (v := .int 0) (ty := .int) (C := RX2) (T := TX2) (N := 5) hx hb hts hinX2 tyX2 tyX2_ok nmX2 hown hK.1 hP hD hS 0 rfl rfl 1 (by decide) (hts (.fieldLink RX2 31 "SaltShares$Outlook" "reach" "I") (List.mem_of_getElem? (i := 2) rfl)) (fun _ h9 => h9) rfl (by decide +kernel) rfl rfl (Nat.le_of_ble_eq_true rfl) dX2_lookAtBuckets_9 (fun H locs hP hD hS => ?_)
  have hP : va_P D vwCl ((zB_X2 (g 0) o (zU O 1 (fun _ => 0))) ++ (zB_X3 (g 0) h T)) H := hP
  have hD : va_D (zA ((zB_X2 (g 0) o O) ++ (zB_X3 (g 0) h T))) ((zB_X2 (g 0) o (zU O 1 (fun _ => 0))) ++ (zB_X3 (g 0) h T)) := hD
  refine lv_iconst (v := 0) hx hb dX2_lookAtBuckets_12 (by decide) ?_
  refine lv_istore (lv' := [(4, .int 0), (3, .int (T 5 b)), (0, .ref (o 0)), (1, .ref (h 0)), (2, .int (nI b))]) hx hb dX2_lookAtBuckets_13 hl (by decide) rfl (fun ls hl => ?_)
  have L15 : ∀ (n : Nat) (i : Nat) (O1 : Nat → Nat → Int32), (i ≤ 100) → (vp_in (O1 1 0) 101) → 100 - i < n → ∀ (H : Heap) (locs : List Loc), va_P D vwCl ((zB_X2 (g 0) o O1) ++ (zB_X3 (g 0) h T)) H → va_D (zA ((zB_X2 (g 0) o O) ++ (zB_X3 (g 0) h T))) ((zB_X2 (g 0) o O1) ++ (zB_X3 (g 0) h T)) → va_S (zA ((zB_X2 (g 0) o O) ++ (zB_X3 (g 0) h T))) s.heap H locs → ∀ (ls : Array Slot), lv_has ls 6 [(0, .ref (o 0)), (1, .ref (h 0)), (2, .int (nI b)), (3, .int (T 5 b)), (4, .int (nI i))] → q = v_X2_lookAtBuckets_15 T b n i O1 → W p l e (rmOf 1 23) s m [.ref (o 0), .ref (h 0), .int (nI b)].toArray below meth c H locs 0 0 (MQ below (zQw D ((zB_X2 (g 0) o O) ++ (zB_X3 (g 0) h T)) (none) ((zB_X2 (g 0) o q) ++ (zB_X3 (g 0) h T))) [.ref (o 0), .ref (h 0), .int (nI b)].toArray s 0 0 (zA ((zB_X2 (g 0) o O) ++ (zB_X3 (g 0) h T)))) (F0 m 15 ls []) := by
    intro n
    induction n with
    | zero => intro i O1 v15_0 v15_1 hn; exact absurd hn (Nat.not_lt_zero _)
    | succ n ih15 =>
      intro i O1 v15_0 v15_1 hn15 H locs hP hD hS ls hl hq
      rw [v_X2_lookAtBuckets_15] at hq
      refine lv_iload hx hb dX2_lookAtBuckets_15 (lv_at hl 4 rfl) ?_
      refine lv_bipush (v := 100) hx hb dX2_lookAtBuckets_17 (by decide) ?_
      refine lv_icmp_ge (tgt := 44) hx hb dX2_lookAtBuckets_19 (by decide) (fun c_1 => ?_) (fun c_1 => ?_)
      · have c_1 : 100 ≤ i := (nI_leI (a := 100) (b := i) (by omega) (by omega)).mp c_1
        have hq := hq.trans (if_pos c_1)
        refine lv_iconst (v := 0) hx hb dX2_lookAtBuckets_44 (by decide) ?_
        refine lv_istore (lv' := [(4, .int 0), (0, .ref (o 0)), (1, .ref (h 0)), (2, .int (nI b)), (3, .int (T 5 b))]) hx hb dX2_lookAtBuckets_45 hl (by decide) rfl (fun ls hl => ?_)
        have L47 : ∀ (n : Nat) (i' : Nat) (O1' : Nat → Nat → Int32), (i' ≤ 100) → (vp_in (O1' 1 0) 101) → 100 - i' < n → ∀ (H : Heap) (locs : List Loc), va_P D vwCl ((zB_X2 (g 0) o O1') ++ (zB_X3 (g 0) h T)) H → va_D (zA ((zB_X2 (g 0) o O) ++ (zB_X3 (g 0) h T))) ((zB_X2 (g 0) o O1') ++ (zB_X3 (g 0) h T)) → va_S (zA ((zB_X2 (g 0) o O) ++ (zB_X3 (g 0) h T))) s.heap H locs → ∀ (ls : Array Slot), lv_has ls 6 [(0, .ref (o 0)), (1, .ref (h 0)), (2, .int (nI b)), (3, .int (T 5 b)), (4, .int (nI i'))] → q = v_X2_lookAtBuckets_47 T b n i' O1' → W p l e (rmOf 1 23) s m [.ref (o 0), .ref (h 0), .int (nI b)].toArray below meth c H locs 0 0 (MQ below (zQw D ((zB_X2 (g 0) o O) ++ (zB_X3 (g 0) h T)) (none) ((zB_X2 (g 0) o q) ++ (zB_X3 (g 0) h T))) [.ref (o 0), .ref (h 0), .int (nI b)].toArray s 0 0 (zA ((zB_X2 (g 0) o O) ++ (zB_X3 (g 0) h T)))) (F0 m 47 ls []) := by
          intro n
          induction n with
          | zero => intro i' O1' v47_0 v47_1 hn; exact absurd hn (Nat.not_lt_zero _)
          | succ n ih47 =>
            intro i' O1' v47_0 v47_1 hn47 H locs hP hD hS ls hl hq
            rw [v_X2_lookAtBuckets_47] at hq
            refine lv_iload hx hb dX2_lookAtBuckets_47 (lv_at hl 4 rfl) ?_
            refine lv_bipush (v := 100) hx hb dX2_lookAtBuckets_49 (by decide) ?_
            refine lv_icmp_ge (tgt := 120) hx hb dX2_lookAtBuckets_51 (by decide) (fun c_2 => ?_) (fun c_2 => ?_)
            · have c_2 : 100 ≤ i' := (nI_leI (a := 100) (b := i') (by omega) (by omega)).mp c_2
              have hq := hq.trans (if_pos c_2)
              exact zretw_v hx hb hr hlocks dX2_lookAtBuckets_120 hP hS (congrArg (fun z9 => (zB_X2 (g 0) o z9) ++ (zB_X3 (g 0) h T)) hq)
            · have c_2 : ¬ (100 ≤ i') := fun h9 => c_2 ((nI_leI (a := 100) (b := i') (by omega) (by omega)).mpr h9)
              have hq := hq.trans (if_neg c_2)
              refine lv_iload_n hx hb dX2_lookAtBuckets_54 rfl (lv_at hl 3 rfl) ?_
              refine zcSN (n := 1) (c_X4_isGroup l D g (T 5 b)) hx hb hml hown hts gX2_lookAtBuckets_X4_isGroup_n58 rfl ⟨by decide, by decide, by decide⟩ ⟨Nat.le_of_ble_eq_true rfl, Nat.le_of_ble_eq_true rfl⟩ ⟨rfl, rfl⟩ (List.mem_of_getElem? (i := 3) rfl) (List.mem_of_getElem? (i := 20) rfl) (List.mem_of_getElem? (i := 19) rfl) hK (hP.sub [] rfl) hl.1 rfl rfl (Nat.le_of_ble_eq_true rfl) ⟨Nat.zero_le _, Nat.zero_le _⟩ dX2_lookAtBuckets_55 ?_
              refine zif_eq (tgt := 85) hx hb dX2_lookAtBuckets_58 (by decide) (fun c_4 => ?_) (fun c_4 => ?_)
              · have hq := hq.trans (zif_f c_4)
                refine lv_iload hx hb dX2_lookAtBuckets_85 (lv_at hl 4 rfl) ?_
                refine lv_aload_n hx hb dX2_lookAtBuckets_87 rfl (lv_at hl 1 rfl) ?_
                refine va_get (D := D) (ci := 3) (v := .ref (h 8)) (C := RX3) (T := TX3) (N := 15) hx hb hts hinX3 hown hK.1 hP 4 rfl rfl 7 (by decide) (hts (.fieldLink RX2 38 "SaltShares$Town" "share" "[I") (List.mem_of_getElem? (i := 4) rfl)) (fun _ h9 => h9) rfl dX2_lookAtBuckets_88 ?_
                refine lv_iload_n hx hb dX2_lookAtBuckets_91 rfl (lv_at hl 2 rfl) ?_
                refine z_iald (i := b) hx hb hK hP 7 0 rfl rfl (by omega) (by decide) dX2_lookAtBuckets_92 ?_
                refine lv_icmp_lt (tgt := 100) hx hb dX2_lookAtBuckets_93 (by decide) (fun c_5 => ?_) (fun c_5 => ?_)
                · have c_5 : (nI i') < (T 7 b) := c_5
                  have hq := hq.trans (if_pos c_5)
                  refine lv_iconst (v := 0) hx hb dX2_lookAtBuckets_100 (by decide) ?_
                  refine lv_is (show (0 : Int32) = bI false from rfl) ?_
                  refine lv_istore (lv' := [(5, .int (bI false)), (0, .ref (o 0)), (1, .ref (h 0)), (2, .int (nI b)), (3, .int (T 5 b)), (4, .int (nI i'))]) hx hb dX2_lookAtBuckets_101 hl (by decide) rfl (fun ls hl => ?_)
                  refine lv_iload hx hb dX2_lookAtBuckets_103 (lv_at hl 0 rfl) ?_
                  refine zif_eq (tgt := 114) hx hb dX2_lookAtBuckets_105 (by decide) (fun c_6 => ?_) (fun c_6 => ?_)
                  rotate_left
                  · cases c_6
                  refine lv_iinc (v := (nI (i' + 1))) (lv' := [(4, .int (nI (i' + 1))), (5, .int (bI false)), (0, .ref (o 0)), (1, .ref (h 0)), (2, .int (nI b)), (3, .int (T 5 b))]) hx hb dX2_lookAtBuckets_114 hl (k := 5) rfl (nI_add _ 1) (by decide) rfl (fun ls hl => ?_)
                  refine lv_goto (tgt := 47) hx hb dX2_lookAtBuckets_117 (by decide) ?_
                  exact ih47 (i' + 1) O1' (by omega) (by first | with_reducible exact v47_1 | with_reducible exact zatr v47_1) (by omega) _ _ hP hD hS ls (lv_sub hl [2, 3, 4, 5, 0] rfl) hq
                · have c_5 : ¬ ((nI i') < (T 7 b)) := c_5
                  have hq := hq.trans (if_neg c_5)
                  refine lv_iconst (v := 1) hx hb dX2_lookAtBuckets_96 (by decide) ?_
                  refine lv_goto (tgt := 101) hx hb dX2_lookAtBuckets_97 (by decide) ?_
                  refine lv_is (show (1 : Int32) = bI true from rfl) ?_
                  refine lv_istore (lv' := [(5, .int (bI true)), (0, .ref (o 0)), (1, .ref (h 0)), (2, .int (nI b)), (3, .int (T 5 b)), (4, .int (nI i'))]) hx hb dX2_lookAtBuckets_101 hl (by decide) rfl (fun ls hl => ?_)
                  refine lv_iload hx hb dX2_lookAtBuckets_103 (lv_at hl 0 rfl) ?_
                  refine zif_eq (tgt := 114) hx hb dX2_lookAtBuckets_105 (by decide) (fun c_7 => ?_) (fun c_7 => ?_)
                  · cases c_7
                  refine lv_aload_n hx hb dX2_lookAtBuckets_108 rfl (lv_at hl 1 rfl) ?_
                  refine lv_iload hx hb dX2_lookAtBuckets_109 (lv_at hl 5 rfl) ?_
                  refine zcVw (ci := 2) (n := 1) (c_X2_addToRow l D g o O1' i' (by omega) v47_1) hx hb hml hown hts gX2_lookAtBuckets_X2_addToRow rfl ⟨rfl, by decide, by decide, by decide⟩ ⟨Nat.le_of_ble_eq_true rfl, Nat.le_of_ble_eq_true rfl⟩ ⟨rfl, rfl⟩ hK (hP.sub [0, 1, 2, 3] rfl) (hD.sub [0, 1, 2, 3] (by decide) rfl) rfl rfl rfl hS hl.1 rfl rfl (Nat.le_of_ble_eq_true rfl) ⟨Nat.zero_le _, Nat.zero_le _⟩ dX2_lookAtBuckets_111 (fun H1 locs hP1 hk1 hS => ?_)
                  obtain ⟨hP, hD⟩ := zjoin (wc := zB_X2 (g 0) o O1') (wc' := zB_X2 (g 0) o (v_X2_addToRow O1' i')) hP hD [0, 1, 2, 3] rfl rfl hk1 hP1
                  clear hP1 hk1
                  have hP : va_P D vwCl ((zB_X2 (g 0) o (v_X2_addToRow O1' i')) ++ (zB_X3 (g 0) h T)) H1 := hP
                  have hD : va_D (zA ((zB_X2 (g 0) o O) ++ (zB_X3 (g 0) h T))) ((zB_X2 (g 0) o (v_X2_addToRow O1' i')) ++ (zB_X3 (g 0) h T)) := hD
                  refine lv_iinc (v := (nI (i' + 1))) (lv' := [(4, .int (nI (i' + 1))), (5, .int (bI true)), (0, .ref (o 0)), (1, .ref (h 0)), (2, .int (nI b)), (3, .int (T 5 b))]) hx hb dX2_lookAtBuckets_114 hl (k := 5) rfl (nI_add _ 1) (by decide) rfl (fun ls hl => ?_)
                  refine lv_goto (tgt := 47) hx hb dX2_lookAtBuckets_117 (by decide) ?_
                  exact ih47 (i' + 1) (v_X2_addToRow O1' i') (by omega) (by first | with_reducible exact v47_1 | with_reducible exact zatr v47_1) (by omega) _ _ hP hD hS ls (lv_sub hl [2, 3, 4, 5, 0] rfl) hq
              · have hq := hq.trans (zif_t c_4)
                refine lv_aload_n hx hb dX2_lookAtBuckets_61 rfl (lv_at hl 1 rfl) ?_
                refine va_get (D := D) (ci := 3) (v := .ref (h 11)) (C := RX3) (T := TX3) (N := 15) hx hb hts hinX3 hown hK.1 hP 4 rfl rfl 10 (by decide) (hts (.fieldLink RX2 61 "SaltShares$Town" "ownerOf" "[I") (List.mem_of_getElem? (i := 3) rfl)) (fun _ h9 => h9) rfl dX2_lookAtBuckets_62 ?_
                refine lv_iload_n hx hb dX2_lookAtBuckets_65 rfl (lv_at hl 3 rfl) ?_
                have w_9 := znat (zin_g (by with_reducible assumption))
                have w_9b := w_9.2
                refine lv_is w_9.1 ?_
                refine lv_bipush (v := 100) hx hb dX2_lookAtBuckets_66 (by decide) ?_
                refine lv_imul hx hb dX2_lookAtBuckets_68 ?_
                refine lv_is (show (nI (Int32.toNatClampNeg (T 5 b))) * 100 = (nI ((Int32.toNatClampNeg (T 5 b)) * 100)) from pk_mul (Int32.toNatClampNeg (T 5 b)) 100) ?_
                refine lv_iload hx hb dX2_lookAtBuckets_69 (lv_at hl 4 rfl) ?_
                refine lv_iadd hx hb dX2_lookAtBuckets_71 ?_
                refine lv_is (show (nI ((Int32.toNatClampNeg (T 5 b)) * 100)) + (nI i') = (nI ((Int32.toNatClampNeg (T 5 b)) * 100 + i')) from nI_add ((Int32.toNatClampNeg (T 5 b)) * 100) i') ?_
                refine z_iald (i := (Int32.toNatClampNeg (T 5 b)) * 100 + i') hx hb hK hP 10 0 rfl rfl (by omega) (by decide) dX2_lookAtBuckets_72 ?_
                refine lv_iconst (v := (-1)) hx hb dX2_lookAtBuckets_73 (by decide) ?_
                refine lv_icmp_ne (tgt := 81) hx hb dX2_lookAtBuckets_74 (by decide) (fun c_10 => ?_) (fun c_10 => ?_)
                · have c_10 : ¬ ((T 10 ((Int32.toNatClampNeg (T 5 b)) * 100 + i')) = (-1)) := c_10
                  have hq := hq.trans (if_neg c_10)
                  refine lv_iconst (v := 0) hx hb dX2_lookAtBuckets_81 (by decide) ?_
                  refine lv_goto (tgt := 101) hx hb dX2_lookAtBuckets_82 (by decide) ?_
                  refine lv_is (show (0 : Int32) = bI false from rfl) ?_
                  refine lv_istore (lv' := [(5, .int (bI false)), (0, .ref (o 0)), (1, .ref (h 0)), (2, .int (nI b)), (3, .int (T 5 b)), (4, .int (nI i'))]) hx hb dX2_lookAtBuckets_101 hl (by decide) rfl (fun ls hl => ?_)
                  refine lv_iload hx hb dX2_lookAtBuckets_103 (lv_at hl 0 rfl) ?_
                  refine zif_eq (tgt := 114) hx hb dX2_lookAtBuckets_105 (by decide) (fun c_11 => ?_) (fun c_11 => ?_)
                  rotate_left
                  · cases c_11
                  refine lv_iinc (v := (nI (i' + 1))) (lv' := [(4, .int (nI (i' + 1))), (5, .int (bI false)), (0, .ref (o 0)), (1, .ref (h 0)), (2, .int (nI b)), (3, .int (T 5 b))]) hx hb dX2_lookAtBuckets_114 hl (k := 5) rfl (nI_add _ 1) (by decide) rfl (fun ls hl => ?_)
                  refine lv_goto (tgt := 47) hx hb dX2_lookAtBuckets_117 (by decide) ?_
                  exact ih47 (i' + 1) O1' (by omega) (by first | with_reducible exact v47_1 | with_reducible exact zatr v47_1) (by omega) _ _ hP hD hS ls (lv_sub hl [2, 3, 4, 5, 0] rfl) hq
                · have c_10 : (T 10 ((Int32.toNatClampNeg (T 5 b)) * 100 + i')) = (-1) := c_10
                  have hq := hq.trans (if_pos c_10)
                  refine lv_iconst (v := 1) hx hb dX2_lookAtBuckets_77 (by decide) ?_
                  refine lv_goto (tgt := 101) hx hb dX2_lookAtBuckets_78 (by decide) ?_
                  refine lv_is (show (1 : Int32) = bI true from rfl) ?_
                  refine lv_istore (lv' := [(5, .int (bI true)), (0, .ref (o 0)), (1, .ref (h 0)), (2, .int (nI b)), (3, .int (T 5 b)), (4, .int (nI i'))]) hx hb dX2_lookAtBuckets_101 hl (by decide) rfl (fun ls hl => ?_)
                  refine lv_iload hx hb dX2_lookAtBuckets_103 (lv_at hl 0 rfl) ?_
                  refine zif_eq (tgt := 114) hx hb dX2_lookAtBuckets_105 (by decide) (fun c_12 => ?_) (fun c_12 => ?_)
                  · cases c_12
                  refine lv_aload_n hx hb dX2_lookAtBuckets_108 rfl (lv_at hl 1 rfl) ?_
                  refine lv_iload hx hb dX2_lookAtBuckets_109 (lv_at hl 5 rfl) ?_
                  refine zcVw (ci := 2) (n := 1) (c_X2_addToRow l D g o O1' i' (by omega) v47_1) hx hb hml hown hts gX2_lookAtBuckets_X2_addToRow rfl ⟨rfl, by decide, by decide, by decide⟩ ⟨Nat.le_of_ble_eq_true rfl, Nat.le_of_ble_eq_true rfl⟩ ⟨rfl, rfl⟩ hK (hP.sub [0, 1, 2, 3] rfl) (hD.sub [0, 1, 2, 3] (by decide) rfl) rfl rfl rfl hS hl.1 rfl rfl (Nat.le_of_ble_eq_true rfl) ⟨Nat.zero_le _, Nat.zero_le _⟩ dX2_lookAtBuckets_111 (fun H1 locs hP1 hk1 hS => ?_)
                  obtain ⟨hP, hD⟩ := zjoin (wc := zB_X2 (g 0) o O1') (wc' := zB_X2 (g 0) o (v_X2_addToRow O1' i')) hP hD [0, 1, 2, 3] rfl rfl hk1 hP1
                  clear hP1 hk1
                  have hP : va_P D vwCl ((zB_X2 (g 0) o (v_X2_addToRow O1' i')) ++ (zB_X3 (g 0) h T)) H1 := hP
                  have hD : va_D (zA ((zB_X2 (g 0) o O) ++ (zB_X3 (g 0) h T))) ((zB_X2 (g 0) o (v_X2_addToRow O1' i')) ++ (zB_X3 (g 0) h T)) := hD
                  refine lv_iinc (v := (nI (i' + 1))) (lv' := [(4, .int (nI (i' + 1))), (5, .int (bI true)), (0, .ref (o 0)), (1, .ref (h 0)), (2, .int (nI b)), (3, .int (T 5 b))]) hx hb dX2_lookAtBuckets_114 hl (k := 5) rfl (nI_add _ 1) (by decide) rfl (fun ls hl => ?_)
                  refine lv_goto (tgt := 47) hx hb dX2_lookAtBuckets_117 (by decide) ?_
                  exact ih47 (i' + 1) (v_X2_addToRow O1' i') (by omega) (by first | with_reducible exact v47_1 | with_reducible exact zatr v47_1) (by omega) _ _ hP hD hS ls (lv_sub hl [2, 3, 4, 5, 0] rfl) hq
        exact L47 101 0 O1 (by omega) v15_1 (by omega) _ _ hP hD hS ls (lv_sub hl [1, 2, 3, 4, 0] rfl) hq
      · have c_1 : ¬ (100 ≤ i) := fun h9 => c_1 ((nI_leI (a := 100) (b := i) (by omega) (by omega)).mpr h9)
        have hq := hq.trans (if_neg c_1)
        refine lv_aload_n hx hb dX2_lookAtBuckets_22 rfl (lv_at hl 1 rfl) ?_
        refine lv_iload_n hx hb dX2_lookAtBuckets_23 rfl (lv_at hl 2 rfl) ?_
        refine lv_iload hx hb dX2_lookAtBuckets_24 (lv_at hl 4 rfl) ?_
        refine zcV (ci := 3) (n := 2) (c_X3_owns l D g h T b i (by omega) (by omega)) hx hb hml hown hts gX2_lookAtBuckets_X3_owns rfl ⟨rfl, by decide, by decide, by decide⟩ ⟨Nat.le_of_ble_eq_true rfl, Nat.le_of_ble_eq_true rfl⟩ ⟨rfl, rfl⟩ hK (hP.sub [4, 5, 6, 7, 8, 9, 10, 11, 12, 13, 14] rfl) rfl rfl rfl hl.1 rfl rfl (Nat.le_of_ble_eq_true rfl) ⟨Nat.zero_le _, Nat.zero_le _⟩ dX2_lookAtBuckets_26 ?_
        refine zif_eq (tgt := 38) hx hb dX2_lookAtBuckets_29 (by decide) (fun c_15 => ?_) (fun c_15 => ?_)
        · have hq := hq.trans (zif_f c_15)
          refine lv_iinc (v := (nI (i + 1))) (lv' := [(4, .int (nI (i + 1))), (0, .ref (o 0)), (1, .ref (h 0)), (2, .int (nI b)), (3, .int (T 5 b))]) hx hb dX2_lookAtBuckets_38 hl (k := 4) rfl (nI_add _ 1) (by decide) rfl (fun ls hl => ?_)
          refine lv_goto (tgt := 15) hx hb dX2_lookAtBuckets_41 (by decide) ?_
          exact ih15 (i + 1) O1 (by omega) (by first | with_reducible exact v15_1 | with_reducible exact zatr v15_1) (by omega) _ _ hP hD hS ls (lv_sub hl [1, 2, 3, 4, 0] rfl) hq
        · have hq := hq.trans (zif_t c_15)
          refine lv_aload_n hx hb dX2_lookAtBuckets_32 rfl (lv_at hl 0 rfl) ?_
          refine lv_iload hx hb dX2_lookAtBuckets_33 (lv_at hl 4 rfl) ?_
          refine zcVw (ci := 2) (n := 1) (c_X2_addToRow l D g o O1 i (by omega) v15_1) hx hb hml hown hts gX2_lookAtBuckets_X2_addToRow rfl ⟨rfl, by decide, by decide, by decide⟩ ⟨Nat.le_of_ble_eq_true rfl, Nat.le_of_ble_eq_true rfl⟩ ⟨rfl, rfl⟩ hK (hP.sub [0, 1, 2, 3] rfl) (hD.sub [0, 1, 2, 3] (by decide) rfl) rfl rfl rfl hS hl.1 rfl rfl (Nat.le_of_ble_eq_true rfl) ⟨Nat.zero_le _, Nat.zero_le _⟩ dX2_lookAtBuckets_35 (fun H1 locs hP1 hk1 hS => ?_)
          obtain ⟨hP, hD⟩ := zjoin (wc := zB_X2 (g 0) o O1) (wc' := zB_X2 (g 0) o (v_X2_addToRow O1 i)) hP hD [0, 1, 2, 3] rfl rfl hk1 hP1
          clear hP1 hk1
          have hP : va_P D vwCl ((zB_X2 (g 0) o (v_X2_addToRow O1 i)) ++ (zB_X3 (g 0) h T)) H1 := hP
          have hD : va_D (zA ((zB_X2 (g 0) o O) ++ (zB_X3 (g 0) h T))) ((zB_X2 (g 0) o (v_X2_addToRow O1 i)) ++ (zB_X3 (g 0) h T)) := hD
          refine lv_iinc (v := (nI (i + 1))) (lv' := [(4, .int (nI (i + 1))), (0, .ref (o 0)), (1, .ref (h 0)), (2, .int (nI b)), (3, .int (T 5 b))]) hx hb dX2_lookAtBuckets_38 hl (k := 4) rfl (nI_add _ 1) (by decide) rfl (fun ls hl => ?_)
          refine lv_goto (tgt := 15) hx hb dX2_lookAtBuckets_41 (by decide) ?_
          exact ih15 (i + 1) (v_X2_addToRow O1 i) (by omega) (by first | with_reducible exact v15_1 | with_reducible exact zatr v15_1) (by omega) _ _ hP hD hS ls (lv_sub hl [1, 2, 3, 4, 0] rfl) hq
  exact L15 101 0 (zU O 1 (fun _ => 0)) (by omega) (vp_in_nI (n := 0) (N := 101) (by decide) (by decide)) (by omega) _ _ hP hD hS ls (lv_sub hl [2, 3, 4, 1, 0] rfl) hq
def v_X2_lookAtPersons_40 (T : Nat → Nat → Int32) (b : Nat) : Nat → Int32 → (Nat → Nat → Int32) → (Nat → Nat → Int32)
  | 0, _, _ => ((fun _ _ => 0))
  | n + 1, i', O1' => (if i' < 0 then O1' else (if (v_X3_isSure T (Int32.toNatClampNeg i') b) = true then v_X2_lookAtPersons_40 T b n (i' + (-1)) (zU O1' 2 (fun _ => ((O1' 2 0) + 1))) else (if (v_X3_isHeldOut T (Int32.toNatClampNeg i') b) = true then v_X2_lookAtPersons_40 T b n (i' + (-1)) O1' else v_X2_lookAtPersons_40 T b n (i' + (-1)) (zU (zU O1' 3 (upd (O1' 3) (v_X4_bucketBy i' (v_X3_saltOf T b)) ((O1' 3 (v_X4_bucketBy i' (v_X3_saltOf T b))) + 1))) 4 (upd (O1' 4) (v_X4_bucketBy i' (v_X3_saltOf T b)) i')))))
def v_X2_lookAtPersons_14 (T : Nat → Nat → Int32) (b : Nat) : Nat → Nat → (Nat → Nat → Int32) → (Nat → Nat → Int32)
  | 0, _, _ => ((fun _ _ => 0))
  | n + 1, i, O1 => (if 100 ≤ i then v_X2_lookAtPersons_40 T b 151 149 O1 else v_X2_lookAtPersons_14 T b n (i + 1) (zU O1 3 (upd (O1 3) i 0)))
def v_X2_lookAtPersons (O : Nat → Nat → Int32) (T : Nat → Nat → Int32) (b : Nat) : (Nat → Nat → Int32) := v_X2_lookAtPersons_14 T b 101 0 (zU O 2 (fun _ => 0))
set_option maxHeartbeats 400000 in
set_option maxRecDepth 100000 in
theorem c_X2_lookAtPersons (l : Launch) (D : va_G) (g : Nat → ClassId) (o : Nat → Nat) (h : Nat → Nat) (O : Nat → Nat → Int32) (T : Nat → Nat → Int32) (b : Nat) (z0 : b < 8) : Wr l D (zT g) yX2_lookAtPersons wsX2_lookAtPersons (rmOf 2 42) [.ref (o 0), .ref (h 0), .int (nI b)] ((zB_X2 (g 0) o O) ++ (zB_X3 (g 0) h T)) (none) ((zB_X2 (g 0) o (v_X2_lookAtPersons O T b)) ++ (zB_X3 (g 0) h T)) := by
  refine Wr.of (cc := cX2_lookAtPersons) (maxL := 6) (ret := none) (by decide) rfl (Nat.le_of_ble_eq_true rfl) ?_
  intro p e s m below meth c ls hx hb hr hml hown hts hlocks hP hD hS hK hl
  have hown : s.vm.findClass RX2 = some m.cls := hown
  have hinX2 : ∀ w ∈ u_ws RX2 TX2 5, w ∈ wsX2_lookAtPersons := fun _ h9 => (List.mem_cons_of_mem _ (List.mem_append_left _ (List.mem_append_right _ h9)))
  obtain ⟨q, hq⟩ : ∃ q : (Nat → Nat → Int32), q = v_X2_lookAtPersons O T b := ⟨_, rfl⟩
  rw [← hq]
  unfold v_X2_lookAtPersons at hq
  have hl : lv_has ls 6 [(0, .ref (o 0)), (1, .ref (h 0)), (2, .int (nI b))] := hl
  refine lv_aload_n hx hb dX2_lookAtPersons_0 rfl (lv_at hl 1 rfl) ?_
  refine lv_iload_n hx hb dX2_lookAtPersons_1 rfl (lv_at hl 2 rfl) ?_
  refine zcV (ci := 3) (n := 1) (c_X3_saltOf l D g h T b (by omega)) hx hb hml hown hts gX2_lookAtPersons_X3_saltOf rfl ⟨rfl, by decide, by decide, by decide⟩ ⟨Nat.le_of_ble_eq_true rfl, Nat.le_of_ble_eq_true rfl⟩ ⟨rfl, rfl⟩ hK (hP.sub [4, 5, 6, 7, 8, 9, 10, 11, 12, 13, 14] rfl) rfl rfl rfl hl.1 rfl rfl (Nat.le_of_ble_eq_true rfl) ⟨Nat.zero_le _, Nat.zero_le _⟩ dX2_lookAtPersons_2 ?_
  refine lv_istore_n (lv' := [(3, .int (v_X3_saltOf T b)), (0, .ref (o 0)), (1, .ref (h 0)), (2, .int (nI b))]) hx hb dX2_lookAtPersons_5 rfl hl (by decide) rfl (fun ls hl => ?_)
  refine lv_aload_n hx hb dX2_lookAtPersons_6 rfl (lv_at hl 1 rfl) ?_
  refine lv_iconst (v := 0) hx hb dX2_lookAtPersons_7 (by decide) ?_
  refine va_put (D := D) (ci := 2) (v := .int 0) (ty := .int) (C := RX2) (T := TX2) (N := 5) hx hb hts hinX2 tyX2 tyX2_ok nmX2 hown hK.1 hP hD hS 0 rfl rfl 2 (by decide) (hts (.fieldLink RX2 35 "SaltShares$Outlook" "sure" "I") (List.mem_of_getElem? (i := 1) rfl)) (fun _ h9 => h9) rfl (by decide +kernel) rfl rfl (Nat.le_of_ble_eq_true rfl) dX2_lookAtPersons_8 (fun H locs hP hD hS => ?_)
  have hP : va_P D vwCl ((zB_X2 (g 0) o (zU O 2 (fun _ => 0))) ++ (zB_X3 (g 0) h T)) H := hP
  have hD : va_D (zA ((zB_X2 (g 0) o O) ++ (zB_X3 (g 0) h T))) ((zB_X2 (g 0) o (zU O 2 (fun _ => 0))) ++ (zB_X3 (g 0) h T)) := hD
  refine lv_iconst (v := 0) hx hb dX2_lookAtPersons_11 (by decide) ?_
  refine lv_istore (lv' := [(4, .int 0), (3, .int (v_X3_saltOf T b)), (0, .ref (o 0)), (1, .ref (h 0)), (2, .int (nI b))]) hx hb dX2_lookAtPersons_12 hl (by decide) rfl (fun ls hl => ?_)
  have L14 : ∀ (n : Nat) (i : Nat) (O1 : Nat → Nat → Int32), (i ≤ 100) → 100 - i < n → ∀ (H : Heap) (locs : List Loc), va_P D vwCl ((zB_X2 (g 0) o O1) ++ (zB_X3 (g 0) h T)) H → va_D (zA ((zB_X2 (g 0) o O) ++ (zB_X3 (g 0) h T))) ((zB_X2 (g 0) o O1) ++ (zB_X3 (g 0) h T)) → va_S (zA ((zB_X2 (g 0) o O) ++ (zB_X3 (g 0) h T))) s.heap H locs → ∀ (ls : Array Slot), lv_has ls 6 [(0, .ref (o 0)), (1, .ref (h 0)), (2, .int (nI b)), (3, .int (v_X3_saltOf T b)), (4, .int (nI i))] → q = v_X2_lookAtPersons_14 T b n i O1 → W p l e (rmOf 2 42) s m [.ref (o 0), .ref (h 0), .int (nI b)].toArray below meth c H locs 0 0 (MQ below (zQw D ((zB_X2 (g 0) o O) ++ (zB_X3 (g 0) h T)) (none) ((zB_X2 (g 0) o q) ++ (zB_X3 (g 0) h T))) [.ref (o 0), .ref (h 0), .int (nI b)].toArray s 0 0 (zA ((zB_X2 (g 0) o O) ++ (zB_X3 (g 0) h T)))) (F0 m 14 ls []) := by
    intro n
    induction n with
    | zero => intro i O1 v14_0 hn; exact absurd hn (Nat.not_lt_zero _)
    | succ n ih14 =>
      intro i O1 v14_0 hn14 H locs hP hD hS ls hl hq
      rw [v_X2_lookAtPersons_14] at hq
      refine lv_iload hx hb dX2_lookAtPersons_14 (lv_at hl 4 rfl) ?_
      refine lv_bipush (v := 100) hx hb dX2_lookAtPersons_16 (by decide) ?_
      refine lv_icmp_ge (tgt := 35) hx hb dX2_lookAtPersons_18 (by decide) (fun c_2 => ?_) (fun c_2 => ?_)
      · have c_2 : 100 ≤ i := (nI_leI (a := 100) (b := i) (by omega) (by omega)).mp c_2
        have hq := hq.trans (if_pos c_2)
        refine lv_sipush (v := 149) hx hb dX2_lookAtPersons_35 (by decide) ?_
        refine lv_istore (lv' := [(4, .int 149), (0, .ref (o 0)), (1, .ref (h 0)), (2, .int (nI b)), (3, .int (v_X3_saltOf T b))]) hx hb dX2_lookAtPersons_38 hl (by decide) rfl (fun ls hl => ?_)
        have L40 : ∀ (n : Nat) (i' : Int32) (O1' : Nat → Nat → Int32), (-1 ≤ i'.toInt) → (i'.toInt < 150) → (i'.toInt + 1).toNat < n → ∀ (H : Heap) (locs : List Loc), va_P D vwCl ((zB_X2 (g 0) o O1') ++ (zB_X3 (g 0) h T)) H → va_D (zA ((zB_X2 (g 0) o O) ++ (zB_X3 (g 0) h T))) ((zB_X2 (g 0) o O1') ++ (zB_X3 (g 0) h T)) → va_S (zA ((zB_X2 (g 0) o O) ++ (zB_X3 (g 0) h T))) s.heap H locs → ∀ (ls : Array Slot), lv_has ls 6 [(0, .ref (o 0)), (1, .ref (h 0)), (2, .int (nI b)), (3, .int (v_X3_saltOf T b)), (4, .int i')] → q = v_X2_lookAtPersons_40 T b n i' O1' → W p l e (rmOf 2 42) s m [.ref (o 0), .ref (h 0), .int (nI b)].toArray below meth c H locs 0 0 (MQ below (zQw D ((zB_X2 (g 0) o O) ++ (zB_X3 (g 0) h T)) (none) ((zB_X2 (g 0) o q) ++ (zB_X3 (g 0) h T))) [.ref (o 0), .ref (h 0), .int (nI b)].toArray s 0 0 (zA ((zB_X2 (g 0) o O) ++ (zB_X3 (g 0) h T)))) (F0 m 40 ls []) := by
          intro n
          induction n with
          | zero => intro i' O1' v40_0 v40_1 hn; exact absurd hn (Nat.not_lt_zero _)
          | succ n ih40 =>
            intro i' O1' v40_0 v40_1 hn40 H locs hP hD hS ls hl hq
            rw [v_X2_lookAtPersons_40] at hq
            refine lv_iload hx hb dX2_lookAtPersons_40 (lv_at hl 4 rfl) ?_
            refine lv_if_lt (tgt := 112) hx hb dX2_lookAtPersons_42 (by decide) (fun c_3 => ?_) (fun c_3 => ?_)
            · have c_3 : i' < 0 := c_3
              have hq := hq.trans (if_pos c_3)
              exact zretw_v hx hb hr hlocks dX2_lookAtPersons_112 hP hS (congrArg (fun z9 => (zB_X2 (g 0) o z9) ++ (zB_X3 (g 0) h T)) hq)
            · have c_3 : ¬ (i' < 0) := c_3
              have hq := hq.trans (if_neg c_3)
              refine lv_aload_n hx hb dX2_lookAtPersons_45 rfl (lv_at hl 1 rfl) ?_
              refine lv_iload hx hb dX2_lookAtPersons_46 (lv_at hl 4 rfl) ?_
              have w_4 := znat (zin_dn (by with_reducible assumption) v40_1)
              have w_4b := w_4.2
              refine lv_is w_4.1 ?_
              refine lv_iload_n hx hb dX2_lookAtPersons_48 rfl (lv_at hl 2 rfl) ?_
              refine zcV (ci := 3) (n := 2) (c_X3_isSure l D g h T (Int32.toNatClampNeg i') b (by omega) (by omega)) hx hb hml hown hts gX2_lookAtPersons_X3_isSure rfl ⟨rfl, by decide, by decide, by decide⟩ ⟨Nat.le_of_ble_eq_true rfl, Nat.le_of_ble_eq_true rfl⟩ ⟨rfl, rfl⟩ hK (hP.sub [4, 5, 6, 7, 8, 9, 10, 11, 12, 13, 14] rfl) rfl rfl rfl hl.1 rfl rfl (Nat.le_of_ble_eq_true rfl) ⟨Nat.zero_le _, Nat.zero_le _⟩ dX2_lookAtPersons_49 ?_
              refine zif_eq (tgt := 68) hx hb dX2_lookAtPersons_52 (by decide) (fun c_6 => ?_) (fun c_6 => ?_)
              · have hq := hq.trans (zif_f c_6)
                refine lv_aload_n hx hb dX2_lookAtPersons_68 rfl (lv_at hl 1 rfl) ?_
                refine lv_iload hx hb dX2_lookAtPersons_69 (lv_at hl 4 rfl) ?_
                have w_7 := znat (zin_dn (by with_reducible assumption) v40_1)
                have w_7b := w_7.2
                refine lv_is w_7.1 ?_
                refine lv_iload_n hx hb dX2_lookAtPersons_71 rfl (lv_at hl 2 rfl) ?_
                refine zcV (ci := 3) (n := 2) (c_X3_isHeldOut l D g h T (Int32.toNatClampNeg i') b (by omega) (by omega)) hx hb hml hown hts gX2_lookAtPersons_X3_isHeldOut rfl ⟨rfl, by decide, by decide, by decide⟩ ⟨Nat.le_of_ble_eq_true rfl, Nat.le_of_ble_eq_true rfl⟩ ⟨rfl, rfl⟩ hK (hP.sub [4, 5, 6, 7, 8, 9, 10, 11, 12, 13, 14] rfl) rfl rfl rfl hl.1 rfl rfl (Nat.le_of_ble_eq_true rfl) ⟨Nat.zero_le _, Nat.zero_le _⟩ dX2_lookAtPersons_72 ?_
                refine zif_ne (tgt := 106) hx hb dX2_lookAtPersons_75 (by decide) (fun c_9 => ?_) (fun c_9 => ?_)
                · have hq := hq.trans (zif_t c_9)
                  refine lv_iinc (v := (i' + (-1))) (lv' := [(4, .int (i' + (-1))), (0, .ref (o 0)), (1, .ref (h 0)), (2, .int (nI b)), (3, .int (v_X3_saltOf T b))]) hx hb dX2_lookAtPersons_106 hl (k := 4) rfl rfl (by decide) rfl (fun ls hl => ?_)
                  refine lv_goto (tgt := 40) hx hb dX2_lookAtPersons_109 (by decide) ?_
                  exact ih40 (i' + (-1)) O1' (zdec1 (by with_reducible assumption)) (zdec2 (by with_reducible assumption) v40_1) (zdec3 (by with_reducible assumption) hn40) _ _ hP hD hS ls (lv_sub hl [1, 2, 3, 4, 0] rfl) hq
                · have hq := hq.trans (zif_f c_9)
                  refine lv_iload hx hb dX2_lookAtPersons_78 (lv_at hl 4 rfl) ?_
                  refine lv_iload_n hx hb dX2_lookAtPersons_80 rfl (lv_at hl 3 rfl) ?_
                  refine zcSN (n := 2) (c_X4_bucketBy l D g i' (v_X3_saltOf T b)) hx hb hml hown hts gX2_lookAtPersons_X4_bucketBy_n74 rfl ⟨by decide, by decide, by decide⟩ ⟨Nat.le_of_ble_eq_true rfl, Nat.le_of_ble_eq_true rfl⟩ ⟨rfl, rfl⟩ (List.mem_of_getElem? (i := 2) rfl) (List.mem_of_getElem? (i := 13) rfl) (List.mem_of_getElem? (i := 27) rfl) hK (hP.sub [] rfl) hl.1 rfl rfl (Nat.le_of_ble_eq_true rfl) ⟨Nat.zero_le _, Nat.zero_le _⟩ dX2_lookAtPersons_81 ?_
                  have p_11 := v_X4_bucketBy_lt i' (v_X3_saltOf T b)
                  refine lv_istore (lv' := [(5, .int (nI (v_X4_bucketBy i' (v_X3_saltOf T b)))), (0, .ref (o 0)), (1, .ref (h 0)), (2, .int (nI b)), (3, .int (v_X3_saltOf T b)), (4, .int i')]) hx hb dX2_lookAtPersons_84 hl (by decide) rfl (fun ls hl => ?_)
                  refine lv_aload_n hx hb dX2_lookAtPersons_86 rfl (lv_at hl 1 rfl) ?_
                  refine va_get (D := D) (ci := 2) (v := .ref (o 4)) (C := RX2) (T := TX2) (N := 5) hx hb hts hinX2 hown hK.1 hP 0 rfl rfl 3 (by decide) (hts (.fieldLink RX2 15 "SaltShares$Outlook" "newcomers" "[I") (List.mem_of_getElem? (i := 2) rfl)) (fun _ h9 => h9) rfl dX2_lookAtPersons_87 ?_
                  refine lv_iload hx hb dX2_lookAtPersons_90 (lv_at hl 0 rfl) ?_
                  refine lv_dup2_11 hx hb dX2_lookAtPersons_92 rfl rfl ?_
                  refine z_iald (i := v_X4_bucketBy i' (v_X3_saltOf T b)) hx hb hK hP 2 0 rfl rfl (by omega) (by decide) dX2_lookAtPersons_93 ?_
                  refine lv_iconst (v := 1) hx hb dX2_lookAtPersons_94 (by decide) ?_
                  refine lv_iadd hx hb dX2_lookAtPersons_95 ?_
                  refine z_iast (i := v_X4_bucketBy i' (v_X3_saltOf T b)) (x := ((O1' 3 (v_X4_bucketBy i' (v_X3_saltOf T b))) + 1)) hx hb hK hP hD hS 2 0 rfl rfl (by omega) (by decide) dX2_lookAtPersons_96 (fun H locs hP hD hS => ?_)
                  have hP : va_P D vwCl ((zB_X2 (g 0) o (zU O1' 3 (upd (O1' 3) (v_X4_bucketBy i' (v_X3_saltOf T b)) ((O1' 3 (v_X4_bucketBy i' (v_X3_saltOf T b))) + 1)))) ++ (zB_X3 (g 0) h T)) H := hP
                  have hD : va_D (zA ((zB_X2 (g 0) o O) ++ (zB_X3 (g 0) h T))) ((zB_X2 (g 0) o (zU O1' 3 (upd (O1' 3) (v_X4_bucketBy i' (v_X3_saltOf T b)) ((O1' 3 (v_X4_bucketBy i' (v_X3_saltOf T b))) + 1)))) ++ (zB_X3 (g 0) h T)) := hD
                  refine lv_aload_n hx hb dX2_lookAtPersons_97 rfl (lv_at hl 1 rfl) ?_
                  refine va_get (D := D) (ci := 2) (v := .ref (o 5)) (C := RX2) (T := TX2) (N := 5) hx hb hts hinX2 hown hK.1 hP 0 rfl rfl 4 (by decide) (hts (.fieldLink RX2 18 "SaltShares$Outlook" "first" "[I") (List.mem_of_getElem? (i := 3) rfl)) (fun _ h9 => h9) rfl dX2_lookAtPersons_98 ?_
                  refine lv_iload hx hb dX2_lookAtPersons_101 (lv_at hl 0 rfl) ?_
                  refine lv_iload hx hb dX2_lookAtPersons_103 (lv_at hl 5 rfl) ?_
                  refine z_iast (i := v_X4_bucketBy i' (v_X3_saltOf T b)) (x := i') hx hb hK hP hD hS 3 0 rfl rfl (by omega) (by decide) dX2_lookAtPersons_105 (fun H locs hP hD hS => ?_)
                  have hP : va_P D vwCl ((zB_X2 (g 0) o (zU (zU O1' 3 (upd (O1' 3) (v_X4_bucketBy i' (v_X3_saltOf T b)) ((O1' 3 (v_X4_bucketBy i' (v_X3_saltOf T b))) + 1))) 4 (upd (O1' 4) (v_X4_bucketBy i' (v_X3_saltOf T b)) i'))) ++ (zB_X3 (g 0) h T)) H := hP
                  have hD : va_D (zA ((zB_X2 (g 0) o O) ++ (zB_X3 (g 0) h T))) ((zB_X2 (g 0) o (zU (zU O1' 3 (upd (O1' 3) (v_X4_bucketBy i' (v_X3_saltOf T b)) ((O1' 3 (v_X4_bucketBy i' (v_X3_saltOf T b))) + 1))) 4 (upd (O1' 4) (v_X4_bucketBy i' (v_X3_saltOf T b)) i'))) ++ (zB_X3 (g 0) h T)) := hD
                  refine lv_iinc (v := (i' + (-1))) (lv' := [(4, .int (i' + (-1))), (5, .int (nI (v_X4_bucketBy i' (v_X3_saltOf T b)))), (0, .ref (o 0)), (1, .ref (h 0)), (2, .int (nI b)), (3, .int (v_X3_saltOf T b))]) hx hb dX2_lookAtPersons_106 hl (k := 5) rfl rfl (by decide) rfl (fun ls hl => ?_)
                  refine lv_goto (tgt := 40) hx hb dX2_lookAtPersons_109 (by decide) ?_
                  exact ih40 (i' + (-1)) (zU (zU O1' 3 (upd (O1' 3) (v_X4_bucketBy i' (v_X3_saltOf T b)) ((O1' 3 (v_X4_bucketBy i' (v_X3_saltOf T b))) + 1))) 4 (upd (O1' 4) (v_X4_bucketBy i' (v_X3_saltOf T b)) i')) (zdec1 (by with_reducible assumption)) (zdec2 (by with_reducible assumption) v40_1) (zdec3 (by with_reducible assumption) hn40) _ _ hP hD hS ls (lv_sub hl [2, 3, 4, 5, 0] rfl) hq
              · have hq := hq.trans (zif_t c_6)
                refine lv_aload_n hx hb dX2_lookAtPersons_55 rfl (lv_at hl 0 rfl) ?_
                refine lv_dup hx hb dX2_lookAtPersons_56 rfl ?_
                refine va_get (D := D) (ci := 2) (v := .int (O1' 2 0)) (C := RX2) (T := TX2) (N := 5) hx hb hts hinX2 hown hK.1 hP 0 rfl rfl 2 (by decide) (hts (.fieldLink RX2 35 "SaltShares$Outlook" "sure" "I") (List.mem_of_getElem? (i := 1) rfl)) (fun _ h9 => h9) rfl dX2_lookAtPersons_57 ?_
                refine lv_iconst (v := 1) hx hb dX2_lookAtPersons_60 (by decide) ?_
                refine lv_iadd hx hb dX2_lookAtPersons_61 ?_
                refine va_put (D := D) (ci := 2) (v := .int ((O1' 2 0) + 1)) (ty := .int) (C := RX2) (T := TX2) (N := 5) hx hb hts hinX2 tyX2 tyX2_ok nmX2 hown hK.1 hP hD hS 0 rfl rfl 2 (by decide) (hts (.fieldLink RX2 35 "SaltShares$Outlook" "sure" "I") (List.mem_of_getElem? (i := 1) rfl)) (fun _ h9 => h9) rfl (by decide +kernel) rfl rfl (Nat.le_of_ble_eq_true rfl) dX2_lookAtPersons_62 (fun H locs hP hD hS => ?_)
                have hP : va_P D vwCl ((zB_X2 (g 0) o (zU O1' 2 (fun _ => ((O1' 2 0) + 1)))) ++ (zB_X3 (g 0) h T)) H := hP
                have hD : va_D (zA ((zB_X2 (g 0) o O) ++ (zB_X3 (g 0) h T))) ((zB_X2 (g 0) o (zU O1' 2 (fun _ => ((O1' 2 0) + 1)))) ++ (zB_X3 (g 0) h T)) := hD
                refine lv_goto (tgt := 106) hx hb dX2_lookAtPersons_65 (by decide) ?_
                refine lv_iinc (v := (i' + (-1))) (lv' := [(4, .int (i' + (-1))), (0, .ref (o 0)), (1, .ref (h 0)), (2, .int (nI b)), (3, .int (v_X3_saltOf T b))]) hx hb dX2_lookAtPersons_106 hl (k := 4) rfl rfl (by decide) rfl (fun ls hl => ?_)
                refine lv_goto (tgt := 40) hx hb dX2_lookAtPersons_109 (by decide) ?_
                exact ih40 (i' + (-1)) (zU O1' 2 (fun _ => ((O1' 2 0) + 1))) (zdec1 (by with_reducible assumption)) (zdec2 (by with_reducible assumption) v40_1) (zdec3 (by with_reducible assumption) hn40) _ _ hP hD hS ls (lv_sub hl [1, 2, 3, 4, 0] rfl) hq
        exact L40 151 149 O1 (by decide) (by decide) (by decide) _ _ hP hD hS ls (lv_sub hl [1, 2, 3, 4, 0] rfl) hq
      · have c_2 : ¬ (100 ≤ i) := fun h9 => c_2 ((nI_leI (a := 100) (b := i) (by omega) (by omega)).mpr h9)
        have hq := hq.trans (if_neg c_2)
        refine lv_aload_n hx hb dX2_lookAtPersons_21 rfl (lv_at hl 0 rfl) ?_
        refine va_get (D := D) (ci := 2) (v := .ref (o 4)) (C := RX2) (T := TX2) (N := 5) hx hb hts hinX2 hown hK.1 hP 0 rfl rfl 3 (by decide) (hts (.fieldLink RX2 15 "SaltShares$Outlook" "newcomers" "[I") (List.mem_of_getElem? (i := 2) rfl)) (fun _ h9 => h9) rfl dX2_lookAtPersons_22 ?_
        refine lv_iload hx hb dX2_lookAtPersons_25 (lv_at hl 4 rfl) ?_
        refine lv_iconst (v := 0) hx hb dX2_lookAtPersons_27 (by decide) ?_
        refine z_iast (i := i) (x := 0) hx hb hK hP hD hS 2 0 rfl rfl (by omega) (by decide) dX2_lookAtPersons_28 (fun H locs hP hD hS => ?_)
        have hP : va_P D vwCl ((zB_X2 (g 0) o (zU O1 3 (upd (O1 3) i 0))) ++ (zB_X3 (g 0) h T)) H := hP
        have hD : va_D (zA ((zB_X2 (g 0) o O) ++ (zB_X3 (g 0) h T))) ((zB_X2 (g 0) o (zU O1 3 (upd (O1 3) i 0))) ++ (zB_X3 (g 0) h T)) := hD
        refine lv_iinc (v := (nI (i + 1))) (lv' := [(4, .int (nI (i + 1))), (0, .ref (o 0)), (1, .ref (h 0)), (2, .int (nI b)), (3, .int (v_X3_saltOf T b))]) hx hb dX2_lookAtPersons_29 hl (k := 4) rfl (nI_add _ 1) (by decide) rfl (fun ls hl => ?_)
        refine lv_goto (tgt := 14) hx hb dX2_lookAtPersons_32 (by decide) ?_
        exact ih14 (i + 1) (zU O1 3 (upd (O1 3) i 0)) (by omega) (by omega) _ _ hP hD hS ls (lv_sub hl [1, 2, 3, 4, 0] rfl) hq
  exact L14 101 0 (zU O 2 (fun _ => 0)) (by omega) (by omega) _ _ hP hD hS ls (lv_sub hl [2, 3, 4, 1, 0] rfl) hq
def v_X2_lookAt (O : Nat → Nat → Int32) (T : Nat → Nat → Int32) (b : Nat) : (Nat → Nat → Int32) := v_X2_lookAtPersons (v_X2_lookAtBuckets O T b) T b
set_option maxHeartbeats 400000 in
set_option maxRecDepth 100000 in
theorem c_X2_lookAt (l : Launch) (D : va_G) (g : Nat → ClassId) (o : Nat → Nat) (h : Nat → Nat) (O : Nat → Nat → Int32) (T : Nat → Nat → Int32) (b : Nat) (z0 : b < 8) : Wr l D (zT g) yX2_lookAt wsX2_lookAt (rmOf 3 67) [.ref (o 0), .ref (h 0), .int (nI b)] ((zB_X2 (g 0) o O) ++ (zB_X3 (g 0) h T)) (none) ((zB_X2 (g 0) o (v_X2_lookAt O T b)) ++ (zB_X3 (g 0) h T)) := by
  refine Wr.of (cc := cX2_lookAt) (maxL := 3) (ret := none) (by decide) rfl (Nat.le_of_ble_eq_true rfl) ?_
  intro p e s m below meth c ls hx hb hr hml hown hts hlocks hP hD hS hK hl
  have hown : s.vm.findClass RX2 = some m.cls := hown
  obtain ⟨q, hq⟩ : ∃ q : (Nat → Nat → Int32), q = v_X2_lookAt O T b := ⟨_, rfl⟩
  rw [← hq]
  unfold v_X2_lookAt at hq
  have hl : lv_has ls 3 [(0, .ref (o 0)), (1, .ref (h 0)), (2, .int (nI b))] := hl
  refine lv_aload_n hx hb dX2_lookAt_0 rfl (lv_at hl 0 rfl) ?_
  refine lv_aload_n hx hb dX2_lookAt_1 rfl (lv_at hl 1 rfl) ?_
  refine lv_iload_n hx hb dX2_lookAt_2 rfl (lv_at hl 2 rfl) ?_
  refine zcVw (ci := 2) (n := 2) (c_X2_lookAtBuckets l D g o h O T b (by omega)) hx hb hml hown hts gX2_lookAt_X2_lookAtBuckets rfl ⟨rfl, by decide, by decide, by decide⟩ ⟨Nat.le_of_ble_eq_true rfl, Nat.le_of_ble_eq_true rfl⟩ ⟨rfl, rfl⟩ hK hP hD rfl rfl rfl hS hl.1 rfl rfl (Nat.le_of_ble_eq_true rfl) ⟨Nat.zero_le _, Nat.zero_le _⟩ dX2_lookAt_3 (fun H1 locs hP1 hk1 hS => ?_)
  have hD := zD_addr (ws' := (zB_X2 (g 0) o (v_X2_lookAtBuckets O T b)) ++ (zB_X3 (g 0) h T)) hD rfl; have hP := hP1
  clear hP1 hk1
  have hP : va_P D vwCl ((zB_X2 (g 0) o (v_X2_lookAtBuckets O T b)) ++ (zB_X3 (g 0) h T)) H1 := hP
  have hD : va_D (zA ((zB_X2 (g 0) o O) ++ (zB_X3 (g 0) h T))) ((zB_X2 (g 0) o (v_X2_lookAtBuckets O T b)) ++ (zB_X3 (g 0) h T)) := hD
  refine lv_aload_n hx hb dX2_lookAt_6 rfl (lv_at hl 0 rfl) ?_
  refine lv_aload_n hx hb dX2_lookAt_7 rfl (lv_at hl 1 rfl) ?_
  refine lv_iload_n hx hb dX2_lookAt_8 rfl (lv_at hl 2 rfl) ?_
  refine zcVw (ci := 2) (n := 2) (c_X2_lookAtPersons l D g o h (v_X2_lookAtBuckets O T b) T b (by omega)) hx hb hml hown hts gX2_lookAt_X2_lookAtPersons rfl ⟨rfl, by decide, by decide, by decide⟩ ⟨Nat.le_of_ble_eq_true rfl, Nat.le_of_ble_eq_true rfl⟩ ⟨rfl, rfl⟩ hK hP hD rfl rfl rfl hS hl.1 rfl rfl (Nat.le_of_ble_eq_true rfl) ⟨Nat.zero_le _, Nat.zero_le _⟩ dX2_lookAt_9 (fun H1 locs hP1 hk1 hS => ?_)
  have hD := zD_addr (ws' := (zB_X2 (g 0) o (v_X2_lookAtPersons (v_X2_lookAtBuckets O T b) T b)) ++ (zB_X3 (g 0) h T)) hD rfl; have hP := hP1
  clear hP1 hk1
  have hP : va_P D vwCl ((zB_X2 (g 0) o (v_X2_lookAtPersons (v_X2_lookAtBuckets O T b) T b)) ++ (zB_X3 (g 0) h T)) H1 := hP
  have hD : va_D (zA ((zB_X2 (g 0) o O) ++ (zB_X3 (g 0) h T))) ((zB_X2 (g 0) o (v_X2_lookAtPersons (v_X2_lookAtBuckets O T b) T b)) ++ (zB_X3 (g 0) h T)) := hD
  exact zretw_v hx hb hr hlocks dX2_lookAt_12 hP hS (congrArg (fun z9 => (zB_X2 (g 0) o z9) ++ (zB_X3 (g 0) h T)) hq)
