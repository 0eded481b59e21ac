set_option maxHeartbeats 400000 in
set_option maxRecDepth 100000 in
theorem c_L_agree (l : Launch) (D : va_G) (g : Nat → ClassId) (f : Nat → Nat) (h : Nat → Nat) (u : Nat → Nat) (o : Nat → Nat) (x : Nat → Nat) (t0 : Nat → Nat) (t1 : Nat → Nat) (t2 : Nat → Nat) (t3 : Nat → Nat) (t4 : Nat → Nat) (t5 : Nat → Nat) (yi : Nat → Nat) (yq : Nat → Nat) (Z : Nat → Nat → Int32) (T0 : Nat → Nat → Int32) (T1 : Nat → Nat → Int32) (T2 : Nat → Nat → Int32) (T3 : Nat → Nat → Int32) (T4 : Nat → Nat → Int32) (T5 : Nat → Nat → Int32) (T : Nat → Nat → Int32) (O : Nat → Nat → Int32) (I : Nat → Nat → Int32) (Q : Nat → Nat → Int64) (yy : Int32) (M : Nat → Nat → Int32) (z0 : zPI Z T M I Q) : Rd l D (zT g) yL_agree wsL_agree (rmOf 7 155) [.ref (f 0), .int yy, .ref (yi 1), .ref (yi 2), .ref (yq 1), .ref (yq 2), .ref (yq 3), .ref (yq 4)] (zF [zB_X4 f h u o x, zB_X1 (g 1) u t0 t1 t2 t3 t4 t5 Z, zB_X3 (g 0) t0 T0, zB_X3 (g 0) t1 T1, zB_X3 (g 0) t2 T2, zB_X3 (g 0) t3 T3, zB_X3 (g 0) t4 T4, zB_X3 (g 0) t5 T5, zB_X3 (g 0) h T, zB_X2 (g 0) o O, zB_LI (g 0) yi I, zB_LQ (g 2) yq Q]) (.int (bI (v_L_agree Z T0 T1 T2 T3 T4 T5 T O I Q yy))) := by
  refine Rd.of (cc := cL_agree) (maxL := 14) (ret := (some .boolean)) (by decide) rfl (Nat.le_of_ble_eq_true rfl) ?_
  intro p e s m below meth c ls hx hb hr hml hown hts hlocks hP hK hl
  have hown : s.vm.findClass RL = some m.cls := hown
  obtain ⟨q, hq⟩ : ∃ q : Bool, q = v_L_agree Z T0 T1 T2 T3 T4 T5 T O I Q yy := ⟨_, rfl⟩
  rw [← hq]
  unfold v_L_agree at hq
  have hl : lv_has ls 14 [(0, .ref (f 0)), (1, .int yy), (2, .ref (yi 1)), (3, .ref (yi 2)), (4, .ref (yq 1)), (5, .ref (yq 2)), (6, .ref (yq 3)), (7, .ref (yq 4))] := hl
  refine lv_iconst (v := 0) hx hb dL_agree_0 (by decide) ?_
  refine lv_istore (lv' := [(8, .int 0), (0, .ref (f 0)), (1, .int yy), (2, .ref (yi 1)), (3, .ref (yi 2)), (4, .ref (yq 1)), (5, .ref (yq 2)), (6, .ref (yq 3)), (7, .ref (yq 4))]) hx hb dL_agree_1 hl (by decide) rfl (fun ls hl => ?_)
  have L3 : ∀ (n : Nat) (b : Nat), (b ≤ 5) → 5 - b < n → ∀ (ls : Array Slot), lv_has ls 14 [(0, .ref (f 0)), (1, .int yy), (2, .ref (yi 1)), (3, .ref (yi 2)), (4, .ref (yq 1)), (5, .ref (yq 2)), (6, .ref (yq 3)), (7, .ref (yq 4)), (8, .int (nI b))] → ∀ (r3 : Nat), r3 = v_L_agree_3 I n b → (∀ (ls : Array Slot), lv_has ls 14 [(0, .ref (f 0)), (1, .int yy), (2, .ref (yi 1)), (3, .ref (yi 2)), (4, .ref (yq 1)), (5, .ref (yq 2)), (6, .ref (yq 3)), (7, .ref (yq 4)), (8, .int (nI r3))] → W p l e (rmOf 7 155) s m [.ref (f 0), .int yy, .ref (yi 1), .ref (yi 2), .ref (yq 1), .ref (yq 2), .ref (yq 3), .ref (yq 4)].toArray below meth c s.heap [] 0 0 (MQ below (zQ (.int (bI q))) [.ref (f 0), .int yy, .ref (yi 1), .ref (yi 2), .ref (yq 1), .ref (yq 2), .ref (yq 3), .ref (yq 4)].toArray s 0 0 (fun _ => False)) (F0 m 316 ls [])) → W p l e (rmOf 7 155) s m [.ref (f 0), .int yy, .ref (yi 1), .ref (yi 2), .ref (yq 1), .ref (yq 2), .ref (yq 3), .ref (yq 4)].toArray below meth c s.heap [] 0 0 (MQ below (zQ (.int (bI q))) [.ref (f 0), .int yy, .ref (yi 1), .ref (yi 2), .ref (yq 1), .ref (yq 2), .ref (yq 3), .ref (yq 4)].toArray s 0 0 (fun _ => False)) (F0 m 3 ls []) := by
    intro n
    induction n with
    | zero => intro b v3_0 hn; exact absurd hn (Nat.not_lt_zero _)
    | succ n ih3 =>
      intro b v3_0 hn3 ls hl r3 hq kk3
      rw [v_L_agree_3] at hq
      refine lv_iload hx hb dL_agree_3 (lv_at hl 8 rfl) ?_
      refine lv_aload_n hx hb dL_agree_5 rfl (lv_at hl 2 rfl) ?_
      refine lv_iconst (v := 0) hx hb dL_agree_6 (by decide) ?_
      refine z_iald (i := 0) hx hb hK hP 84 0 rfl rfl (by omega) (by decide) dL_agree_7 ?_
      refine lv_icmp_ge (tgt := 316) hx hb dL_agree_8 (by decide) (fun c_1 => ?_) (fun c_1 => ?_)
      · have c_1 : (I 0 0) ≤ (nI b) := c_1
        have hq := hq.trans (if_pos c_1)
        subst hq
        exact kk3 ls (lv_sub hl [0, 1, 2, 3, 4, 5, 6, 7, 8] rfl)
      · have c_1 : ¬ ((I 0 0) ≤ (nI b)) := c_1
        have hq := hq.trans (if_neg c_1)
        have hb5 : b < 5 := znb5 z0.2.2.1.1.1 (by with_reducible assumption) v3_0
        have hbn : b < zNb I := zbn z0 (by with_reducible assumption) v3_0
        refine lv_iconst (v := 0) hx hb dL_agree_11 (by decide) ?_
        refine lv_istore (lv' := [(9, .int 0), (0, .ref (f 0)), (1, .int yy), (2, .ref (yi 1)), (3, .ref (yi 2)), (4, .ref (yq 1)), (5, .ref (yq 2)), (6, .ref (yq 3)), (7, .ref (yq 4)), (8, .int (nI b))]) hx hb dL_agree_12 hl (by decide) rfl (fun ls hl => ?_)
        refine lv_iconst (v := 0) hx hb dL_agree_14 (by decide) ?_
        refine lv_istore (lv' := [(10, .int 0), (9, .int 0), (0, .ref (f 0)), (1, .int yy), (2, .ref (yi 1)), (3, .ref (yi 2)), (4, .ref (yq 1)), (5, .ref (yq 2)), (6, .ref (yq 3)), (7, .ref (yq 4)), (8, .int (nI b))]) hx hb dL_agree_15 hl (by decide) rfl (fun ls hl => ?_)
        refine lv_iconst (v := 0) hx hb dL_agree_17 (by decide) ?_
        refine lv_istore (lv' := [(11, .int 0), (10, .int 0), (9, .int 0), (0, .ref (f 0)), (1, .int yy), (2, .ref (yi 1)), (3, .ref (yi 2)), (4, .ref (yq 1)), (5, .ref (yq 2)), (6, .ref (yq 3)), (7, .ref (yq 4)), (8, .int (nI b))]) hx hb dL_agree_18 hl (by decide) rfl (fun ls hl => ?_)
        have L20 : ∀ (n : Nat) (had : Nat) (held : Nat) (pe : Nat), (pe ≤ 150) → 150 - pe < n → ∀ (ls : Array Slot), lv_has ls 14 [(0, .ref (f 0)), (1, .int yy), (2, .ref (yi 1)), (3, .ref (yi 2)), (4, .ref (yq 1)), (5, .ref (yq 2)), (6, .ref (yq 3)), (7, .ref (yq 4)), (8, .int (nI b)), (9, .int (nI had)), (10, .int (nI held)), (11, .int (nI pe))] → ∀ (r20 : Nat × Nat × Nat), r20 = v_L_agree_20 Q b n had held pe → (∀ (ls : Array Slot), lv_has ls 14 [(0, .ref (f 0)), (1, .int yy), (2, .ref (yi 1)), (3, .ref (yi 2)), (4, .ref (yq 1)), (5, .ref (yq 2)), (6, .ref (yq 3)), (7, .ref (yq 4)), (8, .int (nI b)), (9, .int (nI r20.1)), (10, .int (nI r20.2.1)), (11, .int (nI r20.2.2))] → W p l e (rmOf 7 155) s m [.ref (f 0), .int yy, .ref (yi 1), .ref (yi 2), .ref (yq 1), .ref (yq 2), .ref (yq 3), .ref (yq 4)].toArray below meth c s.heap [] 0 0 (MQ below (zQ (.int (bI q))) [.ref (f 0), .int yy, .ref (yi 1), .ref (yi 2), .ref (yq 1), .ref (yq 2), .ref (yq 3), .ref (yq 4)].toArray s 0 0 (fun _ => False)) (F0 m 66 ls [])) → W p l e (rmOf 7 155) s m [.ref (f 0), .int yy, .ref (yi 1), .ref (yi 2), .ref (yq 1), .ref (yq 2), .ref (yq 3), .ref (yq 4)].toArray below meth c s.heap [] 0 0 (MQ below (zQ (.int (bI q))) [.ref (f 0), .int yy, .ref (yi 1), .ref (yi 2), .ref (yq 1), .ref (yq 2), .ref (yq 3), .ref (yq 4)].toArray s 0 0 (fun _ => False)) (F0 m 20 ls []) := by
          intro n
          induction n with
          | zero => intro had held pe v20_0 hn; exact absurd hn (Nat.not_lt_zero _)
          | succ n ih20 =>
            intro had held pe v20_0 hn20 ls hl r20 hq kk20
            rw [v_L_agree_20] at hq
            refine lv_iload hx hb dL_agree_20 (lv_at hl 11 rfl) ?_
            refine lv_sipush (v := 150) hx hb dL_agree_22 (by decide) ?_
            refine lv_icmp_ge (tgt := 66) hx hb dL_agree_25 (by decide) (fun c_2 => ?_) (fun c_2 => ?_)
            · have c_2 : 150 ≤ pe := (nI_leI (a := 150) (b := pe) (by omega) (by omega)).mp c_2
              have hq := hq.trans (if_pos c_2)
              subst hq
              exact kk20 ls (lv_sub hl [0, 1, 2, 3, 4, 5, 6, 7, 8, 9, 10, 11] rfl)
            · have c_2 : ¬ (150 ≤ pe) := fun h9 => c_2 ((nI_leI (a := 150) (b := pe) (by omega) (by omega)).mpr h9)
              have hq := hq.trans (if_neg c_2)
              refine lv_aload hx hb dL_agree_28 (lv_at hl 7 rfl) ?_
              refine lv_iconst (v := 3) hx hb dL_agree_30 (by decide) ?_
              refine lv_iload hx hb dL_agree_31 (lv_at hl 8 rfl) ?_
              refine lv_iload hx hb dL_agree_33 (lv_at hl 11 rfl) ?_
              refine zcSO (n := 4) (c_L_has_3 l D g yq Q 3 b pe (by omega) (by omega)) hx hb hml hown hts gL_agree_L_has rfl ⟨by decide, by decide, by decide⟩ ⟨Nat.le_of_ble_eq_true rfl, Nat.le_of_ble_eq_true rfl⟩ ⟨rfl, rfl⟩ hK (zsubB (cs := [zB_LQ (g 2) yq Q]) hP [11] rfl (zF1 _)) hl.1 rfl rfl (Nat.le_of_ble_eq_true rfl) ⟨Nat.zero_le _, Nat.zero_le _⟩ dL_agree_35 ?_
              refine zif_eq (tgt := 44) hx hb dL_agree_38 (by decide) (fun c_4 => ?_) (fun c_4 => ?_)
              · have hq := hq.trans (zif_f c_4)
                refine lv_aload hx hb dL_agree_44 (lv_at hl 5 rfl) ?_
                refine lv_iconst (v := 3) hx hb dL_agree_46 (by decide) ?_
                refine lv_iload hx hb dL_agree_47 (lv_at hl 8 rfl) ?_
                refine lv_iload hx hb dL_agree_49 (lv_at hl 11 rfl) ?_
                refine zcSO (n := 4) (c_L_has_1 l D g yq Q 3 b pe (by omega) (by omega)) hx hb hml hown hts gL_agree_L_has rfl ⟨by decide, by decide, by decide⟩ ⟨Nat.le_of_ble_eq_true rfl, Nat.le_of_ble_eq_true rfl⟩ ⟨rfl, rfl⟩ hK (zsubB (cs := [zB_LQ (g 2) yq Q]) hP [11] rfl (zF1 _)) hl.1 rfl rfl (Nat.le_of_ble_eq_true rfl) ⟨Nat.zero_le _, Nat.zero_le _⟩ dL_agree_51 ?_
                refine zif_eq (tgt := 60) hx hb dL_agree_54 (by decide) (fun c_6 => ?_) (fun c_6 => ?_)
                · have hq := hq.trans (zif_f c_6)
                  refine lv_iinc (v := (nI (pe + 1))) (lv' := [(11, .int (nI (pe + 1))), (0, .ref (f 0)), (1, .int yy), (2, .ref (yi 1)), (3, .ref (yi 2)), (4, .ref (yq 1)), (5, .ref (yq 2)), (6, .ref (yq 3)), (7, .ref (yq 4)), (8, .int (nI b)), (9, .int (nI had)), (10, .int (nI held))]) hx hb dL_agree_60 hl (k := 11) rfl (nI_add _ 1) (by decide) rfl (fun ls hl => ?_)
                  refine lv_goto (tgt := 20) hx hb dL_agree_63 (by decide) ?_
                  exact ih20 had held (pe + 1) (by omega) (by omega) ls (lv_sub hl [1, 2, 3, 4, 5, 6, 7, 8, 9, 10, 11, 0] rfl) _ hq kk20
                · have hq := hq.trans (zif_t c_6)
                  refine lv_iinc (v := (nI (held + 1))) (lv' := [(10, .int (nI (held + 1))), (0, .ref (f 0)), (1, .int yy), (2, .ref (yi 1)), (3, .ref (yi 2)), (4, .ref (yq 1)), (5, .ref (yq 2)), (6, .ref (yq 3)), (7, .ref (yq 4)), (8, .int (nI b)), (9, .int (nI had)), (11, .int (nI pe))]) hx hb dL_agree_57 hl (k := 10) rfl (nI_add _ 1) (by decide) rfl (fun ls hl => ?_)
                  refine lv_iinc (v := (nI (pe + 1))) (lv' := [(11, .int (nI (pe + 1))), (10, .int (nI (held + 1))), (0, .ref (f 0)), (1, .int yy), (2, .ref (yi 1)), (3, .ref (yi 2)), (4, .ref (yq 1)), (5, .ref (yq 2)), (6, .ref (yq 3)), (7, .ref (yq 4)), (8, .int (nI b)), (9, .int (nI had))]) hx hb dL_agree_60 hl (k := 11) rfl (nI_add _ 1) (by decide) rfl (fun ls hl => ?_)
                  refine lv_goto (tgt := 20) hx hb dL_agree_63 (by decide) ?_
                  exact ih20 had (held + 1) (pe + 1) (by omega) (by omega) ls (lv_sub hl [2, 3, 4, 5, 6, 7, 8, 9, 10, 11, 1, 0] rfl) _ hq kk20
              · have hq := hq.trans (zif_t c_4)
                refine lv_iinc (v := (nI (had + 1))) (lv' := [(9, .int (nI (had + 1))), (0, .ref (f 0)), (1, .int yy), (2, .ref (yi 1)), (3, .ref (yi 2)), (4, .ref (yq 1)), (5, .ref (yq 2)), (6, .ref (yq 3)), (7, .ref (yq 4)), (8, .int (nI b)), (10, .int (nI held)), (11, .int (nI pe))]) hx hb dL_agree_41 hl (k := 9) rfl (nI_add _ 1) (by decide) rfl (fun ls hl => ?_)
                refine lv_aload hx hb dL_agree_44 (lv_at hl 6 rfl) ?_
                refine lv_iconst (v := 3) hx hb dL_agree_46 (by decide) ?_
                refine lv_iload hx hb dL_agree_47 (lv_at hl 9 rfl) ?_
                refine lv_iload hx hb dL_agree_49 (lv_at hl 11 rfl) ?_
                refine zcSO (n := 4) (c_L_has_1 l D g yq Q 3 b pe (by omega) (by omega)) hx hb hml hown hts gL_agree_L_has rfl ⟨by decide, by decide, by decide⟩ ⟨Nat.le_of_ble_eq_true rfl, Nat.le_of_ble_eq_true rfl⟩ ⟨rfl, rfl⟩ hK (zsubB (cs := [zB_LQ (g 2) yq Q]) hP [11] rfl (zF1 _)) hl.1 rfl rfl (Nat.le_of_ble_eq_true rfl) ⟨Nat.zero_le _, Nat.zero_le _⟩ dL_agree_51 ?_
                refine zif_eq (tgt := 60) hx hb dL_agree_54 (by decide) (fun c_8 => ?_) (fun c_8 => ?_)
                · have hq := hq.trans (zif_f c_8)
                  refine lv_iinc (v := (nI (pe + 1))) (lv' := [(11, .int (nI (pe + 1))), (9, .int (nI (had + 1))), (0, .ref (f 0)), (1, .int yy), (2, .ref (yi 1)), (3, .ref (yi 2)), (4, .ref (yq 1)), (5, .ref (yq 2)), (6, .ref (yq 3)), (7, .ref (yq 4)), (8, .int (nI b)), (10, .int (nI held))]) hx hb dL_agree_60 hl (k := 11) rfl (nI_add _ 1) (by decide) rfl (fun ls hl => ?_)
                  refine lv_goto (tgt := 20) hx hb dL_agree_63 (by decide) ?_
                  exact ih20 (had + 1) held (pe + 1) (by omega) (by omega) ls (lv_sub hl [2, 3, 4, 5, 6, 7, 8, 9, 10, 1, 11, 0] rfl) _ hq kk20
                · have hq := hq.trans (zif_t c_8)
                  refine lv_iinc (v := (nI (held + 1))) (lv' := [(10, .int (nI (held + 1))), (9, .int (nI (had + 1))), (0, .ref (f 0)), (1, .int yy), (2, .ref (yi 1)), (3, .ref (yi 2)), (4, .ref (yq 1)), (5, .ref (yq 2)), (6, .ref (yq 3)), (7, .ref (yq 4)), (8, .int (nI b)), (11, .int (nI pe))]) hx hb dL_agree_57 hl (k := 10) rfl (nI_add _ 1) (by decide) rfl (fun ls hl => ?_)
                  refine lv_iinc (v := (nI (pe + 1))) (lv' := [(11, .int (nI (pe + 1))), (10, .int (nI (held + 1))), (9, .int (nI (had + 1))), (0, .ref (f 0)), (1, .int yy), (2, .ref (yi 1)), (3, .ref (yi 2)), (4, .ref (yq 1)), (5, .ref (yq 2)), (6, .ref (yq 3)), (7, .ref (yq 4)), (8, .int (nI b))]) hx hb dL_agree_60 hl (k := 11) rfl (nI_add _ 1) (by decide) rfl (fun ls hl => ?_)
                  refine lv_goto (tgt := 20) hx hb dL_agree_63 (by decide) ?_
                  exact ih20 (had + 1) (held + 1) (pe + 1) (by omega) (by omega) ls (lv_sub hl [3, 4, 5, 6, 7, 8, 9, 10, 11, 2, 1, 0] rfl) _ hq kk20
        refine L20 151 0 0 0 (by omega) (by omega) ls (lv_sub hl [3, 4, 5, 6, 7, 8, 9, 10, 11, 2, 1, 0] rfl) _ rfl (fun ls hl => ?_)
        refine lv_iconst (v := (-1)) hx hb dL_agree_66 (by decide) ?_
        refine lv_istore (lv' := [(11, .int (-1)), (0, .ref (f 0)), (1, .int yy), (2, .ref (yi 1)), (3, .ref (yi 2)), (4, .ref (yq 1)), (5, .ref (yq 2)), (6, .ref (yq 3)), (7, .ref (yq 4)), (8, .int (nI b)), (9, .int (nI ((v_L_agree_20 Q b 151 0 0 0).1))), (10, .int (nI ((v_L_agree_20 Q b 151 0 0 0).2.1)))]) hx hb dL_agree_67 hl (by decide) rfl (fun ls hl => ?_)
        refine lv_iconst (v := (-1)) hx hb dL_agree_69 (by decide) ?_
        refine lv_istore (lv' := [(12, .int (-1)), (11, .int (-1)), (0, .ref (f 0)), (1, .int yy), (2, .ref (yi 1)), (3, .ref (yi 2)), (4, .ref (yq 1)), (5, .ref (yq 2)), (6, .ref (yq 3)), (7, .ref (yq 4)), (8, .int (nI b)), (9, .int (nI ((v_L_agree_20 Q b 151 0 0 0).1))), (10, .int (nI ((v_L_agree_20 Q b 151 0 0 0).2.1)))]) hx hb dL_agree_70 hl (by decide) rfl (fun ls hl => ?_)
        refine lv_iconst (v := 0) hx hb dL_agree_72 (by decide) ?_
        refine lv_istore (lv' := [(13, .int 0), (12, .int (-1)), (11, .int (-1)), (0, .ref (f 0)), (1, .int yy), (2, .ref (yi 1)), (3, .ref (yi 2)), (4, .ref (yq 1)), (5, .ref (yq 2)), (6, .ref (yq 3)), (7, .ref (yq 4)), (8, .int (nI b)), (9, .int (nI ((v_L_agree_20 Q b 151 0 0 0).1))), (10, .int (nI ((v_L_agree_20 Q b 151 0 0 0).2.1)))]) hx hb dL_agree_73 hl (by decide) rfl (fun ls hl => ?_)
        have L75 : ∀ (n : Nat) (low : Int32) (high : Int32) (k : Nat), (k ≤ 100) → 100 - k < n → ∀ (ls : Array Slot), lv_has ls 14 [(0, .ref (f 0)), (1, .int yy), (2, .ref (yi 1)), (3, .ref (yi 2)), (4, .ref (yq 1)), (5, .ref (yq 2)), (6, .ref (yq 3)), (7, .ref (yq 4)), (8, .int (nI b)), (9, .int (nI ((v_L_agree_20 Q b 151 0 0 0).1))), (10, .int (nI ((v_L_agree_20 Q b 151 0 0 0).2.1))), (11, .int low), (12, .int high), (13, .int (nI k))] → ∀ (r75 : Int32 × Int32 × Nat), r75 = v_L_agree_75 Q b n low high k → (∀ (ls : Array Slot), lv_has ls 14 [(0, .ref (f 0)), (1, .int yy), (2, .ref (yi 1)), (3, .ref (yi 2)), (4, .ref (yq 1)), (5, .ref (yq 2)), (6, .ref (yq 3)), (7, .ref (yq 4)), (8, .int (nI b)), (9, .int (nI ((v_L_agree_20 Q b 151 0 0 0).1))), (10, .int (nI ((v_L_agree_20 Q b 151 0 0 0).2.1))), (11, .int r75.1), (12, .int r75.2.1), (13, .int (nI r75.2.2))] → W p l e (rmOf 7 155) s m [.ref (f 0), .int yy, .ref (yi 1), .ref (yi 2), .ref (yq 1), .ref (yq 2), .ref (yq 3), .ref (yq 4)].toArray below meth c s.heap [] 0 0 (MQ below (zQ (.int (bI q))) [.ref (f 0), .int yy, .ref (yi 1), .ref (yi 2), .ref (yq 1), .ref (yq 2), .ref (yq 3), .ref (yq 4)].toArray s 0 0 (fun _ => False)) (F0 m 114 ls [])) → W p l e (rmOf 7 155) s m [.ref (f 0), .int yy, .ref (yi 1), .ref (yi 2), .ref (yq 1), .ref (yq 2), .ref (yq 3), .ref (yq 4)].toArray below meth c s.heap [] 0 0 (MQ below (zQ (.int (bI q))) [.ref (f 0), .int yy, .ref (yi 1), .ref (yi 2), .ref (yq 1), .ref (yq 2), .ref (yq 3), .ref (yq 4)].toArray s 0 0 (fun _ => False)) (F0 m 75 ls []) := by
          intro n
          induction n with
          | zero => intro low high k v75_0 hn; exact absurd hn (Nat.not_lt_zero _)
          | succ n ih75 =>
            intro low high k v75_0 hn75 ls hl r75 hq kk75
            rw [v_L_agree_75] at hq
            refine lv_iload hx hb dL_agree_75 (lv_at hl 13 rfl) ?_
            refine lv_bipush (v := 100) hx hb dL_agree_77 (by decide) ?_
            refine lv_icmp_ge (tgt := 114) hx hb dL_agree_79 (by decide) (fun c_9 => ?_) (fun c_9 => ?_)
            · have c_9 : 100 ≤ k := (nI_leI (a := 100) (b := k) (by omega) (by omega)).mp c_9
              have hq := hq.trans (if_pos c_9)
              subst hq
              exact kk75 ls (lv_sub hl [0, 1, 2, 3, 4, 5, 6, 7, 8, 9, 10, 11, 12, 13] rfl)
            · have c_9 : ¬ (100 ≤ k) := fun h9 => c_9 ((nI_leI (a := 100) (b := k) (by omega) (by omega)).mpr h9)
              have hq := hq.trans (if_neg c_9)
              refine lv_aload hx hb dL_agree_82 (lv_at hl 4 rfl) ?_
              refine lv_iconst (v := 2) hx hb dL_agree_84 (by decide) ?_
              refine lv_iload hx hb dL_agree_85 (lv_at hl 8 rfl) ?_
              refine lv_iload hx hb dL_agree_87 (lv_at hl 13 rfl) ?_
              refine zcSO (n := 4) (c_L_has_0 l D g yq Q 2 b k (by omega) (by omega)) hx hb hml hown hts gL_agree_L_has rfl ⟨by decide, by decide, by decide⟩ ⟨Nat.le_of_ble_eq_true rfl, Nat.le_of_ble_eq_true rfl⟩ ⟨rfl, rfl⟩ hK (zsubB (cs := [zB_LQ (g 2) yq Q]) hP [11] rfl (zF1 _)) hl.1 rfl rfl (Nat.le_of_ble_eq_true rfl) ⟨Nat.zero_le _, Nat.zero_le _⟩ dL_agree_89 ?_
              refine zif_eq (tgt := 108) hx hb dL_agree_92 (by decide) (fun c_11 => ?_) (fun c_11 => ?_)
              · have hq := hq.trans (zif_f c_11)
                refine lv_iinc (v := (nI (k + 1))) (lv' := [(13, .int (nI (k + 1))), (0, .ref (f 0)), (1, .int yy), (2, .ref (yi 1)), (3, .ref (yi 2)), (4, .ref (yq 1)), (5, .ref (yq 2)), (6, .ref (yq 3)), (7, .ref (yq 4)), (8, .int (nI b)), (9, .int (nI ((v_L_agree_20 Q b 151 0 0 0).1))), (10, .int (nI ((v_L_agree_20 Q b 151 0 0 0).2.1))), (11, .int low), (12, .int high)]) hx hb dL_agree_108 hl (k := 13) rfl (nI_add _ 1) (by decide) rfl (fun ls hl => ?_)
                refine lv_goto (tgt := 75) hx hb dL_agree_111 (by decide) ?_
                exact ih75 low high (k + 1) (by omega) (by omega) ls (lv_sub hl [1, 2, 3, 4, 5, 6, 7, 8, 9, 10, 11, 12, 13, 0] rfl) _ hq kk75
              · have hq := hq.trans (zif_t c_11)
                refine lv_iload hx hb dL_agree_95 (lv_at hl 13 rfl) ?_
                refine lv_istore (lv' := [(12, .int (nI k)), (0, .ref (f 0)), (1, .int yy), (2, .ref (yi 1)), (3, .ref (yi 2)), (4, .ref (yq 1)), (5, .ref (yq 2)), (6, .ref (yq 3)), (7, .ref (yq 4)), (8, .int (nI b)), (9, .int (nI ((v_L_agree_20 Q b 151 0 0 0).1))), (10, .int (nI ((v_L_agree_20 Q b 151 0 0 0).2.1))), (11, .int low), (13, .int (nI k))]) hx hb dL_agree_97 hl (by decide) rfl (fun ls hl => ?_)
                refine lv_iload hx hb dL_agree_99 (lv_at hl 12 rfl) ?_
                refine lv_if_ge (tgt := 108) hx hb dL_agree_101 (by decide) (fun c_12 => ?_) (fun c_12 => ?_)
                · have c_12 : (0 : Int32) ≤ low := c_12
                  have hq := hq.trans (if_pos c_12)
                  refine lv_iinc (v := (nI (k + 1))) (lv' := [(13, .int (nI (k + 1))), (12, .int (nI k)), (0, .ref (f 0)), (1, .int yy), (2, .ref (yi 1)), (3, .ref (yi 2)), (4, .ref (yq 1)), (5, .ref (yq 2)), (6, .ref (yq 3)), (7, .ref (yq 4)), (8, .int (nI b)), (9, .int (nI ((v_L_agree_20 Q b 151 0 0 0).1))), (10, .int (nI ((v_L_agree_20 Q b 151 0 0 0).2.1))), (11, .int low)]) hx hb dL_agree_108 hl (k := 13) rfl (nI_add _ 1) (by decide) rfl (fun ls hl => ?_)
                  refine lv_goto (tgt := 75) hx hb dL_agree_111 (by decide) ?_
                  exact ih75 low (nI k) (k + 1) (by omega) (by omega) ls (lv_sub hl [2, 3, 4, 5, 6, 7, 8, 9, 10, 11, 12, 13, 1, 0] rfl) _ hq kk75
                · have c_12 : ¬ ((0 : Int32) ≤ low) := c_12
                  have hq := hq.trans (if_neg c_12)
                  refine lv_iload hx hb dL_agree_104 (lv_at hl 13 rfl) ?_
                  refine lv_istore (lv' := [(11, .int (nI k)), (12, .int (nI k)), (0, .ref (f 0)), (1, .int yy), (2, .ref (yi 1)), (3, .ref (yi 2)), (4, .ref (yq 1)), (5, .ref (yq 2)), (6, .ref (yq 3)), (7, .ref (yq 4)), (8, .int (nI b)), (9, .int (nI ((v_L_agree_20 Q b 151 0 0 0).1))), (10, .int (nI ((v_L_agree_20 Q b 151 0 0 0).2.1))), (13, .int (nI k))]) hx hb dL_agree_106 hl (by decide) rfl (fun ls hl => ?_)
                  refine lv_iinc (v := (nI (k + 1))) (lv' := [(13, .int (nI (k + 1))), (11, .int (nI k)), (12, .int (nI k)), (0, .ref (f 0)), (1, .int yy), (2, .ref (yi 1)), (3, .ref (yi 2)), (4, .ref (yq 1)), (5, .ref (yq 2)), (6, .ref (yq 3)), (7, .ref (yq 4)), (8, .int (nI b)), (9, .int (nI ((v_L_agree_20 Q b 151 0 0 0).1))), (10, .int (nI ((v_L_agree_20 Q b 151 0 0 0).2.1)))]) hx hb dL_agree_108 hl (k := 13) rfl (nI_add _ 1) (by decide) rfl (fun ls hl => ?_)
                  refine lv_goto (tgt := 75) hx hb dL_agree_111 (by decide) ?_
                  exact ih75 (nI k) (nI k) (k + 1) (by omega) (by omega) ls (lv_sub hl [3, 4, 5, 6, 7, 8, 9, 10, 11, 12, 13, 1, 2, 0] rfl) _ hq kk75
        refine L75 101 (-1) (-1) 0 (by omega) (by omega) ls (lv_sub hl [3, 4, 5, 6, 7, 8, 9, 10, 11, 12, 13, 2, 1, 0] rfl) _ rfl (fun ls hl => ?_)
        refine lv_aload_n hx hb dL_agree_114 rfl (lv_at hl 0 rfl) ?_
        refine lv_iload hx hb dL_agree_115 (lv_at hl 8 rfl) ?_
        refine lv_iconst (v := 0) hx hb dL_agree_117 (by decide) ?_
        refine zcV (ci := 4) (n := 2) (c_X4_bread l D g f h u o x T (nI b) 0 ((zpo_bread z0 hbn 0 (by decide)).1)) hx hb hml hown hts gL_agree_X4_bread rfl ⟨rfl, by decide, by decide, by decide⟩ ⟨Nat.le_of_ble_eq_true rfl, Nat.le_of_ble_eq_true rfl⟩ ⟨rfl, rfl⟩ hK (zsubB (cs := [zB_X4 f h u o x, zB_X3 (g 0) h T]) hP [0, 8] rfl (zF2 _ _)) rfl rfl rfl hl.1 rfl rfl (Nat.le_of_ble_eq_true rfl) ⟨Nat.zero_le _, Nat.zero_le _⟩ dL_agree_118 ?_
        refine lv_aload_n hx hb dL_agree_121 rfl (lv_at hl 3 rfl) ?_
        refine lv_bipush (v := 6) hx hb dL_agree_122 (by decide) ?_
        refine lv_iload hx hb dL_agree_124 (lv_at hl 8 rfl) ?_
        refine lv_imul hx hb dL_agree_126 ?_
        refine lv_is (show (6 : Int32) * (nI b) = (nI (6 * b)) from pk_mul 6 b) ?_
        refine z_iald (i := 6 * b) hx hb hK hP 85 0 rfl rfl (by omega) (by decide) dL_agree_127 ?_
        refine lv_icmp_ne (tgt := 266) hx hb dL_agree_128 (by decide) (fun c_14 => ?_) (fun c_14 => ?_)
        · have c_14 : ¬ ((v_X4_bread T (nI b) 0) = (I 1 (6 * b))) := c_14
          exact absurd (zag0 z0 hbn) c_14
        · have c_14 : (v_X4_bread T (nI b) 0) = (I 1 (6 * b)) := c_14
          refine lv_aload_n hx hb dL_agree_131 rfl (lv_at hl 0 rfl) ?_
          refine lv_iload hx hb dL_agree_132 (lv_at hl 8 rfl) ?_
          refine lv_iconst (v := 1) hx hb dL_agree_134 (by decide) ?_
          refine zcV (ci := 4) (n := 2) (c_X4_bread l D g f h u o x T (nI b) 1 ((zpo_bread z0 hbn 1 (by decide)).1)) hx hb hml hown hts gL_agree_X4_bread rfl ⟨rfl, by decide, by decide, by decide⟩ ⟨Nat.le_of_ble_eq_true rfl, Nat.le_of_ble_eq_true rfl⟩ ⟨rfl, rfl⟩ hK (zsubB (cs := [zB_X4 f h u o x, zB_X3 (g 0) h T]) hP [0, 8] rfl (zF2 _ _)) rfl rfl rfl hl.1 rfl rfl (Nat.le_of_ble_eq_true rfl) ⟨Nat.zero_le _, Nat.zero_le _⟩ dL_agree_135 ?_
          refine lv_aload_n hx hb dL_agree_138 rfl (lv_at hl 3 rfl) ?_
          refine lv_bipush (v := 6) hx hb dL_agree_139 (by decide) ?_
          refine lv_iload hx hb dL_agree_141 (lv_at hl 8 rfl) ?_
          refine lv_imul hx hb dL_agree_143 ?_
          refine lv_is (show (6 : Int32) * (nI b) = (nI (6 * b)) from pk_mul 6 b) ?_
          refine lv_iconst (v := 1) hx hb dL_agree_144 (by decide) ?_
          refine lv_iadd hx hb dL_agree_145 ?_
          refine lv_is (show (nI (6 * b)) + 1 = (nI (6 * b + 1)) from nI_add (6 * b) 1) ?_
          refine z_iald (i := 6 * b + 1) hx hb hK hP 85 0 rfl rfl (by omega) (by decide) dL_agree_146 ?_
          refine lv_icmp_ne (tgt := 266) hx hb dL_agree_147 (by decide) (fun c_16 => ?_) (fun c_16 => ?_)
          · have c_16 : ¬ ((v_X4_bread T (nI b) 1) = (I 1 (6 * b + 1))) := c_16
            exact absurd (zag1 z0 hbn) c_16
          · have c_16 : (v_X4_bread T (nI b) 1) = (I 1 (6 * b + 1)) := c_16
            refine lv_aload_n hx hb dL_agree_150 rfl (lv_at hl 0 rfl) ?_
            refine lv_iload hx hb dL_agree_151 (lv_at hl 8 rfl) ?_
            refine lv_iconst (v := 3) hx hb dL_agree_153 (by decide) ?_
            refine zcV (ci := 4) (n := 2) (c_X4_bread l D g f h u o x T (nI b) 3 ((zpo_bread z0 hbn 3 (by decide)).1)) hx hb hml hown hts gL_agree_X4_bread rfl ⟨rfl, by decide, by decide, by decide⟩ ⟨Nat.le_of_ble_eq_true rfl, Nat.le_of_ble_eq_true rfl⟩ ⟨rfl, rfl⟩ hK (zsubB (cs := [zB_X4 f h u o x, zB_X3 (g 0) h T]) hP [0, 8] rfl (zF2 _ _)) rfl rfl rfl hl.1 rfl rfl (Nat.le_of_ble_eq_true rfl) ⟨Nat.zero_le _, Nat.zero_le _⟩ dL_agree_154 ?_
            refine lv_aload_n hx hb dL_agree_157 rfl (lv_at hl 3 rfl) ?_
            refine lv_bipush (v := 6) hx hb dL_agree_158 (by decide) ?_
            refine lv_iload hx hb dL_agree_160 (lv_at hl 8 rfl) ?_
            refine lv_imul hx hb dL_agree_162 ?_
            refine lv_is (show (6 : Int32) * (nI b) = (nI (6 * b)) from pk_mul 6 b) ?_
            refine lv_iconst (v := 3) hx hb dL_agree_163 (by decide) ?_
            refine lv_iadd hx hb dL_agree_164 ?_
            refine lv_is (show (nI (6 * b)) + 3 = (nI (6 * b + 3)) from nI_add (6 * b) 3) ?_
            refine z_iald (i := 6 * b + 3) hx hb hK hP 85 0 rfl rfl (by omega) (by decide) dL_agree_165 ?_
            refine lv_icmp_ne (tgt := 266) hx hb dL_agree_166 (by decide) (fun c_18 => ?_) (fun c_18 => ?_)
            · have c_18 : ¬ ((v_X4_bread T (nI b) 3) = (I 1 (6 * b + 3))) := c_18
              exact absurd (zag3 z0 hbn) c_18
            · have c_18 : (v_X4_bread T (nI b) 3) = (I 1 (6 * b + 3)) := c_18
              refine lv_aload_n hx hb dL_agree_169 rfl (lv_at hl 0 rfl) ?_
              refine lv_iload hx hb dL_agree_170 (lv_at hl 8 rfl) ?_
              refine lv_iconst (v := 5) hx hb dL_agree_172 (by decide) ?_
              refine zcV (ci := 4) (n := 2) (c_X4_bread l D g f h u o x T (nI b) 5 ((zpo_bread z0 hbn 5 (by decide)).1)) hx hb hml hown hts gL_agree_X4_bread rfl ⟨rfl, by decide, by decide, by decide⟩ ⟨Nat.le_of_ble_eq_true rfl, Nat.le_of_ble_eq_true rfl⟩ ⟨rfl, rfl⟩ hK (zsubB (cs := [zB_X4 f h u o x, zB_X3 (g 0) h T]) hP [0, 8] rfl (zF2 _ _)) rfl rfl rfl hl.1 rfl rfl (Nat.le_of_ble_eq_true rfl) ⟨Nat.zero_le _, Nat.zero_le _⟩ dL_agree_173 ?_
              refine lv_aload_n hx hb dL_agree_176 rfl (lv_at hl 2 rfl) ?_
              refine lv_aload_n hx hb dL_agree_177 rfl (lv_at hl 3 rfl) ?_
              refine lv_aload hx hb dL_agree_178 (lv_at hl 4 rfl) ?_
              refine lv_aload hx hb dL_agree_180 (lv_at hl 5 rfl) ?_
              refine lv_aload hx hb dL_agree_182 (lv_at hl 6 rfl) ?_
              refine lv_aload hx hb dL_agree_184 (lv_at hl 7 rfl) ?_
              refine lv_iload hx hb dL_agree_186 (lv_at hl 8 rfl) ?_
              refine zcSO (n := 7) (c_L_eaters l D g yi yq I Q b hb5 (zpo_gr z0 hbn)) hx hb hml hown hts gL_agree_L_eaters rfl ⟨by decide, by decide, by decide⟩ ⟨Nat.le_of_ble_eq_true rfl, Nat.le_of_ble_eq_true rfl⟩ ⟨rfl, rfl⟩ hK (zsubB (cs := [zB_LI (g 0) yi I, zB_LQ (g 2) yq Q]) hP [10, 11] rfl (zF2 _ _)) hl.1 rfl rfl (Nat.le_of_ble_eq_true rfl) ⟨Nat.zero_le _, Nat.zero_le _⟩ dL_agree_188 ?_
              refine lv_icmp_ne (tgt := 266) hx hb dL_agree_191 (by decide) (fun c_21 => ?_) (fun c_21 => ?_)
              · have c_21 : ¬ ((v_X4_bread T (nI b) 5) = (nI (v_L_eaters I Q b))) := c_21
                exact absurd (zag5 z0 hbn) c_21
              · have c_21 : (v_X4_bread T (nI b) 5) = (nI (v_L_eaters I Q b)) := c_21
                refine lv_aload_n hx hb dL_agree_194 rfl (lv_at hl 0 rfl) ?_
                refine lv_iload hx hb dL_agree_195 (lv_at hl 8 rfl) ?_
                refine lv_bipush (v := 6) hx hb dL_agree_197 (by decide) ?_
                refine zcV (ci := 4) (n := 2) (c_X4_bread l D g f h u o x T (nI b) 6 ((zpo_bread z0 hbn 6 (by decide)).1)) hx hb hml hown hts gL_agree_X4_bread rfl ⟨rfl, by decide, by decide, by decide⟩ ⟨Nat.le_of_ble_eq_true rfl, Nat.le_of_ble_eq_true rfl⟩ ⟨rfl, rfl⟩ hK (zsubB (cs := [zB_X4 f h u o x, zB_X3 (g 0) h T]) hP [0, 8] rfl (zF2 _ _)) rfl rfl rfl hl.1 rfl rfl (Nat.le_of_ble_eq_true rfl) ⟨Nat.zero_le _, Nat.zero_le _⟩ dL_agree_199 ?_
                refine lv_iload hx hb dL_agree_202 (lv_at hl 9 rfl) ?_
                refine lv_icmp_ne (tgt := 266) hx hb dL_agree_204 (by decide) (fun c_23 => ?_) (fun c_23 => ?_)
                · have c_23 : ¬ ((v_X4_bread T (nI b) 6) = (nI ((v_L_agree_20 Q b 151 0 0 0).1))) := c_23
                  exact absurd (zag6 z0 hbn) c_23
                · have c_23 : (v_X4_bread T (nI b) 6) = (nI ((v_L_agree_20 Q b 151 0 0 0).1)) := c_23
                  refine lv_aload_n hx hb dL_agree_207 rfl (lv_at hl 0 rfl) ?_
                  refine lv_iload hx hb dL_agree_208 (lv_at hl 8 rfl) ?_
                  refine lv_bipush (v := 7) hx hb dL_agree_210 (by decide) ?_
                  refine zcV (ci := 4) (n := 2) (c_X4_bread l D g f h u o x T (nI b) 7 ((zpo_bread z0 hbn 7 (by decide)).1)) hx hb hml hown hts gL_agree_X4_bread rfl ⟨rfl, by decide, by decide, by decide⟩ ⟨Nat.le_of_ble_eq_true rfl, Nat.le_of_ble_eq_true rfl⟩ ⟨rfl, rfl⟩ hK (zsubB (cs := [zB_X4 f h u o x, zB_X3 (g 0) h T]) hP [0, 8] rfl (zF2 _ _)) rfl rfl rfl hl.1 rfl rfl (Nat.le_of_ble_eq_true rfl) ⟨Nat.zero_le _, Nat.zero_le _⟩ dL_agree_212 ?_
                  refine lv_aload_n hx hb dL_agree_215 rfl (lv_at hl 3 rfl) ?_
                  refine lv_bipush (v := 6) hx hb dL_agree_216 (by decide) ?_
                  refine lv_iload hx hb dL_agree_218 (lv_at hl 8 rfl) ?_
                  refine lv_imul hx hb dL_agree_220 ?_
                  refine lv_is (show (6 : Int32) * (nI b) = (nI (6 * b)) from pk_mul 6 b) ?_
                  refine lv_iconst (v := 5) hx hb dL_agree_221 (by decide) ?_
                  refine lv_iadd hx hb dL_agree_222 ?_
                  refine lv_is (show (nI (6 * b)) + 5 = (nI (6 * b + 5)) from nI_add (6 * b) 5) ?_
                  refine z_iald (i := 6 * b + 5) hx hb hK hP 85 0 rfl rfl (by omega) (by decide) dL_agree_223 ?_
                  refine lv_icmp_ne (tgt := 266) hx hb dL_agree_224 (by decide) (fun c_25 => ?_) (fun c_25 => ?_)
                  · have c_25 : ¬ ((v_X4_bread T (nI b) 7) = (I 1 (6 * b + 5))) := c_25
                    exact absurd (zag7 z0 hbn) c_25
                  · have c_25 : (v_X4_bread T (nI b) 7) = (I 1 (6 * b + 5)) := c_25
                    refine lv_aload_n hx hb dL_agree_227 rfl (lv_at hl 0 rfl) ?_
                    refine lv_iload hx hb dL_agree_228 (lv_at hl 8 rfl) ?_
                    refine lv_bipush (v := 8) hx hb dL_agree_230 (by decide) ?_
                    refine zcV (ci := 4) (n := 2) (c_X4_bread l D g f h u o x T (nI b) 8 ((zpo_bread z0 hbn 8 (by decide)).1)) hx hb hml hown hts gL_agree_X4_bread rfl ⟨rfl, by decide, by decide, by decide⟩ ⟨Nat.le_of_ble_eq_true rfl, Nat.le_of_ble_eq_true rfl⟩ ⟨rfl, rfl⟩ hK (zsubB (cs := [zB_X4 f h u o x, zB_X3 (g 0) h T]) hP [0, 8] rfl (zF2 _ _)) rfl rfl rfl hl.1 rfl rfl (Nat.le_of_ble_eq_true rfl) ⟨Nat.zero_le _, Nat.zero_le _⟩ dL_agree_232 ?_
                    refine lv_iload hx hb dL_agree_235 (lv_at hl 10 rfl) ?_
                    refine lv_icmp_ne (tgt := 266) hx hb dL_agree_237 (by decide) (fun c_27 => ?_) (fun c_27 => ?_)
                    · have c_27 : ¬ ((v_X4_bread T (nI b) 8) = (nI ((v_L_agree_20 Q b 151 0 0 0).2.1))) := c_27
                      exact absurd (zag8 z0 hbn) c_27
                    · have c_27 : (v_X4_bread T (nI b) 8) = (nI ((v_L_agree_20 Q b 151 0 0 0).2.1)) := c_27
                      refine lv_aload_n hx hb dL_agree_240 rfl (lv_at hl 0 rfl) ?_
                      refine lv_iload hx hb dL_agree_241 (lv_at hl 8 rfl) ?_
                      refine lv_bipush (v := 10) hx hb dL_agree_243 (by decide) ?_
                      refine zcV (ci := 4) (n := 2) (c_X4_bread l D g f h u o x T (nI b) 10 ((zpo_bread z0 hbn 10 (by decide)).1)) hx hb hml hown hts gL_agree_X4_bread rfl ⟨rfl, by decide, by decide, by decide⟩ ⟨Nat.le_of_ble_eq_true rfl, Nat.le_of_ble_eq_true rfl⟩ ⟨rfl, rfl⟩ hK (zsubB (cs := [zB_X4 f h u o x, zB_X3 (g 0) h T]) hP [0, 8] rfl (zF2 _ _)) rfl rfl rfl hl.1 rfl rfl (Nat.le_of_ble_eq_true rfl) ⟨Nat.zero_le _, Nat.zero_le _⟩ dL_agree_245 ?_
                      refine lv_iload hx hb dL_agree_248 (lv_at hl 11 rfl) ?_
                      refine lv_icmp_ne (tgt := 266) hx hb dL_agree_250 (by decide) (fun c_29 => ?_) (fun c_29 => ?_)
                      · have c_29 : ¬ ((v_X4_bread T (nI b) 10) = ((v_L_agree_75 Q b 101 (-1) (-1) 0).1)) := c_29
                        exact absurd (zag10 z0 hbn) c_29
                      · have c_29 : (v_X4_bread T (nI b) 10) = ((v_L_agree_75 Q b 101 (-1) (-1) 0).1) := c_29
                        refine lv_aload_n hx hb dL_agree_253 rfl (lv_at hl 0 rfl) ?_
                        refine lv_iload hx hb dL_agree_254 (lv_at hl 8 rfl) ?_
                        refine lv_bipush (v := 11) hx hb dL_agree_256 (by decide) ?_
                        refine zcV (ci := 4) (n := 2) (c_X4_bread l D g f h u o x T (nI b) 11 ((zpo_bread z0 hbn 11 (by decide)).1)) hx hb hml hown hts gL_agree_X4_bread rfl ⟨rfl, by decide, by decide, by decide⟩ ⟨Nat.le_of_ble_eq_true rfl, Nat.le_of_ble_eq_true rfl⟩ ⟨rfl, rfl⟩ hK (zsubB (cs := [zB_X4 f h u o x, zB_X3 (g 0) h T]) hP [0, 8] rfl (zF2 _ _)) rfl rfl rfl hl.1 rfl rfl (Nat.le_of_ble_eq_true rfl) ⟨Nat.zero_le _, Nat.zero_le _⟩ dL_agree_258 ?_
                        refine lv_iload hx hb dL_agree_261 (lv_at hl 12 rfl) ?_
                        refine lv_icmp_eq (tgt := 268) hx hb dL_agree_263 (by decide) (fun c_31 => ?_) (fun c_31 => ?_)
                        · have c_31 : (v_X4_bread T (nI b) 11) = ((v_L_agree_75 Q b 101 (-1) (-1) 0).2.1) := c_31
                          refine lv_iload_n hx hb dL_agree_268 rfl (lv_at hl 1 rfl) ?_
                          refine lv_iload hx hb dL_agree_269 (lv_at hl 8 rfl) ?_
                          refine lv_ishr hx hb dL_agree_271 ?_
                          refine lv_sipush (v := 150) hx hb dL_agree_272 (by decide) ?_
                          refine zcSO (n := 2) (c_L_at l D g (yy >>> ((nI b) &&& 31)) 150 (by decide)) hx hb hml hown hts gL_agree_L_at rfl ⟨by decide, by decide, by decide⟩ ⟨Nat.le_of_ble_eq_true rfl, Nat.le_of_ble_eq_true rfl⟩ ⟨rfl, rfl⟩ hK (hP.sub [] rfl) hl.1 rfl rfl (Nat.le_of_ble_eq_true rfl) ⟨Nat.zero_le _, Nat.zero_le _⟩ dL_agree_275 ?_
                          refine lv_istore (lv' := [(13, .int (v_L_at (yy >>> ((nI b) &&& 31)) 150)), (0, .ref (f 0)), (1, .int yy), (2, .ref (yi 1)), (3, .ref (yi 2)), (4, .ref (yq 1)), (5, .ref (yq 2)), (6, .ref (yq 3)), (7, .ref (yq 4)), (8, .int (nI b)), (9, .int (nI ((v_L_agree_20 Q b 151 0 0 0).1))), (10, .int (nI ((v_L_agree_20 Q b 151 0 0 0).2.1))), (11, .int ((v_L_agree_75 Q b 101 (-1) (-1) 0).1)), (12, .int ((v_L_agree_75 Q b 101 (-1) (-1) 0).2.1))]) hx hb dL_agree_278 hl (by decide) rfl (fun ls hl => ?_)
                          have w_33 := znat (x := (v_L_at (yy >>> ((nI b) &&& 31)) 150)) (zat150 _)
                          have w_33b := w_33.2
                          have hl : lv_has ls 14 [(13, .int (nI (Int32.toNatClampNeg (v_L_at (yy >>> ((nI b) &&& 31)) 150)))), (0, .ref (f 0)), (1, .int yy), (2, .ref (yi 1)), (3, .ref (yi 2)), (4, .ref (yq 1)), (5, .ref (yq 2)), (6, .ref (yq 3)), (7, .ref (yq 4)), (8, .int (nI b)), (9, .int (nI ((v_L_agree_20 Q b 151 0 0 0).1))), (10, .int (nI ((v_L_agree_20 Q b 151 0 0 0).2.1))), (11, .int ((v_L_agree_75 Q b 101 (-1) (-1) 0).1)), (12, .int ((v_L_agree_75 Q b 101 (-1) (-1) 0).2.1))] := by rw [← w_33.1]; exact hl
                          refine lv_aload_n hx hb dL_agree_280 rfl (lv_at hl 1 rfl) ?_
                          refine lv_iload hx hb dL_agree_281 (lv_at hl 0 rfl) ?_
                          refine lv_iload hx hb dL_agree_283 (lv_at hl 9 rfl) ?_
                          refine zcV (ci := 4) (n := 2) (c_X4_eats l D g f h u o x T (nI (Int32.toNatClampNeg (v_L_at (yy >>> ((nI b) &&& 31)) 150))) (nI b) ((zpo_eats z0 hbn (by with_reducible assumption)).1)) hx hb hml hown hts gL_agree_X4_eats rfl ⟨rfl, by decide, by decide, by decide⟩ ⟨Nat.le_of_ble_eq_true rfl, Nat.le_of_ble_eq_true rfl⟩ ⟨rfl, rfl⟩ hK (zsubB (cs := [zB_X4 f h u o x, zB_X3 (g 0) h T]) hP [0, 8] rfl (zF2 _ _)) rfl rfl rfl hl.1 rfl rfl (Nat.le_of_ble_eq_true rfl) ⟨Nat.zero_le _, Nat.zero_le _⟩ dL_agree_285 ?_
                          refine lv_aload_n hx hb dL_agree_288 rfl (lv_at hl 3 rfl) ?_
                          refine lv_aload_n hx hb dL_agree_289 rfl (lv_at hl 4 rfl) ?_
                          refine lv_aload hx hb dL_agree_290 (lv_at hl 5 rfl) ?_
                          refine lv_aload hx hb dL_agree_292 (lv_at hl 6 rfl) ?_
                          refine lv_aload hx hb dL_agree_294 (lv_at hl 7 rfl) ?_
                          refine lv_aload hx hb dL_agree_296 (lv_at hl 8 rfl) ?_
                          refine lv_iload hx hb dL_agree_298 (lv_at hl 0 rfl) ?_
                          refine lv_iload hx hb dL_agree_300 (lv_at hl 9 rfl) ?_
                          refine zcSO (n := 8) (c_L_eats l D g yi yq I Q (Int32.toNatClampNeg (v_L_at (yy >>> ((nI b) &&& 31)) 150)) b (by omega) hb5 (zpo_gr z0 hbn)) hx hb hml hown hts gL_agree_L_eats rfl ⟨by decide, by decide, by decide⟩ ⟨Nat.le_of_ble_eq_true rfl, Nat.le_of_ble_eq_true rfl⟩ ⟨rfl, rfl⟩ hK (zsubB (cs := [zB_LI (g 0) yi I, zB_LQ (g 2) yq Q]) hP [10, 11] rfl (zF2 _ _)) hl.1 rfl rfl (Nat.le_of_ble_eq_true rfl) ⟨Nat.zero_le _, Nat.zero_le _⟩ dL_agree_302 ?_
                          refine lv_icmp_eq (tgt := 310) hx hb dL_agree_305 (by decide) (fun c_36 => ?_) (fun c_36 => ?_)
                          · have c_36 : (v_X4_eats T (nI (Int32.toNatClampNeg (v_L_at (yy >>> ((nI b) &&& 31)) 150))) (nI b)) = (v_L_eats I Q (Int32.toNatClampNeg (v_L_at (yy >>> ((nI b) &&& 31)) 150)) b) := c_36
                            refine lv_iinc (v := (nI (b + 1))) (lv' := [(8, .int (nI (b + 1))), (13, .int (nI (Int32.toNatClampNeg (v_L_at (yy >>> ((nI b) &&& 31)) 150)))), (0, .ref (f 0)), (1, .int yy), (2, .ref (yi 1)), (3, .ref (yi 2)), (4, .ref (yq 1)), (5, .ref (yq 2)), (6, .ref (yq 3)), (7, .ref (yq 4)), (9, .int (nI ((v_L_agree_20 Q b 151 0 0 0).1))), (10, .int (nI ((v_L_agree_20 Q b 151 0 0 0).2.1))), (11, .int ((v_L_agree_75 Q b 101 (-1) (-1) 0).1)), (12, .int ((v_L_agree_75 Q b 101 (-1) (-1) 0).2.1))]) hx hb dL_agree_310 hl (k := 9) rfl (nI_add _ 1) (by decide) rfl (fun ls hl => ?_)
                            refine lv_goto (tgt := 3) hx hb dL_agree_313 (by decide) ?_
                            exact ih3 (b + 1) (by omega) (by omega) ls (lv_sub hl [2, 3, 4, 5, 6, 7, 8, 9, 0] rfl) _ hq kk3
                          · have c_36 : ¬ ((v_X4_eats T (nI (Int32.toNatClampNeg (v_L_at (yy >>> ((nI b) &&& 31)) 150))) (nI b)) = (v_L_eats I Q (Int32.toNatClampNeg (v_L_at (yy >>> ((nI b) &&& 31)) 150)) b)) := c_36
                            exact absurd ((zpo_eats z0 hbn (by with_reducible assumption)).2) c_36
                        · have c_31 : ¬ ((v_X4_bread T (nI b) 11) = ((v_L_agree_75 Q b 101 (-1) (-1) 0).2.1)) := c_31
                          exact absurd (zag11 z0 hbn) c_31
  refine L3 6 0 (by omega) (by omega) ls (lv_sub hl [1, 2, 3, 4, 5, 6, 7, 8, 0] rfl) _ rfl (fun ls hl => ?_)
  refine lv_aload_n hx hb dL_agree_316 rfl (lv_at hl 0 rfl) ?_
  refine lv_iconst (v := 0) hx hb dL_agree_317 (by decide) ?_
  refine zcV (ci := 4) (n := 1) (c_X4_count l D g f h u o x t0 t1 t2 t3 t4 t5 Z T 0 ((zpo_cnt z0 0 (by decide)).1)) hx hb hml hown hts gL_agree_X4_count rfl ⟨rfl, by decide, by decide, by decide⟩ ⟨Nat.le_of_ble_eq_true rfl, Nat.le_of_ble_eq_true rfl⟩ ⟨rfl, rfl⟩ hK (zsubB (cs := [zB_X4 f h u o x, zB_X1 (g 1) u t0 t1 t2 t3 t4 t5 Z, zB_X3 (g 0) h T]) hP [0, 1, 8] rfl rfl) rfl rfl rfl hl.1 rfl rfl (Nat.le_of_ble_eq_true rfl) ⟨Nat.zero_le _, Nat.zero_le _⟩ dL_agree_318 ?_
  refine lv_aload_n hx hb dL_agree_321 rfl (lv_at hl 2 rfl) ?_
  refine lv_iconst (v := 0) hx hb dL_agree_322 (by decide) ?_
  refine z_iald (i := 0) hx hb hK hP 84 0 rfl rfl (by omega) (by decide) dL_agree_323 ?_
  refine lv_icmp_ne (tgt := 424) hx hb dL_agree_324 (by decide) (fun c_38 => ?_) (fun c_38 => ?_)
  · have c_38 : ¬ ((v_X4_count Z T 0) = (I 0 0)) := c_38
    exact absurd (zcn0 z0) c_38
  · have c_38 : (v_X4_count Z T 0) = (I 0 0) := c_38
    refine lv_aload_n hx hb dL_agree_327 rfl (lv_at hl 0 rfl) ?_
    refine lv_iconst (v := 2) hx hb dL_agree_328 (by decide) ?_
    refine zcV (ci := 4) (n := 1) (c_X4_count l D g f h u o x t0 t1 t2 t3 t4 t5 Z T 2 ((zpo_cnt z0 2 (by decide)).1)) hx hb hml hown hts gL_agree_X4_count rfl ⟨rfl, by decide, by decide, by decide⟩ ⟨Nat.le_of_ble_eq_true rfl, Nat.le_of_ble_eq_true rfl⟩ ⟨rfl, rfl⟩ hK (zsubB (cs := [zB_X4 f h u o x, zB_X1 (g 1) u t0 t1 t2 t3 t4 t5 Z, zB_X3 (g 0) h T]) hP [0, 1, 8] rfl rfl) rfl rfl rfl hl.1 rfl rfl (Nat.le_of_ble_eq_true rfl) ⟨Nat.zero_le _, Nat.zero_le _⟩ dL_agree_329 ?_
    refine lv_aload_n hx hb dL_agree_332 rfl (lv_at hl 2 rfl) ?_
    refine lv_iconst (v := 1) hx hb dL_agree_333 (by decide) ?_
    refine z_iald (i := 1) hx hb hK hP 84 0 rfl rfl (by omega) (by decide) dL_agree_334 ?_
    refine lv_icmp_ne (tgt := 424) hx hb dL_agree_335 (by decide) (fun c_40 => ?_) (fun c_40 => ?_)
    · have c_40 : ¬ ((v_X4_count Z T 2) = (I 0 1)) := c_40
      exact absurd (zcn2 z0) c_40
    · have c_40 : (v_X4_count Z T 2) = (I 0 1) := c_40
      refine lv_aload_n hx hb dL_agree_338 rfl (lv_at hl 0 rfl) ?_
      refine lv_iconst (v := 3) hx hb dL_agree_339 (by decide) ?_
      refine zcV (ci := 4) (n := 1) (c_X4_count l D g f h u o x t0 t1 t2 t3 t4 t5 Z T 3 ((zpo_cnt z0 3 (by decide)).1)) hx hb hml hown hts gL_agree_X4_count rfl ⟨rfl, by decide, by decide, by decide⟩ ⟨Nat.le_of_ble_eq_true rfl, Nat.le_of_ble_eq_true rfl⟩ ⟨rfl, rfl⟩ hK (zsubB (cs := [zB_X4 f h u o x, zB_X1 (g 1) u t0 t1 t2 t3 t4 t5 Z, zB_X3 (g 0) h T]) hP [0, 1, 8] rfl rfl) rfl rfl rfl hl.1 rfl rfl (Nat.le_of_ble_eq_true rfl) ⟨Nat.zero_le _, Nat.zero_le _⟩ dL_agree_340 ?_
      refine lv_aload_n hx hb dL_agree_343 rfl (lv_at hl 2 rfl) ?_
      refine lv_iconst (v := 2) hx hb dL_agree_344 (by decide) ?_
      refine z_iald (i := 2) hx hb hK hP 84 0 rfl rfl (by omega) (by decide) dL_agree_345 ?_
      refine lv_icmp_ne (tgt := 424) hx hb dL_agree_346 (by decide) (fun c_42 => ?_) (fun c_42 => ?_)
      · have c_42 : ¬ ((v_X4_count Z T 3) = (I 0 2)) := c_42
        exact absurd (zcn3 z0) c_42
      · have c_42 : (v_X4_count Z T 3) = (I 0 2) := c_42
        refine lv_aload_n hx hb dL_agree_349 rfl (lv_at hl 0 rfl) ?_
        refine lv_bipush (v := 8) hx hb dL_agree_350 (by decide) ?_
        refine zcV (ci := 4) (n := 1) (c_X4_count l D g f h u o x t0 t1 t2 t3 t4 t5 Z T 8 ((zpo_cnt z0 8 (by decide)).1)) hx hb hml hown hts gL_agree_X4_count rfl ⟨rfl, by decide, by decide, by decide⟩ ⟨Nat.le_of_ble_eq_true rfl, Nat.le_of_ble_eq_true rfl⟩ ⟨rfl, rfl⟩ hK (zsubB (cs := [zB_X4 f h u o x, zB_X1 (g 1) u t0 t1 t2 t3 t4 t5 Z, zB_X3 (g 0) h T]) hP [0, 1, 8] rfl rfl) rfl rfl rfl hl.1 rfl rfl (Nat.le_of_ble_eq_true rfl) ⟨Nat.zero_le _, Nat.zero_le _⟩ dL_agree_352 ?_
        refine lv_aload_n hx hb dL_agree_355 rfl (lv_at hl 2 rfl) ?_
        refine lv_iconst (v := 3) hx hb dL_agree_356 (by decide) ?_
        refine z_iald (i := 3) hx hb hK hP 84 0 rfl rfl (by omega) (by decide) dL_agree_357 ?_
        refine lv_icmp_ne (tgt := 424) hx hb dL_agree_358 (by decide) (fun c_44 => ?_) (fun c_44 => ?_)
        · have c_44 : ¬ ((v_X4_count Z T 8) = (I 0 3)) := c_44
          exact absurd (zcn8 z0) c_44
        · have c_44 : (v_X4_count Z T 8) = (I 0 3) := c_44
          refine lv_aload_n hx hb dL_agree_361 rfl (lv_at hl 0 rfl) ?_
          refine lv_bipush (v := 10) hx hb dL_agree_362 (by decide) ?_
          refine zcV (ci := 4) (n := 1) (c_X4_count l D g f h u o x t0 t1 t2 t3 t4 t5 Z T 10 ((zpo_cnt z0 10 (by decide)).1)) hx hb hml hown hts gL_agree_X4_count rfl ⟨rfl, by decide, by decide, by decide⟩ ⟨Nat.le_of_ble_eq_true rfl, Nat.le_of_ble_eq_true rfl⟩ ⟨rfl, rfl⟩ hK (zsubB (cs := [zB_X4 f h u o x, zB_X1 (g 1) u t0 t1 t2 t3 t4 t5 Z, zB_X3 (g 0) h T]) hP [0, 1, 8] rfl rfl) rfl rfl rfl hl.1 rfl rfl (Nat.le_of_ble_eq_true rfl) ⟨Nat.zero_le _, Nat.zero_le _⟩ dL_agree_364 ?_
          refine lv_aload_n hx hb dL_agree_367 rfl (lv_at hl 2 rfl) ?_
          refine lv_iconst (v := 4) hx hb dL_agree_368 (by decide) ?_
          refine z_iald (i := 4) hx hb hK hP 84 0 rfl rfl (by omega) (by decide) dL_agree_369 ?_
          refine lv_icmp_ne (tgt := 424) hx hb dL_agree_370 (by decide) (fun c_46 => ?_) (fun c_46 => ?_)
          · have c_46 : ¬ ((v_X4_count Z T 10) = (I 0 4)) := c_46
            exact absurd (zcn10 z0) c_46
          · have c_46 : (v_X4_count Z T 10) = (I 0 4) := c_46
            refine lv_aload_n hx hb dL_agree_373 rfl (lv_at hl 0 rfl) ?_
            refine lv_bipush (v := 12) hx hb dL_agree_374 (by decide) ?_
            refine zcV (ci := 4) (n := 1) (c_X4_count l D g f h u o x t0 t1 t2 t3 t4 t5 Z T 12 ((zpo_cnt z0 12 (by decide)).1)) hx hb hml hown hts gL_agree_X4_count rfl ⟨rfl, by decide, by decide, by decide⟩ ⟨Nat.le_of_ble_eq_true rfl, Nat.le_of_ble_eq_true rfl⟩ ⟨rfl, rfl⟩ hK (zsubB (cs := [zB_X4 f h u o x, zB_X1 (g 1) u t0 t1 t2 t3 t4 t5 Z, zB_X3 (g 0) h T]) hP [0, 1, 8] rfl rfl) rfl rfl rfl hl.1 rfl rfl (Nat.le_of_ble_eq_true rfl) ⟨Nat.zero_le _, Nat.zero_le _⟩ dL_agree_376 ?_
            refine lv_aload_n hx hb dL_agree_379 rfl (lv_at hl 2 rfl) ?_
            refine lv_bipush (v := 6) hx hb dL_agree_380 (by decide) ?_
            refine z_iald (i := 6) hx hb hK hP 84 0 rfl rfl (by omega) (by decide) dL_agree_382 ?_
            refine lv_icmp_ne (tgt := 424) hx hb dL_agree_383 (by decide) (fun c_48 => ?_) (fun c_48 => ?_)
            · have c_48 : ¬ ((v_X4_count Z T 12) = (I 0 6)) := c_48
              exact absurd (zcn12 z0) c_48
            · have c_48 : (v_X4_count Z T 12) = (I 0 6) := c_48
              refine lv_aload_n hx hb dL_agree_386 rfl (lv_at hl 0 rfl) ?_
              refine lv_bipush (v := 20) hx hb dL_agree_387 (by decide) ?_
              refine zcV (ci := 4) (n := 1) (c_X4_count l D g f h u o x t0 t1 t2 t3 t4 t5 Z T 20 ((zpo_cnt z0 20 (by decide)).1)) hx hb hml hown hts gL_agree_X4_count rfl ⟨rfl, by decide, by decide, by decide⟩ ⟨Nat.le_of_ble_eq_true rfl, Nat.le_of_ble_eq_true rfl⟩ ⟨rfl, rfl⟩ hK (zsubB (cs := [zB_X4 f h u o x, zB_X1 (g 1) u t0 t1 t2 t3 t4 t5 Z, zB_X3 (g 0) h T]) hP [0, 1, 8] rfl rfl) rfl rfl rfl hl.1 rfl rfl (Nat.le_of_ble_eq_true rfl) ⟨Nat.zero_le _, Nat.zero_le _⟩ dL_agree_389 ?_
              refine lv_aload_n hx hb dL_agree_392 rfl (lv_at hl 2 rfl) ?_
              refine lv_aload_n hx hb dL_agree_393 rfl (lv_at hl 3 rfl) ?_
              refine lv_aload hx hb dL_agree_394 (lv_at hl 4 rfl) ?_
              refine lv_iconst (v := 0) hx hb dL_agree_396 (by decide) ?_
              refine zcSO (n := 4) (c_L_room l D g yi yq I Q 0 z0.2.2.1.1.1) hx hb hml hown hts gL_agree_L_room rfl ⟨by decide, by decide, by decide⟩ ⟨Nat.le_of_ble_eq_true rfl, Nat.le_of_ble_eq_true rfl⟩ ⟨rfl, rfl⟩ hK (zsubB (cs := [zB_LI (g 0) yi I, zB_LQ (g 2) yq Q]) hP [10, 11] rfl (zF2 _ _)) hl.1 rfl rfl (Nat.le_of_ble_eq_true rfl) ⟨Nat.zero_le _, Nat.zero_le _⟩ dL_agree_397 ?_
              refine lv_icmp_ne (tgt := 424) hx hb dL_agree_400 (by decide) (fun c_51 => ?_) (fun c_51 => ?_)
              · have c_51 : ¬ ((v_X4_count Z T 20) = (nI (v_L_room I Q 0))) := c_51
                exact absurd (zcn20 z0) c_51
              · have c_51 : (v_X4_count Z T 20) = (nI (v_L_room I Q 0)) := c_51
                refine lv_aload_n hx hb dL_agree_403 rfl (lv_at hl 0 rfl) ?_
                refine lv_bipush (v := 22) hx hb dL_agree_404 (by decide) ?_
                refine zcV (ci := 4) (n := 1) (c_X4_count l D g f h u o x t0 t1 t2 t3 t4 t5 Z T 22 ((zpo_cnt z0 22 (by decide)).1)) hx hb hml hown hts gL_agree_X4_count rfl ⟨rfl, by decide, by decide, by decide⟩ ⟨Nat.le_of_ble_eq_true rfl, Nat.le_of_ble_eq_true rfl⟩ ⟨rfl, rfl⟩ hK (zsubB (cs := [zB_X4 f h u o x, zB_X1 (g 1) u t0 t1 t2 t3 t4 t5 Z, zB_X3 (g 0) h T]) hP [0, 1, 8] rfl rfl) rfl rfl rfl hl.1 rfl rfl (Nat.le_of_ble_eq_true rfl) ⟨Nat.zero_le _, Nat.zero_le _⟩ dL_agree_406 ?_
                refine lv_aload_n hx hb dL_agree_409 rfl (lv_at hl 2 rfl) ?_
                refine lv_aload_n hx hb dL_agree_410 rfl (lv_at hl 3 rfl) ?_
                refine lv_aload hx hb dL_agree_411 (lv_at hl 4 rfl) ?_
                refine lv_iconst (v := 2) hx hb dL_agree_413 (by decide) ?_
                refine zcSO (n := 4) (c_L_room l D g yi yq I Q 2 z0.2.2.1.1.1) hx hb hml hown hts gL_agree_L_room rfl ⟨by decide, by decide, by decide⟩ ⟨Nat.le_of_ble_eq_true rfl, Nat.le_of_ble_eq_true rfl⟩ ⟨rfl, rfl⟩ hK (zsubB (cs := [zB_LI (g 0) yi I, zB_LQ (g 2) yq Q]) hP [10, 11] rfl (zF2 _ _)) hl.1 rfl rfl (Nat.le_of_ble_eq_true rfl) ⟨Nat.zero_le _, Nat.zero_le _⟩ dL_agree_414 ?_
                refine lv_icmp_ne (tgt := 424) hx hb dL_agree_417 (by decide) (fun c_54 => ?_) (fun c_54 => ?_)
                · have c_54 : ¬ ((v_X4_count Z T 22) = (nI (v_L_room I Q 2))) := c_54
                  exact absurd (zcn22 z0) c_54
                · have c_54 : (v_X4_count Z T 22) = (nI (v_L_room I Q 2)) := c_54
                  refine lv_iconst (v := 1) hx hb dL_agree_420 (by decide) ?_
                  refine lv_goto (tgt := 425) hx hb dL_agree_421 (by decide) ?_
                  exact zret_z (q' := true) hx hb hr hlocks dL_agree_425 hq
