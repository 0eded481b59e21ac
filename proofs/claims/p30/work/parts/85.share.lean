set_option maxHeartbeats 400000 in
set_option maxRecDepth 100000 in
theorem c_L_share (l : Launch) (D : va_G) (g : Nat → ClassId) (yi : Nat → Nat) (yq : Nat → Nat) (I : Nat → Nat → Int32) (Q : Nat → Nat → Int64) (b : Nat) (sh : Nat) (z0 : b < 5) (z1 : sh ≤ 100) (z2 : zSw (I 1 (6 * b + 1)) I Q b sh) : Wr l D (zT g) yL_share wsL_share (rmOf 2 48) [.ref (yi 1), .ref (yi 2), .ref (yq 1), .int (nI b), .int (nI sh)] ((zB_LI (g 0) yi I) ++ (zB_LQ (g 2) yq Q)) (none) ((zB_LI (g 0) yi ((v_L_share I Q b sh).1)) ++ (zB_LQ (g 2) yq ((v_L_share I Q b sh).2))) := by
  refine Wr.of (cc := cL_share) (maxL := 7) (ret := none) (by decide) rfl (Nat.le_of_ble_eq_true rfl) ?_
  intro p e s m below meth c ls hx hb hr hml hown hts hlocks hP hD hS hK hl
  have hown : s.vm.findClass RL = some m.cls := hown
  obtain ⟨q, hq⟩ : ∃ q : (Nat → Nat → Int32) × (Nat → Nat → Int64), q = v_L_share I Q b sh := ⟨_, rfl⟩
  rw [← hq]
  unfold v_L_share at hq
  have hl : lv_has ls 7 [(0, .ref (yi 1)), (1, .ref (yi 2)), (2, .ref (yq 1)), (3, .int (nI b)), (4, .int (nI sh))] := hl
  refine lv_aload_n hx hb dL_share_0 rfl (lv_at hl 1 rfl) ?_
  refine lv_bipush (v := 6) hx hb dL_share_1 (by decide) ?_
  refine lv_iload_n hx hb dL_share_3 rfl (lv_at hl 3 rfl) ?_
  refine lv_imul hx hb dL_share_4 ?_
  refine lv_is (show (6 : Int32) * (nI b) = (nI (6 * b)) from pk_mul 6 b) ?_
  refine lv_iconst (v := 1) hx hb dL_share_5 (by decide) ?_
  refine lv_iadd hx hb dL_share_6 ?_
  refine lv_is (show (nI (6 * b)) + 1 = (nI (6 * b + 1)) from nI_add (6 * b) 1) ?_
  refine z_iald (i := 6 * b + 1) hx hb hK hP 1 0 rfl rfl (by omega) (by decide) dL_share_7 ?_
  refine lv_istore (lv' := [(5, .int (I 1 (6 * b + 1))), (0, .ref (yi 1)), (1, .ref (yi 2)), (2, .ref (yq 1)), (3, .int (nI b)), (4, .int (nI sh))]) hx hb dL_share_8 hl (by decide) rfl (fun ls hl => ?_)
  have L10 : ∀ (n : Nat) (I1 : Nat → Nat → Int32) (Q1 : Nat → Nat → Int64), (zSw (I 1 (6 * b + 1)) I1 Q1 b sh) → sh - Int32.toNatClampNeg (I1 1 (6 * b + 3)) < n → ∀ (H : Heap) (locs : List Loc), va_P D vwCl ((zB_LI (g 0) yi I1) ++ (zB_LQ (g 2) yq Q1)) H → va_D (zA ((zB_LI (g 0) yi I) ++ (zB_LQ (g 2) yq Q))) ((zB_LI (g 0) yi I1) ++ (zB_LQ (g 2) yq Q1)) → va_S (zA ((zB_LI (g 0) yi I) ++ (zB_LQ (g 2) yq Q))) s.heap H locs → ∀ (ls : Array Slot), lv_has ls 7 [(0, .ref (yi 1)), (1, .ref (yi 2)), (2, .ref (yq 1)), (3, .int (nI b)), (4, .int (nI sh)), (5, .int (I 1 (6 * b + 1)))] → ∀ (r10 : (Nat → Nat → Int32) × (Nat → Nat → Int64)), r10 = v_L_share_10 I b sh n I1 Q1 → (∀ (H : Heap) (locs : List Loc), va_P D vwCl ((zB_LI (g 0) yi r10.1) ++ (zB_LQ (g 2) yq r10.2)) H → va_D (zA ((zB_LI (g 0) yi I) ++ (zB_LQ (g 2) yq Q))) ((zB_LI (g 0) yi r10.1) ++ (zB_LQ (g 2) yq r10.2)) → va_S (zA ((zB_LI (g 0) yi I) ++ (zB_LQ (g 2) yq Q))) s.heap H locs → ∀ (ls : Array Slot), lv_has ls 7 [(0, .ref (yi 1)), (1, .ref (yi 2)), (2, .ref (yq 1)), (3, .int (nI b)), (4, .int (nI sh)), (5, .int (I 1 (6 * b + 1)))] → W p l e (rmOf 2 48) s m [.ref (yi 1), .ref (yi 2), .ref (yq 1), .int (nI b), .int (nI sh)].toArray below meth c H locs 0 0 (MQ below (zQw D ((zB_LI (g 0) yi I) ++ (zB_LQ (g 2) yq Q)) (none) ((zB_LI (g 0) yi q.1) ++ (zB_LQ (g 2) yq q.2))) [.ref (yi 1), .ref (yi 2), .ref (yq 1), .int (nI b), .int (nI sh)].toArray s 0 0 (zA ((zB_LI (g 0) yi I) ++ (zB_LQ (g 2) yq Q)))) (F0 m 88 ls [])) → W p l e (rmOf 2 48) s m [.ref (yi 1), .ref (yi 2), .ref (yq 1), .int (nI b), .int (nI sh)].toArray below meth c H locs 0 0 (MQ below (zQw D ((zB_LI (g 0) yi I) ++ (zB_LQ (g 2) yq Q)) (none) ((zB_LI (g 0) yi q.1) ++ (zB_LQ (g 2) yq q.2))) [.ref (yi 1), .ref (yi 2), .ref (yq 1), .int (nI b), .int (nI sh)].toArray s 0 0 (zA ((zB_LI (g 0) yi I) ++ (zB_LQ (g 2) yq Q)))) (F0 m 10 ls []) := by
    intro n
    induction n with
    | zero => intro I1 Q1 v10_0 hn; exact absurd hn (Nat.not_lt_zero _)
    | succ n ih10 =>
      intro I1 Q1 v10_0 hn10 H locs hP hD hS ls hl r10 hq kk10
      rw [v_L_share_10] at hq
      refine lv_aload_n hx hb dL_share_10 rfl (lv_at hl 1 rfl) ?_
      refine lv_bipush (v := 6) hx hb dL_share_11 (by decide) ?_
      refine lv_iload_n hx hb dL_share_13 rfl (lv_at hl 3 rfl) ?_
      refine lv_imul hx hb dL_share_14 ?_
      refine lv_is (show (6 : Int32) * (nI b) = (nI (6 * b)) from pk_mul 6 b) ?_
      refine lv_iconst (v := 3) hx hb dL_share_15 (by decide) ?_
      refine lv_iadd hx hb dL_share_16 ?_
      refine lv_is (show (nI (6 * b)) + 3 = (nI (6 * b + 3)) from nI_add (6 * b) 3) ?_
      refine z_iald (i := 6 * b + 3) hx hb hK hP 1 0 rfl rfl (by omega) (by decide) dL_share_17 ?_
      refine lv_iload hx hb dL_share_18 (lv_at hl 4 rfl) ?_
      refine lv_icmp_ge (tgt := 88) hx hb dL_share_20 (by decide) (fun c_1 => ?_) (fun c_1 => ?_)
      · have c_1 : (nI sh) ≤ (I1 1 (6 * b + 3)) := c_1
        have hq := hq.trans (if_pos c_1)
        subst hq
        exact kk10 _ _ hP hD hS ls (lv_sub hl [0, 1, 2, 3, 4, 5] rfl)
      · have c_1 : ¬ ((nI sh) ≤ (I1 1 (6 * b + 3))) := c_1
        have hq := hq.trans (if_neg c_1)
        refine lv_iconst (v := 0) hx hb dL_share_23 (by decide) ?_
        refine lv_istore (lv' := [(6, .int 0), (0, .ref (yi 1)), (1, .ref (yi 2)), (2, .ref (yq 1)), (3, .int (nI b)), (4, .int (nI sh)), (5, .int (I 1 (6 * b + 1)))]) hx hb dL_share_24 hl (by decide) rfl (fun ls hl => ?_)
        have L26 : ∀ (n : Nat) (k : Nat), (k < 100) → (zEx (I 1 (6 * b + 1)) I1 Q1 b k) → 100 - k < n → ∀ (H : Heap) (locs : List Loc), va_P D vwCl ((zB_LI (g 0) yi I1) ++ (zB_LQ (g 2) yq Q1)) H → va_D (zA ((zB_LI (g 0) yi I) ++ (zB_LQ (g 2) yq Q))) ((zB_LI (g 0) yi I1) ++ (zB_LQ (g 2) yq Q1)) → va_S (zA ((zB_LI (g 0) yi I) ++ (zB_LQ (g 2) yq Q))) s.heap H locs → ∀ (ls : Array Slot), lv_has ls 7 [(0, .ref (yi 1)), (1, .ref (yi 2)), (2, .ref (yq 1)), (3, .int (nI b)), (4, .int (nI sh)), (5, .int (I 1 (6 * b + 1))), (6, .int (nI k))] → ∀ (r26 : Nat), r26 = v_L_share_26 I b I1 Q1 n k → (∀ (H : Heap) (locs : List Loc), va_P D vwCl ((zB_LI (g 0) yi I1) ++ (zB_LQ (g 2) yq Q1)) H → va_D (zA ((zB_LI (g 0) yi I) ++ (zB_LQ (g 2) yq Q))) ((zB_LI (g 0) yi I1) ++ (zB_LQ (g 2) yq Q1)) → va_S (zA ((zB_LI (g 0) yi I) ++ (zB_LQ (g 2) yq Q))) s.heap H locs → ∀ (ls : Array Slot), lv_has ls 7 [(0, .ref (yi 1)), (1, .ref (yi 2)), (2, .ref (yq 1)), (3, .int (nI b)), (4, .int (nI sh)), (5, .int (I 1 (6 * b + 1))), (6, .int (nI r26))] → W p l e (rmOf 2 48) s m [.ref (yi 1), .ref (yi 2), .ref (yq 1), .int (nI b), .int (nI sh)].toArray below meth c H locs 0 0 (MQ below (zQw D ((zB_LI (g 0) yi I) ++ (zB_LQ (g 2) yq Q)) (none) ((zB_LI (g 0) yi q.1) ++ (zB_LQ (g 2) yq q.2))) [.ref (yi 1), .ref (yi 2), .ref (yq 1), .int (nI b), .int (nI sh)].toArray s 0 0 (zA ((zB_LI (g 0) yi I) ++ (zB_LQ (g 2) yq Q)))) (F0 m 64 ls [])) → W p l e (rmOf 2 48) s m [.ref (yi 1), .ref (yi 2), .ref (yq 1), .int (nI b), .int (nI sh)].toArray below meth c H locs 0 0 (MQ below (zQw D ((zB_LI (g 0) yi I) ++ (zB_LQ (g 2) yq Q)) (none) ((zB_LI (g 0) yi q.1) ++ (zB_LQ (g 2) yq q.2))) [.ref (yi 1), .ref (yi 2), .ref (yq 1), .int (nI b), .int (nI sh)].toArray s 0 0 (zA ((zB_LI (g 0) yi I) ++ (zB_LQ (g 2) yq Q)))) (F0 m 26 ls []) := by
          intro n
          induction n with
          | zero => intro k v26_0 v26_1 hn; exact absurd hn (Nat.not_lt_zero _)
          | succ n ih26 =>
            intro k v26_0 v26_1 hn26 H locs hP hD hS ls hl r26 hq kk26
            rw [v_L_share_26] at hq
            refine lv_iload hx hb dL_share_26 (lv_at hl 5 rfl) ?_
            refine lv_if_ge (tgt := 45) hx hb dL_share_28 (by decide) (fun c_2 => ?_) (fun c_2 => ?_)
            · have c_2 : 0 ≤ (I 1 (6 * b + 1)) := c_2
              have hq := hq.trans (if_pos c_2)
              refine lv_aload_n hx hb dL_share_45 rfl (lv_at hl 0 rfl) ?_
              refine lv_aload_n hx hb dL_share_46 rfl (lv_at hl 1 rfl) ?_
              refine lv_aload_n hx hb dL_share_47 rfl (lv_at hl 2 rfl) ?_
              refine lv_iload hx hb dL_share_48 (lv_at hl 5 rfl) ?_
              refine lv_iload hx hb dL_share_50 (lv_at hl 6 rfl) ?_
              refine zcSO (n := 5) (c_L_free l D g yi yq I1 Q1 (I 1 (6 * b + 1)) k v26_0 (zSw_n v10_0)) hx hb hml hown hts gL_share_L_free rfl ⟨by decide, by decide, by decide⟩ ⟨Nat.le_of_ble_eq_true rfl, Nat.le_of_ble_eq_true rfl⟩ ⟨rfl, rfl⟩ hK hP hl.1 rfl rfl (Nat.le_of_ble_eq_true rfl) ⟨Nat.zero_le _, Nat.zero_le _⟩ dL_share_52 ?_
              refine zif_ne (tgt := 64) hx hb dL_share_55 (by decide) (fun c_4 => ?_) (fun c_4 => ?_)
              · have hq := hq.trans (zif_t c_4)
                subst hq
                exact kk26 _ _ hP hD hS ls (lv_sub hl [0, 1, 2, 3, 4, 5, 6] rfl)
              · have hq := hq.trans (zif_f c_4)
                refine lv_iinc (v := (nI (k + 1))) (lv' := [(6, .int (nI (k + 1))), (0, .ref (yi 1)), (1, .ref (yi 2)), (2, .ref (yq 1)), (3, .int (nI b)), (4, .int (nI sh)), (5, .int (I 1 (6 * b + 1)))]) hx hb dL_share_58 hl (k := 6) rfl (nI_add _ 1) (by decide) rfl (fun ls hl => ?_)
                refine lv_goto (tgt := 26) hx hb dL_share_61 (by decide) ?_
                exact ih26 (k + 1) (zEx_lt (by first | exact zEx_a v26_1 (by with_reducible assumption) (by with_reducible assumption) | exact zEx_b v26_1 (by with_reducible assumption) (by with_reducible assumption))) (by first | exact zEx_a v26_1 (by with_reducible assumption) (by with_reducible assumption) | exact zEx_b v26_1 (by with_reducible assumption) (by with_reducible assumption)) (by omega) _ _ hP hD hS ls (lv_sub hl [1, 2, 3, 4, 5, 6, 0] rfl) _ hq kk26
            · have c_2 : ¬ (0 ≤ (I 1 (6 * b + 1))) := c_2
              have hq := hq.trans (if_neg c_2)
              refine lv_aload_n hx hb dL_share_31 rfl (lv_at hl 2 rfl) ?_
              refine lv_iconst (v := 2) hx hb dL_share_32 (by decide) ?_
              refine lv_iload_n hx hb dL_share_33 rfl (lv_at hl 3 rfl) ?_
              refine lv_iload hx hb dL_share_34 (lv_at hl 6 rfl) ?_
              refine zcSO (n := 4) (c_L_has_0 l D g yq Q1 2 b k (by omega) (by omega)) hx hb hml hown hts gL_share_L_has rfl ⟨by decide, by decide, by decide⟩ ⟨Nat.le_of_ble_eq_true rfl, Nat.le_of_ble_eq_true rfl⟩ ⟨rfl, rfl⟩ hK (hP.sub [2, 3, 4, 5] rfl) hl.1 rfl rfl (Nat.le_of_ble_eq_true rfl) ⟨Nat.zero_le _, Nat.zero_le _⟩ dL_share_36 ?_
              refine zif_eq (tgt := 64) hx hb dL_share_39 (by decide) (fun c_6 => ?_) (fun c_6 => ?_)
              · have hq := hq.trans (zif_f c_6)
                subst hq
                exact kk26 _ _ hP hD hS ls (lv_sub hl [0, 1, 2, 3, 4, 5, 6] rfl)
              · have hq := hq.trans (zif_t c_6)
                refine lv_goto (tgt := 58) hx hb dL_share_42 (by decide) ?_
                refine lv_iinc (v := (nI (k + 1))) (lv' := [(6, .int (nI (k + 1))), (0, .ref (yi 1)), (1, .ref (yi 2)), (2, .ref (yq 1)), (3, .int (nI b)), (4, .int (nI sh)), (5, .int (I 1 (6 * b + 1)))]) hx hb dL_share_58 hl (k := 6) rfl (nI_add _ 1) (by decide) rfl (fun ls hl => ?_)
                refine lv_goto (tgt := 26) hx hb dL_share_61 (by decide) ?_
                exact ih26 (k + 1) (zEx_lt (by first | exact zEx_a v26_1 (by with_reducible assumption) (by with_reducible assumption) | exact zEx_b v26_1 (by with_reducible assumption) (by with_reducible assumption))) (by first | exact zEx_a v26_1 (by with_reducible assumption) (by with_reducible assumption) | exact zEx_b v26_1 (by with_reducible assumption) (by with_reducible assumption)) (by omega) _ _ hP hD hS ls (lv_sub hl [1, 2, 3, 4, 5, 6, 0] rfl) _ hq kk26
        refine L26 101 0 (by decide) (zSw_ex v10_0 (by with_reducible assumption)) (by decide) _ _ hP hD hS ls (lv_sub hl [1, 2, 3, 4, 5, 6, 0] rfl) _ rfl (fun H locs hP hD hS ls hl => ?_)
        have h26 := zin26 101 0 (by decide) (zSw_ex v10_0 (by with_reducible assumption))
        have h26b := h26.1
        refine lv_aload_n hx hb dL_share_64 rfl (lv_at hl 2 rfl) ?_
        refine lv_iconst (v := 2) hx hb dL_share_65 (by decide) ?_
        refine lv_iload_n hx hb dL_share_66 rfl (lv_at hl 3 rfl) ?_
        refine lv_iload hx hb dL_share_67 (lv_at hl 6 rfl) ?_
        refine lv_iconst (v := 1) hx hb dL_share_69 (by decide) ?_
        refine zcSw (n := 5) (c_L_put_0 l D g yq Q1 2 b (v_L_share_26 I b I1 Q1 101 0) true (by omega) (by omega)) hx hb hml hown hts gL_share_L_put rfl ⟨by decide, by decide, by decide⟩ ⟨Nat.le_of_ble_eq_true rfl, Nat.le_of_ble_eq_true rfl⟩ ⟨rfl, rfl⟩ hK (hP.sub [2, 3, 4, 5] rfl) (hD.sub [2, 3, 4, 5] (by decide) rfl) hS hl.1 rfl rfl (Nat.le_of_ble_eq_true rfl) ⟨Nat.zero_le _, Nat.zero_le _⟩ dL_share_70 (fun H1 locs hP1 hk1 hS => ?_)
        obtain ⟨hP, hD⟩ := zjoin (wc := zB_LQ (g 2) yq Q1) (wc' := zB_LQ (g 2) yq (v_L_put_0 Q1 2 b (v_L_share_26 I b I1 Q1 101 0) true)) hP hD [2, 3, 4, 5] rfl (by simp only [zF, List.flatten_cons, List.flatten_nil, List.append_nil, List.map_append, List.map_cons, List.map_nil, zad_X0, zad_X1, zad_X2, zad_X3, zad_X4, zad_LI, zad_LQ]) hk1 hP1
        clear hP1 hk1
        have hP : va_P D vwCl ((zB_LI (g 0) yi I1) ++ (zB_LQ (g 2) yq (v_L_put_0 Q1 2 b (v_L_share_26 I b I1 Q1 101 0) true))) H1 := hP
        have hD : va_D (zA ((zB_LI (g 0) yi I) ++ (zB_LQ (g 2) yq Q))) ((zB_LI (g 0) yi I1) ++ (zB_LQ (g 2) yq (v_L_put_0 Q1 2 b (v_L_share_26 I b I1 Q1 101 0) true))) := hD
        refine lv_aload_n hx hb dL_share_73 rfl (lv_at hl 1 rfl) ?_
        refine lv_bipush (v := 6) hx hb dL_share_74 (by decide) ?_
        refine lv_iload_n hx hb dL_share_76 rfl (lv_at hl 3 rfl) ?_
        refine lv_imul hx hb dL_share_77 ?_
        refine lv_is (show (6 : Int32) * (nI b) = (nI (6 * b)) from pk_mul 6 b) ?_
        refine lv_iconst (v := 3) hx hb dL_share_78 (by decide) ?_
        refine lv_iadd hx hb dL_share_79 ?_
        refine lv_is (show (nI (6 * b)) + 3 = (nI (6 * b + 3)) from nI_add (6 * b) 3) ?_
        refine lv_dup2_11 hx hb dL_share_80 rfl rfl ?_
        refine z_iald (i := 6 * b + 3) hx hb hK hP 1 0 rfl rfl (by omega) (by decide) dL_share_81 ?_
        refine lv_iconst (v := 1) hx hb dL_share_82 (by decide) ?_
        refine lv_iadd hx hb dL_share_83 ?_
        refine z_iast (i := 6 * b + 3) (x := ((I1 1 (6 * b + 3)) + 1)) hx hb hK hP hD hS 1 0 rfl rfl (by omega) (by decide) dL_share_84 (fun H locs hP hD hS => ?_)
        have hP : va_P D vwCl ((zB_LI (g 0) yi (zU I1 1 (upd (I1 1) (6 * b + 3) ((I1 1 (6 * b + 3)) + 1)))) ++ (zB_LQ (g 2) yq (v_L_put_0 Q1 2 b (v_L_share_26 I b I1 Q1 101 0) true))) H := hP
        have hD : va_D (zA ((zB_LI (g 0) yi I) ++ (zB_LQ (g 2) yq Q))) ((zB_LI (g 0) yi (zU I1 1 (upd (I1 1) (6 * b + 3) ((I1 1 (6 * b + 3)) + 1)))) ++ (zB_LQ (g 2) yq (v_L_put_0 Q1 2 b (v_L_share_26 I b I1 Q1 101 0) true))) := hD
        refine lv_goto (tgt := 10) hx hb dL_share_85 (by decide) ?_
        exact ih10 (zU I1 1 (upd (I1 1) (6 * b + 3) ((I1 1 (6 * b + 3)) + 1))) (v_L_put_0 Q1 2 b (v_L_share_26 I b I1 Q1 101 0) true) (zSw_up v10_0 (by with_reducible assumption) h26) (zSw_um v10_0 (by with_reducible assumption) hn10 h26) _ _ hP hD hS ls (lv_sub hl [0, 1, 2, 3, 4, 5] rfl) _ hq kk10
  refine L10 101 I Q z2 (by omega) _ _ hP hD hS ls (lv_sub hl [1, 2, 3, 4, 5, 0] rfl) _ rfl (fun H locs hP hD hS ls hl => ?_)
  have h10 := zsu_10 (n := 101) z2 (by omega)
  have L88 : ∀ (n : Nat) (I1 : Nat → Nat → Int32) (Q1 : Nat → Nat → Int64), (zSw (I 1 (6 * b + 1)) I1 Q1 b sh) → Int32.toNatClampNeg (I1 1 (6 * b + 3)) - sh < n → ∀ (H : Heap) (locs : List Loc), va_P D vwCl ((zB_LI (g 0) yi I1) ++ (zB_LQ (g 2) yq Q1)) H → va_D (zA ((zB_LI (g 0) yi I) ++ (zB_LQ (g 2) yq Q))) ((zB_LI (g 0) yi I1) ++ (zB_LQ (g 2) yq Q1)) → va_S (zA ((zB_LI (g 0) yi I) ++ (zB_LQ (g 2) yq Q))) s.heap H locs → ∀ (ls : Array Slot), lv_has ls 7 [(0, .ref (yi 1)), (1, .ref (yi 2)), (2, .ref (yq 1)), (3, .int (nI b)), (4, .int (nI sh)), (5, .int (I 1 (6 * b + 1)))] → ∀ (r88 : (Nat → Nat → Int32) × (Nat → Nat → Int64)), r88 = v_L_share_88 b sh n I1 Q1 → (∀ (H : Heap) (locs : List Loc), va_P D vwCl ((zB_LI (g 0) yi r88.1) ++ (zB_LQ (g 2) yq r88.2)) H → va_D (zA ((zB_LI (g 0) yi I) ++ (zB_LQ (g 2) yq Q))) ((zB_LI (g 0) yi r88.1) ++ (zB_LQ (g 2) yq r88.2)) → va_S (zA ((zB_LI (g 0) yi I) ++ (zB_LQ (g 2) yq Q))) s.heap H locs → ∀ (ls : Array Slot), lv_has ls 7 [(0, .ref (yi 1)), (1, .ref (yi 2)), (2, .ref (yq 1)), (3, .int (nI b)), (4, .int (nI sh)), (5, .int (I 1 (6 * b + 1)))] → W p l e (rmOf 2 48) s m [.ref (yi 1), .ref (yi 2), .ref (yq 1), .int (nI b), .int (nI sh)].toArray below meth c H locs 0 0 (MQ below (zQw D ((zB_LI (g 0) yi I) ++ (zB_LQ (g 2) yq Q)) (none) ((zB_LI (g 0) yi q.1) ++ (zB_LQ (g 2) yq q.2))) [.ref (yi 1), .ref (yi 2), .ref (yq 1), .int (nI b), .int (nI sh)].toArray s 0 0 (zA ((zB_LI (g 0) yi I) ++ (zB_LQ (g 2) yq Q)))) (F0 m 146 ls [])) → W p l e (rmOf 2 48) s m [.ref (yi 1), .ref (yi 2), .ref (yq 1), .int (nI b), .int (nI sh)].toArray below meth c H locs 0 0 (MQ below (zQw D ((zB_LI (g 0) yi I) ++ (zB_LQ (g 2) yq Q)) (none) ((zB_LI (g 0) yi q.1) ++ (zB_LQ (g 2) yq q.2))) [.ref (yi 1), .ref (yi 2), .ref (yq 1), .int (nI b), .int (nI sh)].toArray s 0 0 (zA ((zB_LI (g 0) yi I) ++ (zB_LQ (g 2) yq Q)))) (F0 m 88 ls []) := by
    intro n
    induction n with
    | zero => intro I1 Q1 v88_0 hn; exact absurd hn (Nat.not_lt_zero _)
    | succ n ih88 =>
      intro I1 Q1 v88_0 hn88 H locs hP hD hS ls hl r88 hq kk88
      rw [v_L_share_88] at hq
      refine lv_aload_n hx hb dL_share_88 rfl (lv_at hl 1 rfl) ?_
      refine lv_bipush (v := 6) hx hb dL_share_89 (by decide) ?_
      refine lv_iload_n hx hb dL_share_91 rfl (lv_at hl 3 rfl) ?_
      refine lv_imul hx hb dL_share_92 ?_
      refine lv_is (show (6 : Int32) * (nI b) = (nI (6 * b)) from pk_mul 6 b) ?_
      refine lv_iconst (v := 3) hx hb dL_share_93 (by decide) ?_
      refine lv_iadd hx hb dL_share_94 ?_
      refine lv_is (show (nI (6 * b)) + 3 = (nI (6 * b + 3)) from nI_add (6 * b) 3) ?_
      refine z_iald (i := 6 * b + 3) hx hb hK hP 1 0 rfl rfl (by omega) (by decide) dL_share_95 ?_
      refine lv_iload hx hb dL_share_96 (lv_at hl 4 rfl) ?_
      refine lv_icmp_le (tgt := 146) hx hb dL_share_98 (by decide) (fun c_8 => ?_) (fun c_8 => ?_)
      · have c_8 : (I1 1 (6 * b + 3)) ≤ (nI sh) := c_8
        have hq := hq.trans (if_pos c_8)
        subst hq
        exact kk88 _ _ hP hD hS ls (lv_sub hl [0, 1, 2, 3, 4, 5] rfl)
      · have c_8 : ¬ ((I1 1 (6 * b + 3)) ≤ (nI sh)) := c_8
        have hq := hq.trans (if_neg c_8)
        refine lv_bipush (v := 99) hx hb dL_share_101 (by decide) ?_
        refine lv_istore (lv' := [(6, .int 99), (0, .ref (yi 1)), (1, .ref (yi 2)), (2, .ref (yq 1)), (3, .int (nI b)), (4, .int (nI sh)), (5, .int (I 1 (6 * b + 1)))]) hx hb dL_share_103 hl (by decide) rfl (fun ls hl => ?_)
        have L105 : ∀ (n : Nat) (k : Int32), (vp_in k 100) → (zOx Q1 b (Int32.toNatClampNeg k)) → Int32.toNatClampNeg k < n → ∀ (H : Heap) (locs : List Loc), va_P D vwCl ((zB_LI (g 0) yi I1) ++ (zB_LQ (g 2) yq Q1)) H → va_D (zA ((zB_LI (g 0) yi I) ++ (zB_LQ (g 2) yq Q))) ((zB_LI (g 0) yi I1) ++ (zB_LQ (g 2) yq Q1)) → va_S (zA ((zB_LI (g 0) yi I) ++ (zB_LQ (g 2) yq Q))) s.heap H locs → ∀ (ls : Array Slot), lv_has ls 7 [(0, .ref (yi 1)), (1, .ref (yi 2)), (2, .ref (yq 1)), (3, .int (nI b)), (4, .int (nI sh)), (5, .int (I 1 (6 * b + 1))), (6, .int k)] → ∀ (r105 : Int32), r105 = v_L_share_105 b Q1 n k → (∀ (H : Heap) (locs : List Loc), va_P D vwCl ((zB_LI (g 0) yi I1) ++ (zB_LQ (g 2) yq Q1)) H → va_D (zA ((zB_LI (g 0) yi I) ++ (zB_LQ (g 2) yq Q))) ((zB_LI (g 0) yi I1) ++ (zB_LQ (g 2) yq Q1)) → va_S (zA ((zB_LI (g 0) yi I) ++ (zB_LQ (g 2) yq Q))) s.heap H locs → ∀ (ls : Array Slot), lv_has ls 7 [(0, .ref (yi 1)), (1, .ref (yi 2)), (2, .ref (yq 1)), (3, .int (nI b)), (4, .int (nI sh)), (5, .int (I 1 (6 * b + 1))), (6, .int r105)] → W p l e (rmOf 2 48) s m [.ref (yi 1), .ref (yi 2), .ref (yq 1), .int (nI b), .int (nI sh)].toArray below meth c H locs 0 0 (MQ below (zQw D ((zB_LI (g 0) yi I) ++ (zB_LQ (g 2) yq Q)) (none) ((zB_LI (g 0) yi q.1) ++ (zB_LQ (g 2) yq q.2))) [.ref (yi 1), .ref (yi 2), .ref (yq 1), .int (nI b), .int (nI sh)].toArray s 0 0 (zA ((zB_LI (g 0) yi I) ++ (zB_LQ (g 2) yq Q)))) (F0 m 122 ls [])) → W p l e (rmOf 2 48) s m [.ref (yi 1), .ref (yi 2), .ref (yq 1), .int (nI b), .int (nI sh)].toArray below meth c H locs 0 0 (MQ below (zQw D ((zB_LI (g 0) yi I) ++ (zB_LQ (g 2) yq Q)) (none) ((zB_LI (g 0) yi q.1) ++ (zB_LQ (g 2) yq q.2))) [.ref (yi 1), .ref (yi 2), .ref (yq 1), .int (nI b), .int (nI sh)].toArray s 0 0 (zA ((zB_LI (g 0) yi I) ++ (zB_LQ (g 2) yq Q)))) (F0 m 105 ls []) := by
          intro n
          induction n with
          | zero => intro k v105_0 v105_1 hn; exact absurd hn (Nat.not_lt_zero _)
          | succ n ih105 =>
            intro k v105_0 v105_1 hn105 H locs hP hD hS ls hl r105 hq kk105
            rw [v_L_share_105] at hq
            have w_9 := znat v105_0
            have w_9b := w_9.2
            have hl : lv_has ls 7 [(0, .ref (yi 1)), (1, .ref (yi 2)), (2, .ref (yq 1)), (3, .int (nI b)), (4, .int (nI sh)), (5, .int (I 1 (6 * b + 1))), (6, .int (nI (Int32.toNatClampNeg k)))] := by rw [← w_9.1]; exact hl
            refine lv_aload_n hx hb dL_share_105 rfl (lv_at hl 2 rfl) ?_
            refine lv_iconst (v := 2) hx hb dL_share_106 (by decide) ?_
            refine lv_iload_n hx hb dL_share_107 rfl (lv_at hl 3 rfl) ?_
            refine lv_iload hx hb dL_share_108 (lv_at hl 6 rfl) ?_
            refine zcSO (n := 4) (c_L_has_0 l D g yq Q1 2 b (Int32.toNatClampNeg k) (by omega) (by omega)) hx hb hml hown hts gL_share_L_has rfl ⟨by decide, by decide, by decide⟩ ⟨Nat.le_of_ble_eq_true rfl, Nat.le_of_ble_eq_true rfl⟩ ⟨rfl, rfl⟩ hK (hP.sub [2, 3, 4, 5] rfl) hl.1 rfl rfl (Nat.le_of_ble_eq_true rfl) ⟨Nat.zero_le _, Nat.zero_le _⟩ dL_share_110 ?_
            refine zif_ne (tgt := 122) hx hb dL_share_113 (by decide) (fun c_11 => ?_) (fun c_11 => ?_)
            · have hq := hq.trans (zif_t c_11)
              subst hq
              exact kk105 _ _ hP hD hS ls (lv_sub hl [0, 1, 2, 3, 4, 5, 6] rfl)
            · have hq := hq.trans (zif_f c_11)
              refine lv_iinc (v := ((nI (Int32.toNatClampNeg k)) + (-1))) (lv' := [(6, .int ((nI (Int32.toNatClampNeg k)) + (-1))), (0, .ref (yi 1)), (1, .ref (yi 2)), (2, .ref (yq 1)), (3, .int (nI b)), (4, .int (nI sh)), (5, .int (I 1 (6 * b + 1)))]) hx hb dL_share_116 hl (k := 6) rfl rfl (by decide) rfl (fun ls hl => ?_)
              refine lv_goto (tgt := 105) hx hb dL_share_119 (by decide) ?_
              exact ih105 ((nI (Int32.toNatClampNeg k)) + (-1)) (zOx_in v105_0 v105_1 (by with_reducible assumption)) (zOx_b v105_0 v105_1 (by with_reducible assumption)) (zOx_m v105_0 v105_1 (by with_reducible assumption) hn105) _ _ hP hD hS ls (lv_sub hl [1, 2, 3, 4, 5, 6, 0] rfl) _ hq kk105
        refine L105 100 99 zv99 (zSw_ox v88_0 (by with_reducible assumption)) (by decide) _ _ hP hD hS ls (lv_sub hl [1, 2, 3, 4, 5, 6, 0] rfl) _ rfl (fun H locs hP hD hS ls hl => ?_)
        have h105 := zin105 100 99 (by decide) (zSw_ox v88_0 (by with_reducible assumption)) zv99
        have w_12 := znat h105.1
        have w_12b := w_12.2
        have hl : lv_has ls 7 [(0, .ref (yi 1)), (1, .ref (yi 2)), (2, .ref (yq 1)), (3, .int (nI b)), (4, .int (nI sh)), (5, .int (I 1 (6 * b + 1))), (6, .int (nI (Int32.toNatClampNeg (v_L_share_105 b Q1 100 99))))] := by rw [← w_12.1]; exact hl
        refine lv_aload_n hx hb dL_share_122 rfl (lv_at hl 2 rfl) ?_
        refine lv_iconst (v := 2) hx hb dL_share_123 (by decide) ?_
        refine lv_iload_n hx hb dL_share_124 rfl (lv_at hl 3 rfl) ?_
        refine lv_iload hx hb dL_share_125 (lv_at hl 6 rfl) ?_
        refine lv_iconst (v := 0) hx hb dL_share_127 (by decide) ?_
        refine zcSw (n := 5) (c_L_put_0 l D g yq Q1 2 b (Int32.toNatClampNeg (v_L_share_105 b Q1 100 99)) false (by omega) (by omega)) hx hb hml hown hts gL_share_L_put rfl ⟨by decide, by decide, by decide⟩ ⟨Nat.le_of_ble_eq_true rfl, Nat.le_of_ble_eq_true rfl⟩ ⟨rfl, rfl⟩ hK (hP.sub [2, 3, 4, 5] rfl) (hD.sub [2, 3, 4, 5] (by decide) rfl) hS hl.1 rfl rfl (Nat.le_of_ble_eq_true rfl) ⟨Nat.zero_le _, Nat.zero_le _⟩ dL_share_128 (fun H1 locs hP1 hk1 hS => ?_)
        obtain ⟨hP, hD⟩ := zjoin (wc := zB_LQ (g 2) yq Q1) (wc' := zB_LQ (g 2) yq (v_L_put_0 Q1 2 b (Int32.toNatClampNeg (v_L_share_105 b Q1 100 99)) false)) hP hD [2, 3, 4, 5] rfl (by simp only [zF, List.flatten_cons, List.flatten_nil, List.append_nil, List.map_append, List.map_cons, List.map_nil, zad_X0, zad_X1, zad_X2, zad_X3, zad_X4, zad_LI, zad_LQ]) hk1 hP1
        clear hP1 hk1
        have hP : va_P D vwCl ((zB_LI (g 0) yi I1) ++ (zB_LQ (g 2) yq (v_L_put_0 Q1 2 b (Int32.toNatClampNeg (v_L_share_105 b Q1 100 99)) false))) H1 := hP
        have hD : va_D (zA ((zB_LI (g 0) yi I) ++ (zB_LQ (g 2) yq Q))) ((zB_LI (g 0) yi I1) ++ (zB_LQ (g 2) yq (v_L_put_0 Q1 2 b (Int32.toNatClampNeg (v_L_share_105 b Q1 100 99)) false))) := hD
        refine lv_aload_n hx hb dL_share_131 rfl (lv_at hl 1 rfl) ?_
        refine lv_bipush (v := 6) hx hb dL_share_132 (by decide) ?_
        refine lv_iload_n hx hb dL_share_134 rfl (lv_at hl 3 rfl) ?_
        refine lv_imul hx hb dL_share_135 ?_
        refine lv_is (show (6 : Int32) * (nI b) = (nI (6 * b)) from pk_mul 6 b) ?_
        refine lv_iconst (v := 3) hx hb dL_share_136 (by decide) ?_
        refine lv_iadd hx hb dL_share_137 ?_
        refine lv_is (show (nI (6 * b)) + 3 = (nI (6 * b + 3)) from nI_add (6 * b) 3) ?_
        refine lv_dup2_11 hx hb dL_share_138 rfl rfl ?_
        refine z_iald (i := 6 * b + 3) hx hb hK hP 1 0 rfl rfl (by omega) (by decide) dL_share_139 ?_
        refine lv_iconst (v := 1) hx hb dL_share_140 (by decide) ?_
        refine lv_isub hx hb dL_share_141 ?_
        refine z_iast (i := 6 * b + 3) (x := ((I1 1 (6 * b + 3)) - 1)) hx hb hK hP hD hS 1 0 rfl rfl (by omega) (by decide) dL_share_142 (fun H locs hP hD hS => ?_)
        have hP : va_P D vwCl ((zB_LI (g 0) yi (zU I1 1 (upd (I1 1) (6 * b + 3) ((I1 1 (6 * b + 3)) - 1)))) ++ (zB_LQ (g 2) yq (v_L_put_0 Q1 2 b (Int32.toNatClampNeg (v_L_share_105 b Q1 100 99)) false))) H := hP
        have hD : va_D (zA ((zB_LI (g 0) yi I) ++ (zB_LQ (g 2) yq Q))) ((zB_LI (g 0) yi (zU I1 1 (upd (I1 1) (6 * b + 3) ((I1 1 (6 * b + 3)) - 1)))) ++ (zB_LQ (g 2) yq (v_L_put_0 Q1 2 b (Int32.toNatClampNeg (v_L_share_105 b Q1 100 99)) false))) := hD
        refine lv_goto (tgt := 88) hx hb dL_share_143 (by decide) ?_
        exact ih88 (zU I1 1 (upd (I1 1) (6 * b + 3) ((I1 1 (6 * b + 3)) - 1))) (v_L_put_0 Q1 2 b (Int32.toNatClampNeg (v_L_share_105 b Q1 100 99)) false) (zSw_dn v88_0 (by with_reducible assumption) h105) (zSw_dm v88_0 (by with_reducible assumption) hn88 h105) _ _ hP hD hS ls (lv_sub hl [0, 1, 2, 3, 4, 5] rfl) _ hq kk88
  refine L88 101 ((v_L_share_10 I b sh 101 I Q).1) ((v_L_share_10 I b sh 101 I Q).2) h10 (zSw_100 h10) _ _ hP hD hS ls (lv_sub hl [0, 1, 2, 3, 4, 5] rfl) _ rfl (fun H locs hP hD hS ls hl => ?_)
  exact zretw_v hx hb hr hlocks dL_share_146 hP hS (by with_reducible exact congrArg (fun z9 => (zB_LI (g 0) yi z9.1) ++ (zB_LQ (g 2) yq z9.2)) hq)
