def v_X5_nextNow_18 (M : Nat → Nat → Int32) (b : Nat) : Nat → Int32 → Nat → (Nat → Nat → Int32) → Int32 × (Nat → Nat → Int32)
  | 0, _, _, _ => (0, (fun _ _ => 0))
  | n + 1, found, k, M1 => (if 100 < k then (found, v_X5_layBack M1 b (nI (Int32.toNatClampNeg ((v_X5_keepShare M b).1)))) else (if found = (-1) then (if (v_X5_canRaise M1 b (nI k)) = true then v_X5_nextNow_18 M b n (v_X5_newEater (v_X5_setShare M1 b k) b) (k + 1) (v_X5_setShare M1 b k) else (found, v_X5_layBack M1 b (nI (Int32.toNatClampNeg ((v_X5_keepShare M b).1))))) else (found, v_X5_layBack M1 b (nI (Int32.toNatClampNeg ((v_X5_keepShare M b).1))))))
def v_X5_nextNow (M : Nat → Nat → Int32) (b : Nat) : Int32 × (Nat → Nat → Int32) := v_X5_nextNow_18 M b 102 (-1) (Int32.toNatClampNeg ((v_X5_keepShare M b).1) + 1) (v_X5_layAhead ((v_X5_keepShare M b).2) b)
set_option maxHeartbeats 400000 in
set_option maxRecDepth 100000 in
theorem c_X5_nextNow (l : Launch) (D : va_G) (g : Nat → ClassId) (u : Nat → Nat) (M : Nat → Nat → Int32) (w : Int64) (b : Nat) (z0 : b < 8) (z1 : zI M) (z2 : b < Int32.toNatClampNeg (M 0 1)) : Wr l D (zT g) yX5_nextNow wsX5_nextNow (rmOf 5 110) [.ref (u 0), .int (nI b)] (zB_X5 (g 0) u M w) (some (.int ((v_X5_nextNow M b).1))) (zB_X5 (g 0) u ((v_X5_nextNow M b).2) w) := by
  refine Wr.of (cc := cX5_nextNow) (maxL := 5) (ret := (some .int)) (by decide) rfl (Nat.le_of_ble_eq_true rfl) ?_
  intro p e s m below meth c ls hx hb hr hml hown hts hlocks hP hD hS hK hl
  have hown : s.vm.findClass RX5 = some m.cls := hown
  obtain ⟨q, hq⟩ : ∃ q : Int32 × (Nat → Nat → Int32), q = v_X5_nextNow M b := ⟨_, rfl⟩
  rw [← hq]
  unfold v_X5_nextNow at hq
  have hl : lv_has ls 5 [(0, .ref (u 0)), (1, .int (nI b))] := hl
  refine lv_iconst (v := (-1)) hx hb dX5_nextNow_0 (by decide) ?_
  refine lv_istore_n (lv' := [(2, .int (-1)), (0, .ref (u 0)), (1, .int (nI b))]) hx hb dX5_nextNow_1 rfl hl (by decide) rfl (fun ls hl => ?_)
  refine lv_aload_n hx hb dX5_nextNow_2 rfl (lv_at hl 1 rfl) ?_
  refine lv_iload_n hx hb dX5_nextNow_3 rfl (lv_at hl 2 rfl) ?_
  refine zcVw (ci := 5) (n := 1) (c_X5_keepShare l D g u M w b z0) hx hb hml hown hts gX5_nextNow_X5_keepShare rfl ⟨rfl, by decide, by decide, by decide⟩ ⟨Nat.le_of_ble_eq_true rfl, Nat.le_of_ble_eq_true rfl⟩ ⟨rfl, rfl⟩ hK hP hD rfl rfl rfl hS hl.1 rfl rfl (Nat.le_of_ble_eq_true rfl) ⟨Nat.zero_le _, Nat.zero_le _⟩ dX5_nextNow_4 (fun H1 locs hP1 hk1 hS => ?_)
  have hD := zD_addr (ws' := zB_X5 (g 0) u ((v_X5_keepShare M b).2) w) hD (by simp only [zF, List.flatten_cons, List.flatten_nil, List.append_nil, List.map_append, List.map_cons, List.map_nil, zad_X0, zad_X1, zad_X2, zad_X3, zad_X4, zad_X5]); have hP := hP1
  clear hP1 hk1
  have hP : va_P D vwCl (zB_X5 (g 0) u ((v_X5_keepShare M b).2) w) H1 := hP
  have hD : va_D (zA (zB_X5 (g 0) u M w)) (zB_X5 (g 0) u ((v_X5_keepShare M b).2) w) := hD
  have w_2 := znat (zks_in z0 z1)
  have w_2b := w_2.2
  refine lv_is w_2.1 ?_
  refine lv_istore_n (lv' := [(3, .int (nI (Int32.toNatClampNeg ((v_X5_keepShare M b).1)))), (2, .int (-1)), (0, .ref (u 0)), (1, .int (nI b))]) hx hb dX5_nextNow_7 rfl hl (by decide) rfl (fun ls hl => ?_)
  refine lv_aload_n hx hb dX5_nextNow_8 rfl (lv_at hl 2 rfl) ?_
  refine lv_iload_n hx hb dX5_nextNow_9 rfl (lv_at hl 3 rfl) ?_
  refine zcVw (ci := 5) (n := 1) (c_X5_layAhead l D g u ((v_X5_keepShare M b).2) w b z0 (zI_ks z1)) hx hb hml hown hts gX5_nextNow_X5_layAhead rfl ⟨rfl, by decide, by decide, by decide⟩ ⟨Nat.le_of_ble_eq_true rfl, Nat.le_of_ble_eq_true rfl⟩ ⟨rfl, rfl⟩ hK hP hD rfl rfl rfl hS hl.1 rfl rfl (Nat.le_of_ble_eq_true rfl) ⟨Nat.zero_le _, Nat.zero_le _⟩ dX5_nextNow_10 (fun H1 locs hP1 hk1 hS => ?_)
  have hD := zD_addr (ws' := zB_X5 (g 0) u (v_X5_layAhead ((v_X5_keepShare M b).2) b) w) hD (by simp only [zF, List.flatten_cons, List.flatten_nil, List.append_nil, List.map_append, List.map_cons, List.map_nil, zad_X0, zad_X1, zad_X2, zad_X3, zad_X4, zad_X5]); have hP := hP1
  clear hP1 hk1
  have hP : va_P D vwCl (zB_X5 (g 0) u (v_X5_layAhead ((v_X5_keepShare M b).2) b) w) H1 := hP
  have hD : va_D (zA (zB_X5 (g 0) u M w)) (zB_X5 (g 0) u (v_X5_layAhead ((v_X5_keepShare M b).2) b) w) := hD
  refine lv_iload_n hx hb dX5_nextNow_13 rfl (lv_at hl 0 rfl) ?_
  refine lv_iconst (v := 1) hx hb dX5_nextNow_14 (by decide) ?_
  refine lv_iadd hx hb dX5_nextNow_15 ?_
  refine lv_is (show (nI (Int32.toNatClampNeg ((v_X5_keepShare M b).1))) + 1 = (nI (Int32.toNatClampNeg ((v_X5_keepShare M b).1) + 1)) from nI_add (Int32.toNatClampNeg ((v_X5_keepShare M b).1)) 1) ?_
  refine lv_istore (lv' := [(4, .int (nI (Int32.toNatClampNeg ((v_X5_keepShare M b).1) + 1))), (3, .int (nI (Int32.toNatClampNeg ((v_X5_keepShare M b).1)))), (2, .int (-1)), (0, .ref (u 0)), (1, .int (nI b))]) hx hb dX5_nextNow_16 hl (by decide) rfl (fun ls hl => ?_)
  have L18 : ∀ (n : Nat) (found : Int32) (k : Nat) (M1 : Nat → Nat → Int32), (k ≤ 101) → (zI M1) → (b < Int32.toNatClampNeg (M1 0 1)) → 101 - k < n → ∀ (H : Heap) (locs : List Loc), va_P D vwCl (zB_X5 (g 0) u M1 w) H → va_D (zA (zB_X5 (g 0) u M w)) (zB_X5 (g 0) u M1 w) → va_S (zA (zB_X5 (g 0) u M w)) s.heap H locs → ∀ (ls : Array Slot), lv_has ls 5 [(0, .ref (u 0)), (1, .int (nI b)), (2, .int found), (3, .int (nI (Int32.toNatClampNeg ((v_X5_keepShare M b).1)))), (4, .int (nI k))] → q = v_X5_nextNow_18 M b n found k M1 → W p l e (rmOf 5 110) s m [.ref (u 0), .int (nI b)].toArray below meth c H locs 0 0 (MQ below (zQw D (zB_X5 (g 0) u M w) (some (.int q.1)) (zB_X5 (g 0) u q.2 w)) [.ref (u 0), .int (nI b)].toArray s 0 0 (zA (zB_X5 (g 0) u M w))) (F0 m 18 ls []) := by
    intro n
    induction n with
    | zero => intro found k M1 v18_0 v18_1 v18_2 hn; exact absurd hn (Nat.not_lt_zero _)
    | succ n ih18 =>
      intro found k M1 v18_0 v18_1 v18_2 hn18 H locs hP hD hS ls hl hq
      rw [v_X5_nextNow_18] at hq
      refine lv_iload hx hb dX5_nextNow_18 (lv_at hl 4 rfl) ?_
      refine lv_bipush (v := 100) hx hb dX5_nextNow_20 (by decide) ?_
      refine lv_icmp_gt (tgt := 59) hx hb dX5_nextNow_22 (by decide) (fun c_4 => ?_) (fun c_4 => ?_)
      · have c_4 : 100 < k := (nI_ltI (a := 100) (b := k) (by omega) (by omega)).mp c_4
        have hq := hq.trans (if_pos c_4)
        refine lv_aload_n hx hb dX5_nextNow_59 rfl (lv_at hl 0 rfl) ?_
        refine lv_iload_n hx hb dX5_nextNow_60 rfl (lv_at hl 1 rfl) ?_
        refine lv_iload_n hx hb dX5_nextNow_61 rfl (lv_at hl 3 rfl) ?_
        refine zcVw (ci := 5) (n := 2) (c_X5_layBack l D g u M1 w b (nI (Int32.toNatClampNeg ((v_X5_keepShare M b).1))) z0) hx hb hml hown hts gX5_nextNow_X5_layBack rfl ⟨rfl, by decide, by decide, by decide⟩ ⟨Nat.le_of_ble_eq_true rfl, Nat.le_of_ble_eq_true rfl⟩ ⟨rfl, rfl⟩ hK hP hD rfl rfl rfl hS hl.1 rfl rfl (Nat.le_of_ble_eq_true rfl) ⟨Nat.zero_le _, Nat.zero_le _⟩ dX5_nextNow_62 (fun H1 locs hP1 hk1 hS => ?_)
        have hD := zD_addr (ws' := zB_X5 (g 0) u (v_X5_layBack M1 b (nI (Int32.toNatClampNeg ((v_X5_keepShare M b).1)))) w) hD (by simp only [zF, List.flatten_cons, List.flatten_nil, List.append_nil, List.map_append, List.map_cons, List.map_nil, zad_X0, zad_X1, zad_X2, zad_X3, zad_X4, zad_X5]); have hP := hP1
        clear hP1 hk1
        have hP : va_P D vwCl (zB_X5 (g 0) u (v_X5_layBack M1 b (nI (Int32.toNatClampNeg ((v_X5_keepShare M b).1)))) w) H1 := hP
        have hD : va_D (zA (zB_X5 (g 0) u M w)) (zB_X5 (g 0) u (v_X5_layBack M1 b (nI (Int32.toNatClampNeg ((v_X5_keepShare M b).1)))) w) := hD
        refine lv_iload_n hx hb dX5_nextNow_65 rfl (lv_at hl 2 rfl) ?_
        exact zretw_i hx hb hr hlocks dX5_nextNow_66 hP hS (congrArg (fun z9 => z9.1) hq) (by with_reducible exact congrArg (fun z9 => zB_X5 (g 0) u z9.2 w) hq)
      · have c_4 : ¬ (100 < k) := fun h9 => c_4 ((nI_ltI (a := 100) (b := k) (by omega) (by omega)).mpr h9)
        have hq := hq.trans (if_neg c_4)
        refine lv_iload_n hx hb dX5_nextNow_25 rfl (lv_at hl 2 rfl) ?_
        refine lv_iconst (v := (-1)) hx hb dX5_nextNow_26 (by decide) ?_
        refine lv_icmp_ne (tgt := 59) hx hb dX5_nextNow_27 (by decide) (fun c_6 => ?_) (fun c_6 => ?_)
        · have c_6 : ¬ (found = (-1)) := c_6
          have hq := hq.trans (if_neg c_6)
          refine lv_aload_n hx hb dX5_nextNow_59 rfl (lv_at hl 0 rfl) ?_
          refine lv_iload_n hx hb dX5_nextNow_60 rfl (lv_at hl 1 rfl) ?_
          refine lv_iload_n hx hb dX5_nextNow_61 rfl (lv_at hl 3 rfl) ?_
          refine zcVw (ci := 5) (n := 2) (c_X5_layBack l D g u M1 w b (nI (Int32.toNatClampNeg ((v_X5_keepShare M b).1))) z0) hx hb hml hown hts gX5_nextNow_X5_layBack rfl ⟨rfl, by decide, by decide, by decide⟩ ⟨Nat.le_of_ble_eq_true rfl, Nat.le_of_ble_eq_true rfl⟩ ⟨rfl, rfl⟩ hK hP hD rfl rfl rfl hS hl.1 rfl rfl (Nat.le_of_ble_eq_true rfl) ⟨Nat.zero_le _, Nat.zero_le _⟩ dX5_nextNow_62 (fun H1 locs hP1 hk1 hS => ?_)
          have hD := zD_addr (ws' := zB_X5 (g 0) u (v_X5_layBack M1 b (nI (Int32.toNatClampNeg ((v_X5_keepShare M b).1)))) w) hD (by simp only [zF, List.flatten_cons, List.flatten_nil, List.append_nil, List.map_append, List.map_cons, List.map_nil, zad_X0, zad_X1, zad_X2, zad_X3, zad_X4, zad_X5]); have hP := hP1
          clear hP1 hk1
          have hP : va_P D vwCl (zB_X5 (g 0) u (v_X5_layBack M1 b (nI (Int32.toNatClampNeg ((v_X5_keepShare M b).1)))) w) H1 := hP
          have hD : va_D (zA (zB_X5 (g 0) u M w)) (zB_X5 (g 0) u (v_X5_layBack M1 b (nI (Int32.toNatClampNeg ((v_X5_keepShare M b).1)))) w) := hD
          refine lv_iload_n hx hb dX5_nextNow_65 rfl (lv_at hl 2 rfl) ?_
          exact zretw_i hx hb hr hlocks dX5_nextNow_66 hP hS (congrArg (fun z9 => z9.1) hq) (by with_reducible exact congrArg (fun z9 => zB_X5 (g 0) u z9.2 w) hq)
        · have c_6 : found = (-1) := c_6
          have hq := hq.trans (if_pos c_6)
          refine lv_aload_n hx hb dX5_nextNow_30 rfl (lv_at hl 0 rfl) ?_
          refine lv_iload_n hx hb dX5_nextNow_31 rfl (lv_at hl 1 rfl) ?_
          refine lv_iload hx hb dX5_nextNow_32 (lv_at hl 4 rfl) ?_
          refine zcV (ci := 5) (n := 2) (c_X5_canRaise l D g u M1 w b (nI k) z0 (zI_G v18_1)) hx hb hml hown hts gX5_nextNow_X5_canRaise rfl ⟨rfl, by decide, by decide, by decide⟩ ⟨Nat.le_of_ble_eq_true rfl, Nat.le_of_ble_eq_true rfl⟩ ⟨rfl, rfl⟩ hK hP rfl rfl rfl hl.1 rfl rfl (Nat.le_of_ble_eq_true rfl) ⟨Nat.zero_le _, Nat.zero_le _⟩ dX5_nextNow_34 ?_
          refine zif_eq (tgt := 59) hx hb dX5_nextNow_37 (by decide) (fun c_9 => ?_) (fun c_9 => ?_)
          · have hq := hq.trans (zif_f c_9)
            refine lv_aload_n hx hb dX5_nextNow_59 rfl (lv_at hl 0 rfl) ?_
            refine lv_iload_n hx hb dX5_nextNow_60 rfl (lv_at hl 1 rfl) ?_
            refine lv_iload_n hx hb dX5_nextNow_61 rfl (lv_at hl 3 rfl) ?_
            refine zcVw (ci := 5) (n := 2) (c_X5_layBack l D g u M1 w b (nI (Int32.toNatClampNeg ((v_X5_keepShare M b).1))) z0) hx hb hml hown hts gX5_nextNow_X5_layBack rfl ⟨rfl, by decide, by decide, by decide⟩ ⟨Nat.le_of_ble_eq_true rfl, Nat.le_of_ble_eq_true rfl⟩ ⟨rfl, rfl⟩ hK hP hD rfl rfl rfl hS hl.1 rfl rfl (Nat.le_of_ble_eq_true rfl) ⟨Nat.zero_le _, Nat.zero_le _⟩ dX5_nextNow_62 (fun H1 locs hP1 hk1 hS => ?_)
            have hD := zD_addr (ws' := zB_X5 (g 0) u (v_X5_layBack M1 b (nI (Int32.toNatClampNeg ((v_X5_keepShare M b).1)))) w) hD (by simp only [zF, List.flatten_cons, List.flatten_nil, List.append_nil, List.map_append, List.map_cons, List.map_nil, zad_X0, zad_X1, zad_X2, zad_X3, zad_X4, zad_X5]); have hP := hP1
            clear hP1 hk1
            have hP : va_P D vwCl (zB_X5 (g 0) u (v_X5_layBack M1 b (nI (Int32.toNatClampNeg ((v_X5_keepShare M b).1)))) w) H1 := hP
            have hD : va_D (zA (zB_X5 (g 0) u M w)) (zB_X5 (g 0) u (v_X5_layBack M1 b (nI (Int32.toNatClampNeg ((v_X5_keepShare M b).1)))) w) := hD
            refine lv_iload_n hx hb dX5_nextNow_65 rfl (lv_at hl 2 rfl) ?_
            exact zretw_i hx hb hr hlocks dX5_nextNow_66 hP hS (congrArg (fun z9 => z9.1) hq) (by with_reducible exact congrArg (fun z9 => zB_X5 (g 0) u z9.2 w) hq)
          · have hq := hq.trans (zif_t c_9)
            refine lv_aload_n hx hb dX5_nextNow_40 rfl (lv_at hl 0 rfl) ?_
            refine lv_iload_n hx hb dX5_nextNow_41 rfl (lv_at hl 1 rfl) ?_
            refine lv_iload hx hb dX5_nextNow_42 (lv_at hl 4 rfl) ?_
            refine zcVw (ci := 5) (n := 2) (c_X5_setShare l D g u M1 w b k z0 v18_1 (by omega) (zroom z0 v18_1 (by omega) (Or.inl (by with_reducible assumption)))) hx hb hml hown hts gX5_nextNow_X5_setShare rfl ⟨rfl, by decide, by decide, by decide⟩ ⟨Nat.le_of_ble_eq_true rfl, Nat.le_of_ble_eq_true rfl⟩ ⟨rfl, rfl⟩ hK hP hD rfl rfl rfl hS hl.1 rfl rfl (Nat.le_of_ble_eq_true rfl) ⟨Nat.zero_le _, Nat.zero_le _⟩ dX5_nextNow_44 (fun H1 locs hP1 hk1 hS => ?_)
            have hD := zD_addr (ws' := zB_X5 (g 0) u (v_X5_setShare M1 b k) w) hD (by simp only [zF, List.flatten_cons, List.flatten_nil, List.append_nil, List.map_append, List.map_cons, List.map_nil, zad_X0, zad_X1, zad_X2, zad_X3, zad_X4, zad_X5]); have hP := hP1
            clear hP1 hk1
            have hP : va_P D vwCl (zB_X5 (g 0) u (v_X5_setShare M1 b k) w) H1 := hP
            have hD : va_D (zA (zB_X5 (g 0) u M w)) (zB_X5 (g 0) u (v_X5_setShare M1 b k) w) := hD
            refine lv_aload_n hx hb dX5_nextNow_47 rfl (lv_at hl 0 rfl) ?_
            refine lv_iload_n hx hb dX5_nextNow_48 rfl (lv_at hl 1 rfl) ?_
            refine zcV (ci := 5) (n := 1) (c_X5_newEater l D g u (v_X5_setShare M1 b k) w b z0 (zI_G (zssc z0 v18_1 v18_2 (by omega) (Or.inl (by with_reducible assumption))).2.2.2.2)) hx hb hml hown hts gX5_nextNow_X5_newEater rfl ⟨rfl, by decide, by decide, by decide⟩ ⟨Nat.le_of_ble_eq_true rfl, Nat.le_of_ble_eq_true rfl⟩ ⟨rfl, rfl⟩ hK hP rfl rfl rfl hl.1 rfl rfl (Nat.le_of_ble_eq_true rfl) ⟨Nat.zero_le _, Nat.zero_le _⟩ dX5_nextNow_49 ?_
            refine lv_istore_n (lv' := [(2, .int (v_X5_newEater (v_X5_setShare M1 b k) b)), (0, .ref (u 0)), (1, .int (nI b)), (3, .int (nI (Int32.toNatClampNeg ((v_X5_keepShare M b).1)))), (4, .int (nI k))]) hx hb dX5_nextNow_52 rfl hl (by decide) rfl (fun ls hl => ?_)
            refine lv_iinc (v := (nI (k + 1))) (lv' := [(4, .int (nI (k + 1))), (2, .int (v_X5_newEater (v_X5_setShare M1 b k) b)), (0, .ref (u 0)), (1, .int (nI b)), (3, .int (nI (Int32.toNatClampNeg ((v_X5_keepShare M b).1))))]) hx hb dX5_nextNow_53 hl (k := 4) rfl (nI_add _ 1) (by decide) rfl (fun ls hl => ?_)
            refine lv_goto (tgt := 18) hx hb dX5_nextNow_56 (by decide) ?_
            exact ih18 (v_X5_newEater (v_X5_setShare M1 b k) b) (k + 1) (v_X5_setShare M1 b k) (by omega) (zssc z0 v18_1 v18_2 (by omega) (Or.inl (by with_reducible assumption))).2.2.2.2 (by rw [(zssc z0 v18_1 v18_2 (by omega) (Or.inl (by with_reducible assumption))).2.1 1 (by decide) (by omega)]; exact v18_2) (by omega) _ _ hP hD hS ls (lv_sub hl [2, 3, 1, 4, 0] rfl) hq
  exact L18 102 (-1) (Int32.toNatClampNeg ((v_X5_keepShare M b).1) + 1) (v_X5_layAhead ((v_X5_keepShare M b).2) b) (by omega) (zI_la (zI_ks z1)) (by rw [zla_f _ _ (by decide), zks_f _ _ (by decide)]; exact z2) (by omega) _ _ hP hD hS ls (lv_sub hl [3, 4, 2, 1, 0] rfl) hq
