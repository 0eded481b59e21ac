def v_X5_sharedThen (M : Nat → Nat → Int32) (b : Nat) (to : Nat) : Int32 × (Nat → Nat → Int32) := (if (v_X5_canRaise M b (nI to)) = true then ((v_X5_eaters (v_X5_setShare ((v_X5_keepShare M b).2) b to) b), v_X5_layBack (v_X5_setShare ((v_X5_keepShare M b).2) b to) b ((v_X5_keepShare M b).1)) else (if (v_X5_canLower M b (nI to)) = true then ((v_X5_eaters (v_X5_setShare ((v_X5_keepShare M b).2) b to) b), v_X5_layBack (v_X5_setShare ((v_X5_keepShare M b).2) b to) b ((v_X5_keepShare M b).1)) else ((-1), M)))
set_option maxHeartbeats 400000 in
set_option maxRecDepth 100000 in
theorem c_X5_sharedThen (l : Launch) (D : va_G) (g : Nat → ClassId) (u : Nat → Nat) (M : Nat → Nat → Int32) (w : Int64) (b : Nat) (to : Nat) (z0 : b < 8) (z1 : zI M) (z2 : to ≤ 100) (z3 : b < Int32.toNatClampNeg (M 0 1)) : Wr l D (zT g) yX5_sharedThen wsX5_sharedThen (rmOf 5 111) [.ref (u 0), .int (nI b), .int (nI to)] (zB_X5 (g 0) u M w) (some (.int ((v_X5_sharedThen M b to).1))) (zB_X5 (g 0) u ((v_X5_sharedThen M b to).2) w) := by
  refine Wr.of (cc := cX5_sharedThen) (maxL := 5) (ret := (some .int)) (by decide) rfl (Nat.le_of_ble_eq_true rfl) ?_
  intro p e s m below meth c ls hx hb hr hml hown hts hlocks hP hD hS hK hl
  have hown : s.vm.findClass RX5 = some m.cls := hown
  obtain ⟨q, hq⟩ : ∃ q : Int32 × (Nat → Nat → Int32), q = v_X5_sharedThen M b to := ⟨_, rfl⟩
  rw [← hq]
  unfold v_X5_sharedThen at hq
  have hl : lv_has ls 5 [(0, .ref (u 0)), (1, .int (nI b)), (2, .int (nI to))] := hl
  refine lv_aload_n hx hb dX5_sharedThen_0 rfl (lv_at hl 0 rfl) ?_
  refine lv_iload_n hx hb dX5_sharedThen_1 rfl (lv_at hl 1 rfl) ?_
  refine lv_iload_n hx hb dX5_sharedThen_2 rfl (lv_at hl 2 rfl) ?_
  refine zcV (ci := 5) (n := 2) (c_X5_canRaise l D g u M w b (nI to) (by omega) (zI_G z1)) hx hb hml hown hts gX5_sharedThen_X5_canRaise rfl ⟨rfl, by decide, by decide, by decide⟩ ⟨Nat.le_of_ble_eq_true rfl, Nat.le_of_ble_eq_true rfl⟩ ⟨rfl, rfl⟩ hK hP rfl rfl rfl hl.1 rfl rfl (Nat.le_of_ble_eq_true rfl) ⟨Nat.zero_le _, Nat.zero_le _⟩ dX5_sharedThen_3 ?_
  refine zif_ne (tgt := 20) hx hb dX5_sharedThen_6 (by decide) (fun c_2 => ?_) (fun c_2 => ?_)
  · have hq := hq.trans (zif_t c_2)
    refine lv_aload_n hx hb dX5_sharedThen_20 rfl (lv_at hl 0 rfl) ?_
    refine lv_iload_n hx hb dX5_sharedThen_21 rfl (lv_at hl 1 rfl) ?_
    refine zcVw (ci := 5) (n := 1) (c_X5_keepShare l D g u M w b (by omega)) hx hb hml hown hts gX5_sharedThen_X5_keepShare rfl ⟨rfl, by decide, by decide, by decide⟩ ⟨Nat.le_of_ble_eq_true rfl, Nat.le_of_ble_eq_true rfl⟩ ⟨rfl, rfl⟩ hK hP hD rfl rfl rfl hS hl.1 rfl rfl (Nat.le_of_ble_eq_true rfl) ⟨Nat.zero_le _, Nat.zero_le _⟩ dX5_sharedThen_22 (fun H1 locs hP1 hk1 hS => ?_)
    have hD := zD_addr (ws' := zB_X5 (g 0) u ((v_X5_keepShare M b).2) w) hD (by simp only [zF, List.flatten_cons, List.flatten_nil, List.append_nil, List.map_append, List.map_cons, List.map_nil, zad_X0, zad_X1, zad_X2, zad_X3, zad_X4, zad_X5]); have hP := hP1
    clear hP1 hk1
    have hP : va_P D vwCl (zB_X5 (g 0) u ((v_X5_keepShare M b).2) w) H1 := hP
    have hD : va_D (zA (zB_X5 (g 0) u M w)) (zB_X5 (g 0) u ((v_X5_keepShare M b).2) w) := hD
    refine lv_istore_n (lv' := [(3, .int ((v_X5_keepShare M b).1)), (0, .ref (u 0)), (1, .int (nI b)), (2, .int (nI to))]) hx hb dX5_sharedThen_25 rfl hl (by decide) rfl (fun ls hl => ?_)
    refine lv_aload_n hx hb dX5_sharedThen_26 rfl (lv_at hl 1 rfl) ?_
    refine lv_iload_n hx hb dX5_sharedThen_27 rfl (lv_at hl 2 rfl) ?_
    refine lv_iload_n hx hb dX5_sharedThen_28 rfl (lv_at hl 3 rfl) ?_
    refine zcVw (ci := 5) (n := 2) (c_X5_setShare l D g u ((v_X5_keepShare M b).2) w b to z0 (zI_ks z1) z2 (zroomk z0 z1 z2 (by first | exact Or.inl (by with_reducible assumption) | exact Or.inr (by with_reducible assumption)))) hx hb hml hown hts gX5_sharedThen_X5_setShare rfl ⟨rfl, by decide, by decide, by decide⟩ ⟨Nat.le_of_ble_eq_true rfl, Nat.le_of_ble_eq_true rfl⟩ ⟨rfl, rfl⟩ hK hP hD rfl rfl rfl hS hl.1 rfl rfl (Nat.le_of_ble_eq_true rfl) ⟨Nat.zero_le _, Nat.zero_le _⟩ dX5_sharedThen_29 (fun H1 locs hP1 hk1 hS => ?_)
    have hD := zD_addr (ws' := zB_X5 (g 0) u (v_X5_setShare ((v_X5_keepShare M b).2) b to) w) hD (by simp only [zF, List.flatten_cons, List.flatten_nil, List.append_nil, List.map_append, List.map_cons, List.map_nil, zad_X0, zad_X1, zad_X2, zad_X3, zad_X4, zad_X5]); have hP := hP1
    clear hP1 hk1
    have hP : va_P D vwCl (zB_X5 (g 0) u (v_X5_setShare ((v_X5_keepShare M b).2) b to) w) H1 := hP
    have hD : va_D (zA (zB_X5 (g 0) u M w)) (zB_X5 (g 0) u (v_X5_setShare ((v_X5_keepShare M b).2) b to) w) := hD
    refine lv_aload_n hx hb dX5_sharedThen_32 rfl (lv_at hl 1 rfl) ?_
    refine lv_iload_n hx hb dX5_sharedThen_33 rfl (lv_at hl 2 rfl) ?_
    refine zcV (ci := 5) (n := 1) (c_X5_eaters l D g u (v_X5_setShare ((v_X5_keepShare M b).2) b to) w b z0 (zI_G (zI_ssk z0 z1 z3 z2 (by first | exact Or.inl (by with_reducible assumption) | exact Or.inr (by with_reducible assumption))))) hx hb hml hown hts gX5_sharedThen_X5_eaters rfl ⟨rfl, by decide, by decide, by decide⟩ ⟨Nat.le_of_ble_eq_true rfl, Nat.le_of_ble_eq_true rfl⟩ ⟨rfl, rfl⟩ hK hP rfl rfl rfl hl.1 rfl rfl (Nat.le_of_ble_eq_true rfl) ⟨Nat.zero_le _, Nat.zero_le _⟩ dX5_sharedThen_34 ?_
    refine lv_istore (lv' := [(4, .int (v_X5_eaters (v_X5_setShare ((v_X5_keepShare M b).2) b to) b)), (3, .int ((v_X5_keepShare M b).1)), (0, .ref (u 0)), (1, .int (nI b)), (2, .int (nI to))]) hx hb dX5_sharedThen_37 hl (by decide) rfl (fun ls hl => ?_)
    refine lv_aload_n hx hb dX5_sharedThen_39 rfl (lv_at hl 2 rfl) ?_
    refine lv_iload_n hx hb dX5_sharedThen_40 rfl (lv_at hl 3 rfl) ?_
    refine lv_iload_n hx hb dX5_sharedThen_41 rfl (lv_at hl 1 rfl) ?_
    refine zcVw (ci := 5) (n := 2) (c_X5_layBack l D g u (v_X5_setShare ((v_X5_keepShare M b).2) b to) w b ((v_X5_keepShare M b).1) z0) hx hb hml hown hts gX5_sharedThen_X5_layBack rfl ⟨rfl, by decide, by decide, by decide⟩ ⟨Nat.le_of_ble_eq_true rfl, Nat.le_of_ble_eq_true rfl⟩ ⟨rfl, rfl⟩ hK hP hD rfl rfl rfl hS hl.1 rfl rfl (Nat.le_of_ble_eq_true rfl) ⟨Nat.zero_le _, Nat.zero_le _⟩ dX5_sharedThen_42 (fun H1 locs hP1 hk1 hS => ?_)
    have hD := zD_addr (ws' := zB_X5 (g 0) u (v_X5_layBack (v_X5_setShare ((v_X5_keepShare M b).2) b to) b ((v_X5_keepShare M b).1)) w) hD (by simp only [zF, List.flatten_cons, List.flatten_nil, List.append_nil, List.map_append, List.map_cons, List.map_nil, zad_X0, zad_X1, zad_X2, zad_X3, zad_X4, zad_X5]); have hP := hP1
    clear hP1 hk1
    have hP : va_P D vwCl (zB_X5 (g 0) u (v_X5_layBack (v_X5_setShare ((v_X5_keepShare M b).2) b to) b ((v_X5_keepShare M b).1)) w) H1 := hP
    have hD : va_D (zA (zB_X5 (g 0) u M w)) (zB_X5 (g 0) u (v_X5_layBack (v_X5_setShare ((v_X5_keepShare M b).2) b to) b ((v_X5_keepShare M b).1)) w) := hD
    refine lv_iload hx hb dX5_sharedThen_45 (lv_at hl 0 rfl) ?_
    exact zretw_i hx hb hr hlocks dX5_sharedThen_47 hP hS (congrArg (fun z9 => z9.1) hq) (by with_reducible exact congrArg (fun z9 => zB_X5 (g 0) u z9.2 w) hq)
  · have hq := hq.trans (zif_f c_2)
    refine lv_aload_n hx hb dX5_sharedThen_9 rfl (lv_at hl 0 rfl) ?_
    refine lv_iload_n hx hb dX5_sharedThen_10 rfl (lv_at hl 1 rfl) ?_
    refine lv_iload_n hx hb dX5_sharedThen_11 rfl (lv_at hl 2 rfl) ?_
    refine zcV (ci := 5) (n := 2) (c_X5_canLower l D g u M w b (nI to) z0) hx hb hml hown hts gX5_sharedThen_X5_canLower rfl ⟨rfl, by decide, by decide, by decide⟩ ⟨Nat.le_of_ble_eq_true rfl, Nat.le_of_ble_eq_true rfl⟩ ⟨rfl, rfl⟩ hK hP rfl rfl rfl hl.1 rfl rfl (Nat.le_of_ble_eq_true rfl) ⟨Nat.zero_le _, Nat.zero_le _⟩ dX5_sharedThen_12 ?_
    refine zif_ne (tgt := 20) hx hb dX5_sharedThen_15 (by decide) (fun c_8 => ?_) (fun c_8 => ?_)
    · have hq := hq.trans (zif_t c_8)
      refine lv_aload_n hx hb dX5_sharedThen_20 rfl (lv_at hl 0 rfl) ?_
      refine lv_iload_n hx hb dX5_sharedThen_21 rfl (lv_at hl 1 rfl) ?_
      refine zcVw (ci := 5) (n := 1) (c_X5_keepShare l D g u M w b (by omega)) hx hb hml hown hts gX5_sharedThen_X5_keepShare rfl ⟨rfl, by decide, by decide, by decide⟩ ⟨Nat.le_of_ble_eq_true rfl, Nat.le_of_ble_eq_true rfl⟩ ⟨rfl, rfl⟩ hK hP hD rfl rfl rfl hS hl.1 rfl rfl (Nat.le_of_ble_eq_true rfl) ⟨Nat.zero_le _, Nat.zero_le _⟩ dX5_sharedThen_22 (fun H1 locs hP1 hk1 hS => ?_)
      have hD := zD_addr (ws' := zB_X5 (g 0) u ((v_X5_keepShare M b).2) w) hD (by simp only [zF, List.flatten_cons, List.flatten_nil, List.append_nil, List.map_append, List.map_cons, List.map_nil, zad_X0, zad_X1, zad_X2, zad_X3, zad_X4, zad_X5]); have hP := hP1
      clear hP1 hk1
      have hP : va_P D vwCl (zB_X5 (g 0) u ((v_X5_keepShare M b).2) w) H1 := hP
      have hD : va_D (zA (zB_X5 (g 0) u M w)) (zB_X5 (g 0) u ((v_X5_keepShare M b).2) w) := hD
      refine lv_istore_n (lv' := [(3, .int ((v_X5_keepShare M b).1)), (0, .ref (u 0)), (1, .int (nI b)), (2, .int (nI to))]) hx hb dX5_sharedThen_25 rfl hl (by decide) rfl (fun ls hl => ?_)
      refine lv_aload_n hx hb dX5_sharedThen_26 rfl (lv_at hl 1 rfl) ?_
      refine lv_iload_n hx hb dX5_sharedThen_27 rfl (lv_at hl 2 rfl) ?_
      refine lv_iload_n hx hb dX5_sharedThen_28 rfl (lv_at hl 3 rfl) ?_
      refine zcVw (ci := 5) (n := 2) (c_X5_setShare l D g u ((v_X5_keepShare M b).2) w b to z0 (zI_ks z1) z2 (zroomk z0 z1 z2 (by first | exact Or.inl (by with_reducible assumption) | exact Or.inr (by with_reducible assumption)))) hx hb hml hown hts gX5_sharedThen_X5_setShare rfl ⟨rfl, by decide, by decide, by decide⟩ ⟨Nat.le_of_ble_eq_true rfl, Nat.le_of_ble_eq_true rfl⟩ ⟨rfl, rfl⟩ hK hP hD rfl rfl rfl hS hl.1 rfl rfl (Nat.le_of_ble_eq_true rfl) ⟨Nat.zero_le _, Nat.zero_le _⟩ dX5_sharedThen_29 (fun H1 locs hP1 hk1 hS => ?_)
      have hD := zD_addr (ws' := zB_X5 (g 0) u (v_X5_setShare ((v_X5_keepShare M b).2) b to) w) hD (by simp only [zF, List.flatten_cons, List.flatten_nil, List.append_nil, List.map_append, List.map_cons, List.map_nil, zad_X0, zad_X1, zad_X2, zad_X3, zad_X4, zad_X5]); have hP := hP1
      clear hP1 hk1
      have hP : va_P D vwCl (zB_X5 (g 0) u (v_X5_setShare ((v_X5_keepShare M b).2) b to) w) H1 := hP
      have hD : va_D (zA (zB_X5 (g 0) u M w)) (zB_X5 (g 0) u (v_X5_setShare ((v_X5_keepShare M b).2) b to) w) := hD
      refine lv_aload_n hx hb dX5_sharedThen_32 rfl (lv_at hl 1 rfl) ?_
      refine lv_iload_n hx hb dX5_sharedThen_33 rfl (lv_at hl 2 rfl) ?_
      refine zcV (ci := 5) (n := 1) (c_X5_eaters l D g u (v_X5_setShare ((v_X5_keepShare M b).2) b to) w b z0 (zI_G (zI_ssk z0 z1 z3 z2 (by first | exact Or.inl (by with_reducible assumption) | exact Or.inr (by with_reducible assumption))))) hx hb hml hown hts gX5_sharedThen_X5_eaters rfl ⟨rfl, by decide, by decide, by decide⟩ ⟨Nat.le_of_ble_eq_true rfl, Nat.le_of_ble_eq_true rfl⟩ ⟨rfl, rfl⟩ hK hP rfl rfl rfl hl.1 rfl rfl (Nat.le_of_ble_eq_true rfl) ⟨Nat.zero_le _, Nat.zero_le _⟩ dX5_sharedThen_34 ?_
      refine lv_istore (lv' := [(4, .int (v_X5_eaters (v_X5_setShare ((v_X5_keepShare M b).2) b to) b)), (3, .int ((v_X5_keepShare M b).1)), (0, .ref (u 0)), (1, .int (nI b)), (2, .int (nI to))]) hx hb dX5_sharedThen_37 hl (by decide) rfl (fun ls hl => ?_)
      refine lv_aload_n hx hb dX5_sharedThen_39 rfl (lv_at hl 2 rfl) ?_
      refine lv_iload_n hx hb dX5_sharedThen_40 rfl (lv_at hl 3 rfl) ?_
      refine lv_iload_n hx hb dX5_sharedThen_41 rfl (lv_at hl 1 rfl) ?_
      refine zcVw (ci := 5) (n := 2) (c_X5_layBack l D g u (v_X5_setShare ((v_X5_keepShare M b).2) b to) w b ((v_X5_keepShare M b).1) z0) hx hb hml hown hts gX5_sharedThen_X5_layBack rfl ⟨rfl, by decide, by decide, by decide⟩ ⟨Nat.le_of_ble_eq_true rfl, Nat.le_of_ble_eq_true rfl⟩ ⟨rfl, rfl⟩ hK hP hD rfl rfl rfl hS hl.1 rfl rfl (Nat.le_of_ble_eq_true rfl) ⟨Nat.zero_le _, Nat.zero_le _⟩ dX5_sharedThen_42 (fun H1 locs hP1 hk1 hS => ?_)
      have hD := zD_addr (ws' := zB_X5 (g 0) u (v_X5_layBack (v_X5_setShare ((v_X5_keepShare M b).2) b to) b ((v_X5_keepShare M b).1)) w) hD (by simp only [zF, List.flatten_cons, List.flatten_nil, List.append_nil, List.map_append, List.map_cons, List.map_nil, zad_X0, zad_X1, zad_X2, zad_X3, zad_X4, zad_X5]); have hP := hP1
      clear hP1 hk1
      have hP : va_P D vwCl (zB_X5 (g 0) u (v_X5_layBack (v_X5_setShare ((v_X5_keepShare M b).2) b to) b ((v_X5_keepShare M b).1)) w) H1 := hP
      have hD : va_D (zA (zB_X5 (g 0) u M w)) (zB_X5 (g 0) u (v_X5_layBack (v_X5_setShare ((v_X5_keepShare M b).2) b to) b ((v_X5_keepShare M b).1)) w) := hD
      refine lv_iload hx hb dX5_sharedThen_45 (lv_at hl 0 rfl) ?_
      exact zretw_i hx hb hr hlocks dX5_sharedThen_47 hP hS (congrArg (fun z9 => z9.1) hq) (by with_reducible exact congrArg (fun z9 => zB_X5 (g 0) u z9.2 w) hq)
    · have hq := hq.trans (zif_f c_8)
      refine lv_iconst (v := (-1)) hx hb dX5_sharedThen_18 (by decide) ?_
      exact zretw_i hx hb hr hlocks dX5_sharedThen_19 hP hS (congrArg (fun z9 => z9.1) hq) (by with_reducible exact congrArg (fun z9 => zB_X5 (g 0) u z9.2 w) hq)
