theorem ztk23 {x : Int32} {ph i : Nat} (h : vp_in x 24) (h2 : 3 * Int32.toNatClampNeg x + ph ≤ i) (h3 : i < 60) : vp_in x 23 := by
  obtain ⟨j, hj, rfl⟩ := vp_in_of h (by decide)
  rw [nI_nat (by omega)] at h2
  exact vp_in_nI (by omega) (by decide)
def v_X5_rightUpTo_12  : Nat → Nat → (Nat → Nat → Int32) → Int32 × (Nat → Nat → Int32)
  | 0, _, _ => (0, (fun _ _ => 0))
  | n + 1, i, M1 => (if Int32.toNatClampNeg (M1 3 0) ≤ i then ((nI i), M1) else (if ((v_X5_takes M1 (M1 4 i)).1) = true then v_X5_rightUpTo_12 n (i + 1) ((v_X5_takes M1 (M1 4 i)).2) else ((nI i), (v_X5_takes M1 (M1 4 i)).2)))
def v_X5_rightUpTo (M : Nat → Nat → Int32) : Int32 × (Nat → Nat → Int32) := v_X5_rightUpTo_12 61 0 (zU (zU M 8 (fun _ => 0)) 10 (fun _ => 0))
set_option maxHeartbeats 400000 in
set_option maxRecDepth 100000 in
theorem c_X5_rightUpTo (l : Launch) (D : va_G) (g : Nat → ClassId) (u : Nat → Nat) (M : Nat → Nat → Int32) (w : Int64) (z0 : vp_in (M 3 0) 61) : Wr l D (zT g) yX5_rightUpTo wsX5_rightUpTo (rmOf 3 68) [.ref (u 0)] (zB_X5 (g 0) u M w) (some (.int ((v_X5_rightUpTo M).1))) (zB_X5 (g 0) u ((v_X5_rightUpTo M).2) w) := by
  refine Wr.of (cc := cX5_rightUpTo) (maxL := 2) (ret := (some .int)) (by decide) rfl (Nat.le_of_ble_eq_true rfl) ?_
  intro p e s m below meth c ls hx hb hr hml hown hts hlocks hP hD hS hK hl
  have hown : s.vm.findClass RX5 = some m.cls := hown
  have hinX5 : ∀ w ∈ u_ws RX5 TX5 13, w ∈ wsX5_rightUpTo := fun _ h9 => (List.mem_cons_of_mem _ (List.mem_append_right _ h9))
  obtain ⟨q, hq⟩ : ∃ q : Int32 × (Nat → Nat → Int32), q = v_X5_rightUpTo M := ⟨_, rfl⟩
  rw [← hq]
  unfold v_X5_rightUpTo at hq
  have hl : lv_has ls 2 [(0, .ref (u 0))] := hl
  refine lv_aload_n hx hb dX5_rightUpTo_0 rfl (lv_at hl 0 rfl) ?_
  refine lv_iconst (v := 0) hx hb dX5_rightUpTo_1 (by decide) ?_
  refine va_put (D := D) (ci := 5) (v := .int 0) (ty := .int) (C := RX5) (T := TX5) (N := 13) hx hb hts hinX5 tyX5 tyX5_ok nmX5 hown hK.1 hP hD hS 0 rfl rfl 8 (by decide) (hts (.fieldLink RX5 156 "SaltSharesModel" "read" "I") (List.mem_of_getElem? (i := 1) rfl)) (fun _ h9 => h9) rfl (by decide +kernel) rfl rfl (Nat.le_of_ble_eq_true rfl) dX5_rightUpTo_2 (fun H locs hP hD hS => ?_)
  have hP : va_P D vwCl (zB_X5 (g 0) u (zU M 8 (fun _ => 0)) w) H := hP
  have hD : va_D (zA (zB_X5 (g 0) u M w)) (zB_X5 (g 0) u (zU M 8 (fun _ => 0)) w) := hD
  refine lv_aload_n hx hb dX5_rightUpTo_5 rfl (lv_at hl 0 rfl) ?_
  refine lv_iconst (v := 0) hx hb dX5_rightUpTo_6 (by decide) ?_
  refine va_put (D := D) (ci := 5) (v := .int 0) (ty := .int) (C := RX5) (T := TX5) (N := 13) hx hb hts hinX5 tyX5 tyX5_ok nmX5 hown hK.1 hP hD hS 0 rfl rfl 10 (by decide) (hts (.fieldLink RX5 162 "SaltSharesModel" "due" "I") (List.mem_of_getElem? (i := 2) rfl)) (fun _ h9 => h9) rfl (by decide +kernel) rfl rfl (Nat.le_of_ble_eq_true rfl) dX5_rightUpTo_7 (fun H locs hP hD hS => ?_)
  have hP : va_P D vwCl (zB_X5 (g 0) u (zU (zU M 8 (fun _ => 0)) 10 (fun _ => 0)) w) H := hP
  have hD : va_D (zA (zB_X5 (g 0) u M w)) (zB_X5 (g 0) u (zU (zU M 8 (fun _ => 0)) 10 (fun _ => 0)) w) := hD
  refine lv_iconst (v := 0) hx hb dX5_rightUpTo_10 (by decide) ?_
  refine lv_istore_n (lv' := [(1, .int 0), (0, .ref (u 0))]) hx hb dX5_rightUpTo_11 rfl hl (by decide) rfl (fun ls hl => ?_)
  have L12 : ∀ (n : Nat) (i : Nat) (M1 : Nat → Nat → Int32), (i ≤ 60) → (M1 3 = M 3) → (vp_in (M1 8 0) 24) → (3 * Int32.toNatClampNeg (M1 8 0) + zph M1 ≤ i) → 60 - i < n → ∀ (H : Heap) (locs : List Loc), va_P D vwCl (zB_X5 (g 0) u M1 w) H → va_D (zA (zB_X5 (g 0) u M w)) (zB_X5 (g 0) u M1 w) → va_S (zA (zB_X5 (g 0) u M w)) s.heap H locs → ∀ (ls : Array Slot), lv_has ls 2 [(0, .ref (u 0)), (1, .int (nI i))] → q = v_X5_rightUpTo_12 n i M1 → W p l e (rmOf 3 68) s m [.ref (u 0)].toArray below meth c H locs 0 0 (MQ below (zQw D (zB_X5 (g 0) u M w) (some (.int q.1)) (zB_X5 (g 0) u q.2 w)) [.ref (u 0)].toArray s 0 0 (zA (zB_X5 (g 0) u M w))) (F0 m 12 ls []) := by
    intro n
    induction n with
    | zero => intro i M1 v12_0 v12_1 v12_2 v12_3 hn; exact absurd hn (Nat.not_lt_zero _)
    | succ n ih12 =>
      intro i M1 v12_0 v12_1 v12_2 v12_3 hn12 H locs hP hD hS ls hl hq
      rw [v_X5_rightUpTo_12] at hq
      refine lv_iload_n hx hb dX5_rightUpTo_12 rfl (lv_at hl 1 rfl) ?_
      refine lv_aload_n hx hb dX5_rightUpTo_13 rfl (lv_at hl 0 rfl) ?_
      refine va_get (D := D) (ci := 5) (v := .int (M1 3 0)) (C := RX5) (T := TX5) (N := 13) hx hb hts hinX5 hown hK.1 hP 0 rfl rfl 3 (by decide) (hts (.fieldLink RX5 153 "SaltSharesModel" "length" "I") (List.mem_of_getElem? (i := 3) rfl)) (fun _ h9 => h9) rfl dX5_rightUpTo_14 ?_
      have w_1 := znat (show vp_in (M1 3 0) 61 from (by rw [v12_1]; exact z0))
      have w_1b := w_1.2
      refine lv_is w_1.1 ?_
      refine lv_icmp_ge (tgt := 39) hx hb dX5_rightUpTo_17 (by decide) (fun c_2 => ?_) (fun c_2 => ?_)
      · have c_2 : Int32.toNatClampNeg (M1 3 0) ≤ i := (nI_leI (a := Int32.toNatClampNeg (M1 3 0)) (b := i) (by omega) (by omega)).mp c_2
        have hq := hq.trans (if_pos c_2)
        refine lv_iload_n hx hb dX5_rightUpTo_39 rfl (lv_at hl 1 rfl) ?_
        exact zretw_i hx hb hr hlocks dX5_rightUpTo_40 hP hS (by with_reducible exact congrArg (fun z9 => z9.1) hq) (by with_reducible exact congrArg (fun z9 => zB_X5 (g 0) u z9.2 w) hq)
      · have c_2 : ¬ (Int32.toNatClampNeg (M1 3 0) ≤ i) := fun h9 => c_2 ((nI_leI (a := Int32.toNatClampNeg (M1 3 0)) (b := i) (by omega) (by omega)).mpr h9)
        have hq := hq.trans (if_neg c_2)
        refine lv_aload_n hx hb dX5_rightUpTo_20 rfl (lv_at hl 0 rfl) ?_
        refine lv_aload_n hx hb dX5_rightUpTo_21 rfl (lv_at hl 0 rfl) ?_
        refine va_get (D := D) (ci := 5) (v := .ref (u 5)) (C := RX5) (T := TX5) (N := 13) hx hb hts hinX5 hown hK.1 hP 0 rfl rfl 4 (by decide) (hts (.fieldLink RX5 16 "SaltSharesModel" "text" "[I") (List.mem_of_getElem? (i := 4) rfl)) (fun _ h9 => h9) rfl dX5_rightUpTo_22 ?_
        refine lv_iload_n hx hb dX5_rightUpTo_25 rfl (lv_at hl 1 rfl) ?_
        refine z_iald (i := i) hx hb hK hP 3 0 rfl rfl (by omega) (by decide) dX5_rightUpTo_26 ?_
        refine zcVw (ci := 5) (n := 1) (c_X5_takes l D g u M1 w (M1 4 i) (ztk23 v12_2 v12_3 (by omega))) hx hb hml hown hts gX5_rightUpTo_X5_takes rfl ⟨rfl, by decide, by decide, by decide⟩ ⟨Nat.le_of_ble_eq_true rfl, Nat.le_of_ble_eq_true rfl⟩ ⟨rfl, rfl⟩ hK hP hD rfl rfl rfl hS hl.1 rfl rfl (Nat.le_of_ble_eq_true rfl) ⟨Nat.zero_le _, Nat.zero_le _⟩ dX5_rightUpTo_27 (fun H1 locs hP1 hk1 hS => ?_)
        have hD := zD_addr (ws' := zB_X5 (g 0) u ((v_X5_takes M1 (M1 4 i)).2) w) hD (by simp only [zF, List.flatten_cons, List.flatten_nil, List.append_nil, List.map_append, List.map_cons, List.map_nil, zad_X0, zad_X1, zad_X2, zad_X3, zad_X4, zad_X5]); have hP := hP1
        clear hP1 hk1
        have hP : va_P D vwCl (zB_X5 (g 0) u ((v_X5_takes M1 (M1 4 i)).2) w) H1 := hP
        have hD : va_D (zA (zB_X5 (g 0) u M w)) (zB_X5 (g 0) u ((v_X5_takes M1 (M1 4 i)).2) w) := hD
        refine zif_eq (tgt := 39) hx hb dX5_rightUpTo_30 (by decide) (fun c_4 => ?_) (fun c_4 => ?_)
        · have hq := hq.trans (zif_f c_4)
          refine lv_iload_n hx hb dX5_rightUpTo_39 rfl (lv_at hl 1 rfl) ?_
          exact zretw_i hx hb hr hlocks dX5_rightUpTo_40 hP hS (by with_reducible exact congrArg (fun z9 => z9.1) hq) (by with_reducible exact congrArg (fun z9 => zB_X5 (g 0) u z9.2 w) hq)
        · have hq := hq.trans (zif_t c_4)
          refine lv_iinc (v := (nI (i + 1))) (lv' := [(1, .int (nI (i + 1))), (0, .ref (u 0))]) hx hb dX5_rightUpTo_33 hl (k := 1) rfl (nI_add _ 1) (by decide) rfl (fun ls hl => ?_)
          refine lv_goto (tgt := 12) hx hb dX5_rightUpTo_36 (by decide) ?_
          exact ih12 (i + 1) ((v_X5_takes M1 (M1 4 i)).2) (by omega) (((ztakes M1 _ (ztk23 v12_2 v12_3 (by omega))).1 3 (by decide) (by decide) (by decide) (by decide)).trans v12_1) (ztakes M1 _ (ztk23 v12_2 v12_3 (by omega))).2.1 (Nat.le_trans (ztakes M1 _ (ztk23 v12_2 v12_3 (by omega))).2.2 (Nat.succ_le_succ v12_3)) (by omega) _ _ hP hD hS ls (lv_sub hl [1, 0] rfl) hq
  exact L12 61 0 (zU (zU M 8 (fun _ => 0)) 10 (fun _ => 0)) (by omega) (by rw [zU_n _ _ (by decide), zU_n _ _ (by decide)]) (by rw [zU_n _ _ (by decide), zU_s]; exact vp_in_nI (n := 0) (by decide) (by decide)) (by rw [zph_0 (by rw [zU_s]), zU_n _ _ (by decide), zU_s]; decide) (by omega) _ _ hP hD hS ls (lv_sub hl [1, 0] rfl) hq
def v_X5_firstError (M : Nat → Nat → Int32) : Int32 × (Nat → Nat → Int32) := (((v_X5_rightUpTo (zU M 5 (fun _ => 0))).1), (v_X5_rightUpTo (zU M 5 (fun _ => 0))).2)
set_option maxHeartbeats 400000 in
set_option maxRecDepth 100000 in
theorem c_X5_firstError (l : Launch) (D : va_G) (g : Nat → ClassId) (u : Nat → Nat) (M : Nat → Nat → Int32) (w : Int64) (z0 : vp_in (M 3 0) 61) : Wr l D (zT g) yX5_firstError wsX5_firstError (rmOf 4 89) [.ref (u 0)] (zB_X5 (g 0) u M w) (some (.int ((v_X5_firstError M).1))) (zB_X5 (g 0) u ((v_X5_firstError M).2) w) := by
  refine Wr.of (cc := cX5_firstError) (maxL := 1) (ret := (some .int)) (by decide) rfl (Nat.le_of_ble_eq_true rfl) ?_
  intro p e s m below meth c ls hx hb hr hml hown hts hlocks hP hD hS hK hl
  have hown : s.vm.findClass RX5 = some m.cls := hown
  have hinX5 : ∀ w ∈ u_ws RX5 TX5 13, w ∈ wsX5_firstError := fun _ h9 => (List.mem_cons_of_mem _ (List.mem_append_right _ h9))
  obtain ⟨q, hq⟩ : ∃ q : Int32 × (Nat → Nat → Int32), q = v_X5_firstError M := ⟨_, rfl⟩
  rw [← hq]
  unfold v_X5_firstError at hq
  have hl : lv_has ls 1 [(0, .ref (u 0))] := hl
  refine lv_aload_n hx hb dX5_firstError_0 rfl (lv_at hl 0 rfl) ?_
  refine lv_iconst (v := 0) hx hb dX5_firstError_1 (by decide) ?_
  refine va_put (D := D) (ci := 5) (v := .int 0) (ty := .int) (C := RX5) (T := TX5) (N := 13) hx hb hts hinX5 tyX5 tyX5_ok nmX5 hown hK.1 hP hD hS 0 rfl rfl 5 (by decide) (hts (.fieldLink RX5 28 "SaltSharesModel" "thrown" "I") (List.mem_of_getElem? (i := 1) rfl)) (fun _ h9 => h9) rfl (by decide +kernel) rfl rfl (Nat.le_of_ble_eq_true rfl) dX5_firstError_2 (fun H locs hP hD hS => ?_)
  have hP : va_P D vwCl (zB_X5 (g 0) u (zU M 5 (fun _ => 0)) w) H := hP
  have hD : va_D (zA (zB_X5 (g 0) u M w)) (zB_X5 (g 0) u (zU M 5 (fun _ => 0)) w) := hD
  refine lv_aload_n hx hb dX5_firstError_5 rfl (lv_at hl 0 rfl) ?_
  refine zcVw (ci := 5) (n := 0) (c_X5_rightUpTo l D g u (zU M 5 (fun _ => 0)) w (by rw [zU_n _ _ (by decide)]; exact z0)) hx hb hml hown hts gX5_firstError_X5_rightUpTo rfl ⟨rfl, by decide, by decide, by decide⟩ ⟨Nat.le_of_ble_eq_true rfl, Nat.le_of_ble_eq_true rfl⟩ ⟨rfl, rfl⟩ hK hP hD rfl rfl rfl hS hl.1 rfl rfl (Nat.le_of_ble_eq_true rfl) ⟨Nat.zero_le _, Nat.zero_le _⟩ dX5_firstError_6 (fun H1 locs hP1 hk1 hS => ?_)
  have hD := zD_addr (ws' := zB_X5 (g 0) u ((v_X5_rightUpTo (zU M 5 (fun _ => 0))).2) w) hD (by simp only [zF, List.flatten_cons, List.flatten_nil, List.append_nil, List.map_append, List.map_cons, List.map_nil, zad_X0, zad_X1, zad_X2, zad_X3, zad_X4, zad_X5]); have hP := hP1
  clear hP1 hk1
  have hP : va_P D vwCl (zB_X5 (g 0) u ((v_X5_rightUpTo (zU M 5 (fun _ => 0))).2) w) H1 := hP
  have hD : va_D (zA (zB_X5 (g 0) u M w)) (zB_X5 (g 0) u ((v_X5_rightUpTo (zU M 5 (fun _ => 0))).2) w) := hD
  exact zretw_i hx hb hr hlocks dX5_firstError_9 hP hS (by with_reducible exact congrArg (fun z9 => z9.1) hq) (by with_reducible exact congrArg (fun z9 => zB_X5 (g 0) u z9.2 w) hq)
