theorem zw50 {x : Int32} (h : v_X5_within x 1 50 = true) : vp_in x 51 := by
  obtain ⟨a, b⟩ := zwithin h
  have a2 := zle_toInt a
  have b2 := zle_toInt b
  have t1 : (1 : Int32).toInt = 1 := by decide
  have t50 : (50 : Int32).toInt = 50 := by decide
  exact vp_in_iff.mpr ⟨by omega, by omega⟩
theorem zdp_at : ∀ (n many i : Nat) (M : Nat → Nat → Int32), 1200 - i < n → i ≤ 1200 → zI M → zI ((v_X5_dayPasses_14 n many i M).2) ∧ ∀ k, k ≠ 0 → (v_X5_dayPasses_14 n many i M).2 k = M k
  | 0, _, _, _, h, _, _ => absurd h (Nat.not_lt_zero _)
  | n + 1, many, i, M, h, hi, hI => by
    rw [v_X5_dayPasses_14]
    have hB := (znat (zI_B hI)).2
    by_cases c : 150 * (Int32.toNatClampNeg (M 0 1)) ≤ i
    · rw [if_pos c]; exact ⟨hI, fun _ _ => rfl⟩
    · rw [if_neg c]
      have d2 : i % (Int32.toNatClampNeg (M 0 1)) < 8 := by
        have := Nat.mod_lt i (show 0 < Int32.toNatClampNeg (M 0 1) by omega)
        omega
      by_cases d : v_X5_eatsNow M (i / (Int32.toNatClampNeg (M 0 1))) (i % (Int32.toNatClampNeg (M 0 1))) ≤ 0
      · rw [if_pos d]; exact zdp_at n many (i + 1) M (by omega) (by omega) hI
      · rw [if_neg d]
        obtain ⟨a1, a2⟩ := zdp_at n (many + 1) (i + 1) _ (by omega) (by omega) (zI_put (k := 5) d2 (by decide) (zI_u2 hI (Nat.le_trans (by decide) (Nat.le_add_right 653 _)) (Nat.le_trans (by decide) (Nat.le_add_right 803 _))))
        refine ⟨a1, fun k hk => ?_⟩
        rw [a2 k hk]
        unfold v_X5_put
        rw [zU_n _ _ hk, zU_n _ _ hk]
theorem zdp_I {M : Nat → Nat → Int32} (h : zI M) : zI ((v_X5_dayPasses M).2) := by
  unfold v_X5_dayPasses; exact (zdp_at 1201 0 0 _ (by omega) (by omega) (zI_day h)).1
theorem zdp_f {M : Nat → Nat → Int32} (h : zI M) {k : Nat} (hk : k ≠ 0) : (v_X5_dayPasses M).2 k = M k := by
  unfold v_X5_dayPasses; rw [(zdp_at 1201 0 0 _ (by omega) (by omega) (zI_day h)).2 k hk, zU_n _ _ hk]
def v_X5_passes_4 (days : Nat) : Nat → Int32 → Nat → (Nat → Nat → Int32) → Int32 × (Nat → Nat → Int32)
  | 0, _, _, _ => (0, (fun _ _ => 0))
  | n + 1, sm, j, M1 => (if days ≤ j then (sm, M1) else v_X5_passes_4 days n (sm + ((v_X5_dayPasses M1).1)) (j + 1) ((v_X5_dayPasses M1).2))
def v_X5_passes (M : Nat → Nat → Int32) (days : Nat) : Int32 × (Nat → Nat → Int32) := v_X5_passes_4 days 51 0 0 M
set_option maxHeartbeats 400000 in
set_option maxRecDepth 100000 in
theorem c_X5_passes (l : Launch) (D : va_G) (g : Nat → ClassId) (u : Nat → Nat) (M : Nat → Nat → Int32) (w : Int64) (days : Nat) (z0 : zI M) (z1 : days ≤ 50) : Wr l D (zT g) yX5_passes wsX5_passes (rmOf 5 112) [.ref (u 0), .int (nI days)] (zB_X5 (g 0) u M w) (some (.int ((v_X5_passes M days).1))) (zB_X5 (g 0) u ((v_X5_passes M days).2) w) := by
  refine Wr.of (cc := cX5_passes) (maxL := 5) (ret := (some .int)) (by decide) rfl (Nat.le_of_ble_eq_true rfl) ?_
  intro p e s m below meth c ls hx hb hr hml hown hts hlocks hP hD hS hK hl
  have hown : s.vm.findClass RX5 = some m.cls := hown
  obtain ⟨q, hq⟩ : ∃ q : Int32 × (Nat → Nat → Int32), q = v_X5_passes M days := ⟨_, rfl⟩
  rw [← hq]
  unfold v_X5_passes at hq
  have hl : lv_has ls 5 [(0, .ref (u 0)), (1, .int (nI days))] := hl
  refine lv_iconst (v := 0) hx hb dX5_passes_0 (by decide) ?_
  refine lv_istore_n (lv' := [(2, .int 0), (0, .ref (u 0)), (1, .int (nI days))]) hx hb dX5_passes_1 rfl hl (by decide) rfl (fun ls hl => ?_)
  refine lv_iconst (v := 0) hx hb dX5_passes_2 (by decide) ?_
  refine lv_istore_n (lv' := [(3, .int 0), (2, .int 0), (0, .ref (u 0)), (1, .int (nI days))]) hx hb dX5_passes_3 rfl hl (by decide) rfl (fun ls hl => ?_)
  have L4 : ∀ (n : Nat) (sm : Int32) (j : Nat) (M1 : Nat → Nat → Int32), (j ≤ days) → (zI M1) → days - j < n → ∀ (H : Heap) (locs : List Loc), va_P D vwCl (zB_X5 (g 0) u M1 w) H → va_D (zA (zB_X5 (g 0) u M w)) (zB_X5 (g 0) u M1 w) → va_S (zA (zB_X5 (g 0) u M w)) s.heap H locs → ∀ (ls : Array Slot), lv_has ls 5 [(0, .ref (u 0)), (1, .int (nI days)), (2, .int sm), (3, .int (nI j))] → q = v_X5_passes_4 days n sm j M1 → W p l e (rmOf 5 112) s m [.ref (u 0), .int (nI days)].toArray below meth c H locs 0 0 (MQ below (zQw D (zB_X5 (g 0) u M w) (some (.int q.1)) (zB_X5 (g 0) u q.2 w)) [.ref (u 0), .int (nI days)].toArray s 0 0 (zA (zB_X5 (g 0) u M w))) (F0 m 4 ls []) := by
    intro n
    induction n with
    | zero => intro sm j M1 v4_0 v4_1 hn; exact absurd hn (Nat.not_lt_zero _)
    | succ n ih4 =>
      intro sm j M1 v4_0 v4_1 hn4 H locs hP hD hS ls hl hq
      rw [v_X5_passes_4] at hq
      refine lv_iload_n hx hb dX5_passes_4 rfl (lv_at hl 3 rfl) ?_
      refine lv_iload_n hx hb dX5_passes_5 rfl (lv_at hl 1 rfl) ?_
      refine lv_icmp_ge (tgt := 26) hx hb dX5_passes_6 (by decide) (fun c_1 => ?_) (fun c_1 => ?_)
      · have c_1 : days ≤ j := (nI_leI (a := days) (b := j) (by omega) (by omega)).mp c_1
        have hq := hq.trans (if_pos c_1)
        refine lv_iload_n hx hb dX5_passes_26 rfl (lv_at hl 2 rfl) ?_
        exact zretw_i hx hb hr hlocks dX5_passes_27 hP hS (by with_reducible exact congrArg (fun z9 => z9.1) hq) (by with_reducible exact congrArg (fun z9 => zB_X5 (g 0) u z9.2 w) hq)
      · have c_1 : ¬ (days ≤ j) := fun h9 => c_1 ((nI_leI (a := days) (b := j) (by omega) (by omega)).mpr h9)
        have hq := hq.trans (if_neg c_1)
        refine lv_aload_n hx hb dX5_passes_9 rfl (lv_at hl 0 rfl) ?_
        refine zcVw (ci := 5) (n := 0) (c_X5_dayPasses l D g u M1 w v4_1) hx hb hml hown hts gX5_passes_X5_dayPasses rfl ⟨rfl, by decide, by decide, by decide⟩ ⟨Nat.le_of_ble_eq_true rfl, Nat.le_of_ble_eq_true rfl⟩ ⟨rfl, rfl⟩ hK hP hD rfl rfl rfl hS hl.1 rfl rfl (Nat.le_of_ble_eq_true rfl) ⟨Nat.zero_le _, Nat.zero_le _⟩ dX5_passes_10 (fun H1 locs hP1 hk1 hS => ?_)
        have hD := zD_addr (ws' := zB_X5 (g 0) u ((v_X5_dayPasses M1).2) w) hD (by simp only [zF, List.flatten_cons, List.flatten_nil, List.append_nil, List.map_append, List.map_cons, List.map_nil, zad_X0, zad_X1, zad_X2, zad_X3, zad_X4, zad_X5]); have hP := hP1
        clear hP1 hk1
        have hP : va_P D vwCl (zB_X5 (g 0) u ((v_X5_dayPasses M1).2) w) H1 := hP
        have hD : va_D (zA (zB_X5 (g 0) u M w)) (zB_X5 (g 0) u ((v_X5_dayPasses M1).2) w) := hD
        refine lv_istore (lv' := [(4, .int ((v_X5_dayPasses M1).1)), (0, .ref (u 0)), (1, .int (nI days)), (2, .int sm), (3, .int (nI j))]) hx hb dX5_passes_13 hl (by decide) rfl (fun ls hl => ?_)
        refine lv_iload_n hx hb dX5_passes_15 rfl (lv_at hl 3 rfl) ?_
        refine lv_iload hx hb dX5_passes_16 (lv_at hl 0 rfl) ?_
        refine lv_iadd hx hb dX5_passes_18 ?_
        refine lv_istore_n (lv' := [(2, .int (sm + ((v_X5_dayPasses M1).1))), (4, .int ((v_X5_dayPasses M1).1)), (0, .ref (u 0)), (1, .int (nI days)), (3, .int (nI j))]) hx hb dX5_passes_19 rfl hl (by decide) rfl (fun ls hl => ?_)
        refine lv_iinc (v := (nI (j + 1))) (lv' := [(3, .int (nI (j + 1))), (2, .int (sm + ((v_X5_dayPasses M1).1))), (4, .int ((v_X5_dayPasses M1).1)), (0, .ref (u 0)), (1, .int (nI days))]) hx hb dX5_passes_20 hl (k := 4) rfl (nI_add _ 1) (by decide) rfl (fun ls hl => ?_)
        refine lv_goto (tgt := 4) hx hb dX5_passes_23 (by decide) ?_
        exact ih4 (sm + ((v_X5_dayPasses M1).1)) (j + 1) ((v_X5_dayPasses M1).2) (by omega) (zdp_I v4_1) (by omega) _ _ hP hD hS ls (lv_sub hl [3, 4, 1, 0] rfl) hq
  exact L4 51 0 0 M (by omega) z0 (by omega) _ _ hP hD hS ls (lv_sub hl [2, 3, 1, 0] rfl) hq
def v_X5_pass (M : Nat → Nat → Int32) (dd : Int32) : Int32 × (Nat → Nat → Int32) := (if (v_X5_within dd 1 50) = true then (((v_X5_passes (v_X5_save (zU M 5 (fun _ => 0))) (Int32.toNatClampNeg dd)).1), (v_X5_passes (v_X5_save (zU M 5 (fun _ => 0))) (Int32.toNatClampNeg dd)).2) else (0, zU M 5 (fun _ => 1)))
set_option maxHeartbeats 400000 in
set_option maxRecDepth 100000 in
theorem c_X5_pass (l : Launch) (D : va_G) (g : Nat → ClassId) (u : Nat → Nat) (M : Nat → Nat → Int32) (w : Int64) (dd : Int32) (z0 : zI M) (z1 : vp_in (M 1 0) 7) : Wr l D (zT g) yX5_pass wsX5_pass (rmOf 6 136) [.ref (u 0), .int dd] (zB_X5 (g 0) u M w) (some (.int ((v_X5_pass M dd).1))) (zB_X5 (g 0) u ((v_X5_pass M dd).2) w) := by
  refine Wr.of (cc := cX5_pass) (maxL := 2) (ret := (some .int)) (by decide) rfl (Nat.le_of_ble_eq_true rfl) ?_
  intro p e s m below meth c ls hx hb hr hml hown hts hlocks hP hD hS hK hl
  have hown : s.vm.findClass RX5 = some m.cls := hown
  have hinX5 : ∀ w ∈ u_ws RX5 TX5 13, w ∈ wsX5_pass := fun _ h9 => (List.mem_cons_of_mem _ (List.mem_append_right _ h9))
  obtain ⟨q, hq⟩ : ∃ q : Int32 × (Nat → Nat → Int32), q = v_X5_pass M dd := ⟨_, rfl⟩
  rw [← hq]
  unfold v_X5_pass at hq
  have hl : lv_has ls 2 [(0, .ref (u 0)), (1, .int dd)] := hl
  refine lv_aload_n hx hb dX5_pass_0 rfl (lv_at hl 0 rfl) ?_
  refine lv_iload_n hx hb dX5_pass_1 rfl (lv_at hl 1 rfl) ?_
  refine lv_iconst (v := 1) hx hb dX5_pass_2 (by decide) ?_
  refine lv_bipush (v := 50) hx hb dX5_pass_3 (by decide) ?_
  refine zcSO (n := 3) (c_X5_within l D g dd 1 50) hx hb hml hown hts gX5_pass_X5_within rfl ⟨by decide, by decide, by decide⟩ ⟨Nat.le_of_ble_eq_true rfl, Nat.le_of_ble_eq_true rfl⟩ ⟨rfl, rfl⟩ hK (hP.sub [] rfl) hl.1 rfl rfl (Nat.le_of_ble_eq_true rfl) ⟨Nat.zero_le _, Nat.zero_le _⟩ dX5_pass_5 ?_
  refine zif_eq (tgt := 15) hx hb dX5_pass_8 (by decide) (fun c_2 => ?_) (fun c_2 => ?_)
  · have hq := hq.trans (zif_f c_2)
    refine lv_iconst (v := 1) hx hb dX5_pass_15 (by decide) ?_
    refine va_put (D := D) (ci := 5) (v := .int 1) (ty := .int) (C := RX5) (T := TX5) (N := 13) hx hb hts hinX5 tyX5 tyX5_ok nmX5 hown hK.1 hP hD hS 0 rfl rfl 5 (by decide) (hts (.fieldLink RX5 28 "SaltSharesModel" "thrown" "I") (List.mem_of_getElem? (i := 1) rfl)) (fun _ h9 => h9) rfl (by decide +kernel) rfl rfl (Nat.le_of_ble_eq_true rfl) dX5_pass_16 (fun H locs hP hD hS => ?_)
    have hP : va_P D vwCl (zB_X5 (g 0) u (zU M 5 (fun _ => 1)) w) H := hP
    have hD : va_D (zA (zB_X5 (g 0) u M w)) (zB_X5 (g 0) u (zU M 5 (fun _ => 1)) w) := hD
    refine lv_aload_n hx hb dX5_pass_19 rfl (lv_at hl 0 rfl) ?_
    refine va_get (D := D) (ci := 5) (v := .int 1) (C := RX5) (T := TX5) (N := 13) hx hb hts hinX5 hown hK.1 hP 0 rfl rfl 5 (by decide) (hts (.fieldLink RX5 28 "SaltSharesModel" "thrown" "I") (List.mem_of_getElem? (i := 1) rfl)) (fun _ h9 => h9) rfl dX5_pass_20 ?_
    refine lv_if_le (tgt := 28) hx hb dX5_pass_23 (by decide) (fun c_3 => ?_) (fun c_3 => ?_)
    · exact absurd c_3 (by decide)
    refine lv_iconst (v := 0) hx hb dX5_pass_26 (by decide) ?_
    exact zretw_i hx hb hr hlocks dX5_pass_27 hP hS (by with_reducible exact congrArg (fun z9 => z9.1) hq) (by with_reducible exact congrArg (fun z9 => zB_X5 (g 0) u z9.2 w) hq)
  · have hq := hq.trans (zif_t c_2)
    refine lv_iconst (v := 0) hx hb dX5_pass_11 (by decide) ?_
    refine lv_goto (tgt := 16) hx hb dX5_pass_12 (by decide) ?_
    refine va_put (D := D) (ci := 5) (v := .int 0) (ty := .int) (C := RX5) (T := TX5) (N := 13) hx hb hts hinX5 tyX5 tyX5_ok nmX5 hown hK.1 hP hD hS 0 rfl rfl 5 (by decide) (hts (.fieldLink RX5 28 "SaltSharesModel" "thrown" "I") (List.mem_of_getElem? (i := 1) rfl)) (fun _ h9 => h9) rfl (by decide +kernel) rfl rfl (Nat.le_of_ble_eq_true rfl) dX5_pass_16 (fun H locs hP hD hS => ?_)
    have hP : va_P D vwCl (zB_X5 (g 0) u (zU M 5 (fun _ => 0)) w) H := hP
    have hD : va_D (zA (zB_X5 (g 0) u M w)) (zB_X5 (g 0) u (zU M 5 (fun _ => 0)) w) := hD
    refine lv_aload_n hx hb dX5_pass_19 rfl (lv_at hl 0 rfl) ?_
    refine va_get (D := D) (ci := 5) (v := .int 0) (C := RX5) (T := TX5) (N := 13) hx hb hts hinX5 hown hK.1 hP 0 rfl rfl 5 (by decide) (hts (.fieldLink RX5 28 "SaltSharesModel" "thrown" "I") (List.mem_of_getElem? (i := 1) rfl)) (fun _ h9 => h9) rfl dX5_pass_20 ?_
    refine lv_if_le (tgt := 28) hx hb dX5_pass_23 (by decide) (fun c_4 => ?_) (fun c_4 => ?_)
    rotate_left
    · exact absurd c_4 (by decide)
    have w_5 := znat (zw50 (by with_reducible assumption))
    have w_5b := w_5.2
    have hl : lv_has ls 2 [(0, .ref (u 0)), (1, .int (nI (Int32.toNatClampNeg dd)))] := by rw [← w_5.1]; exact hl
    refine lv_aload_n hx hb dX5_pass_28 rfl (lv_at hl 0 rfl) ?_
    refine zcVw (ci := 5) (n := 0) (c_X5_save l D g u (zU M 5 (fun _ => 0)) w (zS_U z1)) hx hb hml hown hts gX5_pass_X5_save rfl ⟨rfl, by decide, by decide, by decide⟩ ⟨Nat.le_of_ble_eq_true rfl, Nat.le_of_ble_eq_true rfl⟩ ⟨rfl, rfl⟩ hK hP hD rfl rfl rfl hS hl.1 rfl rfl (Nat.le_of_ble_eq_true rfl) ⟨Nat.zero_le _, Nat.zero_le _⟩ dX5_pass_29 (fun H1 locs hP1 hk1 hS => ?_)
    have hD := zD_addr (ws' := zB_X5 (g 0) u (v_X5_save (zU M 5 (fun _ => 0))) w) hD (by simp only [zF, List.flatten_cons, List.flatten_nil, List.append_nil, List.map_append, List.map_cons, List.map_nil, zad_X0, zad_X1, zad_X2, zad_X3, zad_X4, zad_X5]); have hP := hP1
    clear hP1 hk1
    have hP : va_P D vwCl (zB_X5 (g 0) u (v_X5_save (zU M 5 (fun _ => 0))) w) H1 := hP
    have hD : va_D (zA (zB_X5 (g 0) u M w)) (zB_X5 (g 0) u (v_X5_save (zU M 5 (fun _ => 0))) w) := hD
    refine lv_aload_n hx hb dX5_pass_32 rfl (lv_at hl 0 rfl) ?_
    refine lv_iload_n hx hb dX5_pass_33 rfl (lv_at hl 1 rfl) ?_
    refine zcVw (ci := 5) (n := 1) (c_X5_passes l D g u (v_X5_save (zU M 5 (fun _ => 0))) w (Int32.toNatClampNeg dd) (zI_s5 z1 z0) (by omega)) hx hb hml hown hts gX5_pass_X5_passes rfl ⟨rfl, by decide, by decide, by decide⟩ ⟨Nat.le_of_ble_eq_true rfl, Nat.le_of_ble_eq_true rfl⟩ ⟨rfl, rfl⟩ hK hP hD rfl rfl rfl hS hl.1 rfl rfl (Nat.le_of_ble_eq_true rfl) ⟨Nat.zero_le _, Nat.zero_le _⟩ dX5_pass_34 (fun H1 locs hP1 hk1 hS => ?_)
    have hD := zD_addr (ws' := zB_X5 (g 0) u ((v_X5_passes (v_X5_save (zU M 5 (fun _ => 0))) (Int32.toNatClampNeg dd)).2) w) hD (by simp only [zF, List.flatten_cons, List.flatten_nil, List.append_nil, List.map_append, List.map_cons, List.map_nil, zad_X0, zad_X1, zad_X2, zad_X3, zad_X4, zad_X5]); have hP := hP1
    clear hP1 hk1
    have hP : va_P D vwCl (zB_X5 (g 0) u ((v_X5_passes (v_X5_save (zU M 5 (fun _ => 0))) (Int32.toNatClampNeg dd)).2) w) H1 := hP
    have hD : va_D (zA (zB_X5 (g 0) u M w)) (zB_X5 (g 0) u ((v_X5_passes (v_X5_save (zU M 5 (fun _ => 0))) (Int32.toNatClampNeg dd)).2) w) := hD
    exact zretw_i hx hb hr hlocks dX5_pass_37 hP hS (by with_reducible exact congrArg (fun z9 => z9.1) hq) (by with_reducible exact congrArg (fun z9 => zB_X5 (g 0) u z9.2 w) hq)
