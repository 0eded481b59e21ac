theorem zst_c {M : Nat → Nat → Int32} {b to : Nat} (hb : b < 8) (i : zI M) (hto : to ≤ 100) (hbr : b < (M 0 1).toNatClampNeg) (h : v_X5_canRaise M b (nI to) = true ∨ v_X5_canLower M b (nI to) = true) :
    v_X5_layBack (v_X5_setShare ((v_X5_keepShare M b).2) b to) b ((v_X5_keepShare M b).1) 0 = M 0 ∧ ∀ k, k ≠ 0 → k ≠ 11 → v_X5_layBack (v_X5_setShare ((v_X5_keepShare M b).2) b to) b ((v_X5_keepShare M b).1) k = M k := by
  have s := zssk hb i hbr hto h
  refine ⟨funext fun j => ?_, fun k h0 h11 => by rw [zlb_f _ hb _ h0, s.1 k h0, zks_f M b h11]⟩
  rw [zlb_0 _ hb]
  by_cases c : 53 ≤ j ∧ j < 353
  · rw [if_pos c, s.1 11 (by decide), zks_11 M b (by omega), show 53 + (j - 53) = j by omega]
  · rw [if_neg c]
    by_cases d : j = 5 + (6 * b) + 3
    · rw [if_pos d, zks_1, d]; rfl
    · rw [if_neg d]
      by_cases f : j < 53
      · rw [s.2.1 j f d, zks_f M b (by decide)]
      · rw [s.2.2.2.1 j (by omega), zks_f M b (by decide)]
theorem zst_all {M : Nat → Nat → Int32} {b to : Nat} (hb : b < 8) (i : zI M) (hto : to ≤ 100) (hbr : b < (M 0 1).toNatClampNeg) : (v_X5_sharedThen M b to).2 0 = M 0 ∧ ∀ k, k ≠ 0 → k ≠ 11 → (v_X5_sharedThen M b to).2 k = M k := by
  unfold v_X5_sharedThen
  by_cases c1 : v_X5_canRaise M b (nI to) = true
  · rw [if_pos c1]; exact zst_c hb i hto hbr (Or.inl c1)
  · rw [if_neg c1]
    by_cases c2 : v_X5_canLower M b (nI to) = true
    · rw [if_pos c2]; exact zst_c hb i hto hbr (Or.inr c2)
    · rw [if_neg c2]; exact ⟨rfl, fun _ _ _ => rfl⟩
theorem zst_row {M : Nat → Nat → Int32} {b to : Nat} (hb : b < 8) (i : zI M) (hto : to ≤ 100) (hbr : b < (M 0 1).toNatClampNeg) : (v_X5_sharedThen M b to).2 0 = M 0 := (zst_all hb i hto hbr).1
theorem zmsa {x : Int32} (h : v_X5_isSalt x = true) : vp_in x 10000 := zwithin_in (hi := 9999) h (by decide)
theorem zks_in {M : Nat → Nat → Int32} {b : Nat} (hb : b < 8) (i : zI M) : vp_in ((v_X5_keepShare M b).1) 101 := by rw [zks_1]; exact (i.2.1 b hb).2.1
theorem zssc {M : Nat → Nat → Int32} {b to : Nat} (hb : b < 8) (i : zI M) (hbr : b < (M 0 1).toNatClampNeg) (hto : to ≤ 100) (h : v_X5_canRaise M b (nI to) = true ∨ v_X5_canLower M b (nI to) = true) : zSS M (v_X5_setShare M b to) b to :=
  zss hb i hbr hto (zroom hb i hto h)
def v_X5_ifShare (M : Nat → Nat → Int32) (xx : Int32) (tt : Int32) : Int32 × (Nat → Nat → Int32) := (if (v_X5_isBread M xx) = true then (if (v_X5_isShare tt) = true then (((v_X5_sharedThen (zU M 5 (fun _ => 0)) (Int32.toNatClampNeg xx) (Int32.toNatClampNeg tt)).1), (v_X5_sharedThen (zU M 5 (fun _ => 0)) (Int32.toNatClampNeg xx) (Int32.toNatClampNeg tt)).2) else (0, zU M 5 (fun _ => 2))) else (0, zU M 5 (fun _ => 1)))
set_option maxHeartbeats 400000 in
set_option maxRecDepth 100000 in
theorem c_X5_ifShare (l : Launch) (D : va_G) (g : Nat → ClassId) (u : Nat → Nat) (M : Nat → Nat → Int32) (w : Int64) (xx : Int32) (tt : Int32) (z0 : zI M) : Wr l D (zT g) yX5_ifShare wsX5_ifShare (rmOf 6 135) [.ref (u 0), .int xx, .int tt] (zB_X5 (g 0) u M w) (some (.int ((v_X5_ifShare M xx tt).1))) (zB_X5 (g 0) u ((v_X5_ifShare M xx tt).2) w) := by
  refine Wr.of (cc := cX5_ifShare) (maxL := 3) (ret := (some .int)) (by decide) rfl (Nat.le_of_ble_eq_true rfl) ?_
  intro p e s m below meth c ls hx hb hr hml hown hts hlocks hP hD hS hK hl
  have hown : s.vm.findClass RX5 = some m.cls := hown
  have hinX5 : ∀ w ∈ u_ws RX5 TX5 13, w ∈ wsX5_ifShare := fun _ h9 => (List.mem_cons_of_mem _ (List.mem_append_right _ h9))
  obtain ⟨q, hq⟩ : ∃ q : Int32 × (Nat → Nat → Int32), q = v_X5_ifShare M xx tt := ⟨_, rfl⟩
  rw [← hq]
  unfold v_X5_ifShare at hq
  have hl : lv_has ls 3 [(0, .ref (u 0)), (1, .int xx), (2, .int tt)] := hl
  refine lv_aload_n hx hb dX5_ifShare_0 rfl (lv_at hl 0 rfl) ?_
  refine lv_aload_n hx hb dX5_ifShare_1 rfl (lv_at hl 0 rfl) ?_
  refine lv_iload_n hx hb dX5_ifShare_2 rfl (lv_at hl 1 rfl) ?_
  refine zcV (ci := 5) (n := 1) (c_X5_isBread l D g u M w xx) hx hb hml hown hts gX5_ifShare_X5_isBread rfl ⟨rfl, by decide, by decide, by decide⟩ ⟨Nat.le_of_ble_eq_true rfl, Nat.le_of_ble_eq_true rfl⟩ ⟨rfl, rfl⟩ hK hP rfl rfl rfl hl.1 rfl rfl (Nat.le_of_ble_eq_true rfl) ⟨Nat.zero_le _, Nat.zero_le _⟩ dX5_ifShare_3 ?_
  refine zif_ne (tgt := 13) hx hb dX5_ifShare_6 (by decide) (fun c_2 => ?_) (fun c_2 => ?_)
  · have hq := hq.trans (zif_t c_2)
    refine lv_iload_n hx hb dX5_ifShare_13 rfl (lv_at hl 2 rfl) ?_
    refine zcSO (n := 1) (c_X5_isShare l D g tt) hx hb hml hown hts gX5_ifShare_X5_isShare rfl ⟨by decide, by decide, by decide⟩ ⟨Nat.le_of_ble_eq_true rfl, Nat.le_of_ble_eq_true rfl⟩ ⟨rfl, rfl⟩ hK (hP.sub [] rfl) hl.1 rfl rfl (Nat.le_of_ble_eq_true rfl) ⟨Nat.zero_le _, Nat.zero_le _⟩ dX5_ifShare_14 ?_
    refine zif_eq (tgt := 24) hx hb dX5_ifShare_17 (by decide) (fun c_4 => ?_) (fun c_4 => ?_)
    · have hq := hq.trans (zif_f c_4)
      refine lv_iconst (v := 2) hx hb dX5_ifShare_24 (by decide) ?_
      refine va_put (D := D) (ci := 5) (v := .int 2) (ty := .int) (C := RX5) (T := TX5) (N := 13) hx hb hts hinX5 tyX5 tyX5_ok nmX5 hown hK.1 hP hD hS 0 rfl rfl 5 (by decide) (hts (.fieldLink RX5 28 "SaltSharesModel" "thrown" "I") (List.mem_of_getElem? (i := 1) rfl)) (fun _ h9 => h9) rfl (by decide +kernel) rfl rfl (Nat.le_of_ble_eq_true rfl) dX5_ifShare_25 (fun H locs hP hD hS => ?_)
      have hP : va_P D vwCl (zB_X5 (g 0) u (zU M 5 (fun _ => 2)) w) H := hP
      have hD : va_D (zA (zB_X5 (g 0) u M w)) (zB_X5 (g 0) u (zU M 5 (fun _ => 2)) w) := hD
      refine lv_aload_n hx hb dX5_ifShare_28 rfl (lv_at hl 0 rfl) ?_
      refine va_get (D := D) (ci := 5) (v := .int 2) (C := RX5) (T := TX5) (N := 13) hx hb hts hinX5 hown hK.1 hP 0 rfl rfl 5 (by decide) (hts (.fieldLink RX5 28 "SaltSharesModel" "thrown" "I") (List.mem_of_getElem? (i := 1) rfl)) (fun _ h9 => h9) rfl dX5_ifShare_29 ?_
      refine lv_if_le (tgt := 39) hx hb dX5_ifShare_32 (by decide) (fun c_5 => ?_) (fun c_5 => ?_)
      · exact absurd c_5 (by decide)
      refine lv_iconst (v := 0) hx hb dX5_ifShare_35 (by decide) ?_
      refine lv_goto (tgt := 45) hx hb dX5_ifShare_36 (by decide) ?_
      exact zretw_i hx hb hr hlocks dX5_ifShare_45 hP hS (congrArg (fun z9 => z9.1) hq) (by with_reducible exact congrArg (fun z9 => zB_X5 (g 0) u z9.2 w) hq)
    · have hq := hq.trans (zif_t c_4)
      refine lv_iconst (v := 0) hx hb dX5_ifShare_20 (by decide) ?_
      refine lv_goto (tgt := 25) hx hb dX5_ifShare_21 (by decide) ?_
      refine va_put (D := D) (ci := 5) (v := .int 0) (ty := .int) (C := RX5) (T := TX5) (N := 13) hx hb hts hinX5 tyX5 tyX5_ok nmX5 hown hK.1 hP hD hS 0 rfl rfl 5 (by decide) (hts (.fieldLink RX5 28 "SaltSharesModel" "thrown" "I") (List.mem_of_getElem? (i := 1) rfl)) (fun _ h9 => h9) rfl (by decide +kernel) rfl rfl (Nat.le_of_ble_eq_true rfl) dX5_ifShare_25 (fun H locs hP hD hS => ?_)
      have hP : va_P D vwCl (zB_X5 (g 0) u (zU M 5 (fun _ => 0)) w) H := hP
      have hD : va_D (zA (zB_X5 (g 0) u M w)) (zB_X5 (g 0) u (zU M 5 (fun _ => 0)) w) := hD
      refine lv_aload_n hx hb dX5_ifShare_28 rfl (lv_at hl 0 rfl) ?_
      refine va_get (D := D) (ci := 5) (v := .int 0) (C := RX5) (T := TX5) (N := 13) hx hb hts hinX5 hown hK.1 hP 0 rfl rfl 5 (by decide) (hts (.fieldLink RX5 28 "SaltSharesModel" "thrown" "I") (List.mem_of_getElem? (i := 1) rfl)) (fun _ h9 => h9) rfl dX5_ifShare_29 ?_
      refine lv_if_le (tgt := 39) hx hb dX5_ifShare_32 (by decide) (fun c_6 => ?_) (fun c_6 => ?_)
      rotate_left
      · exact absurd c_6 (by decide)
      have w_7 := znat (zmb (by with_reducible assumption) (zI_B z0))
      have w_7b := w_7.2
      have hl : lv_has ls 3 [(0, .ref (u 0)), (1, .int (nI (Int32.toNatClampNeg xx))), (2, .int tt)] := by rw [← w_7.1]; exact hl
      have w_8 := znat (zmsh (by with_reducible assumption))
      have w_8b := w_8.2
      have hl : lv_has ls 3 [(0, .ref (u 0)), (1, .int (nI (Int32.toNatClampNeg xx))), (2, .int (nI (Int32.toNatClampNeg tt)))] := by rw [← w_8.1]; exact hl
      refine lv_aload_n hx hb dX5_ifShare_39 rfl (lv_at hl 0 rfl) ?_
      refine lv_iload_n hx hb dX5_ifShare_40 rfl (lv_at hl 1 rfl) ?_
      refine lv_iload_n hx hb dX5_ifShare_41 rfl (lv_at hl 2 rfl) ?_
      refine zcVw (ci := 5) (n := 2) (c_X5_sharedThen l D g u (zU M 5 (fun _ => 0)) w (Int32.toNatClampNeg xx) (Int32.toNatClampNeg tt) (by omega) (zI_U z0) (by omega) (by rw [zU_n _ _ (by decide)]; exact zmb2 (by with_reducible assumption) (zI_B z0))) hx hb hml hown hts gX5_ifShare_X5_sharedThen rfl ⟨rfl, by decide, by decide, by decide⟩ ⟨Nat.le_of_ble_eq_true rfl, Nat.le_of_ble_eq_true rfl⟩ ⟨rfl, rfl⟩ hK hP hD rfl rfl rfl hS hl.1 rfl rfl (Nat.le_of_ble_eq_true rfl) ⟨Nat.zero_le _, Nat.zero_le _⟩ dX5_ifShare_42 (fun H1 locs hP1 hk1 hS => ?_)
      have hD := zD_addr (ws' := zB_X5 (g 0) u ((v_X5_sharedThen (zU M 5 (fun _ => 0)) (Int32.toNatClampNeg xx) (Int32.toNatClampNeg tt)).2) w) hD (by simp only [zF, List.flatten_cons, List.flatten_nil, List.append_nil, List.map_append, List.map_cons, List.map_nil, zad_X0, zad_X1, zad_X2, zad_X3, zad_X4, zad_X5]); have hP := hP1
      clear hP1 hk1
      have hP : va_P D vwCl (zB_X5 (g 0) u ((v_X5_sharedThen (zU M 5 (fun _ => 0)) (Int32.toNatClampNeg xx) (Int32.toNatClampNeg tt)).2) w) H1 := hP
      have hD : va_D (zA (zB_X5 (g 0) u M w)) (zB_X5 (g 0) u ((v_X5_sharedThen (zU M 5 (fun _ => 0)) (Int32.toNatClampNeg xx) (Int32.toNatClampNeg tt)).2) w) := hD
      exact zretw_i hx hb hr hlocks dX5_ifShare_45 hP hS (congrArg (fun z9 => z9.1) hq) (by with_reducible exact congrArg (fun z9 => zB_X5 (g 0) u z9.2 w) hq)
  · have hq := hq.trans (zif_f c_2)
    refine lv_iconst (v := 1) hx hb dX5_ifShare_9 (by decide) ?_
    refine lv_goto (tgt := 25) hx hb dX5_ifShare_10 (by decide) ?_
    refine va_put (D := D) (ci := 5) (v := .int 1) (ty := .int) (C := RX5) (T := TX5) (N := 13) hx hb hts hinX5 tyX5 tyX5_ok nmX5 hown hK.1 hP hD hS 0 rfl rfl 5 (by decide) (hts (.fieldLink RX5 28 "SaltSharesModel" "thrown" "I") (List.mem_of_getElem? (i := 1) rfl)) (fun _ h9 => h9) rfl (by decide +kernel) rfl rfl (Nat.le_of_ble_eq_true rfl) dX5_ifShare_25 (fun H locs hP hD hS => ?_)
    have hP : va_P D vwCl (zB_X5 (g 0) u (zU M 5 (fun _ => 1)) w) H := hP
    have hD : va_D (zA (zB_X5 (g 0) u M w)) (zB_X5 (g 0) u (zU M 5 (fun _ => 1)) w) := hD
    refine lv_aload_n hx hb dX5_ifShare_28 rfl (lv_at hl 0 rfl) ?_
    refine va_get (D := D) (ci := 5) (v := .int 1) (C := RX5) (T := TX5) (N := 13) hx hb hts hinX5 hown hK.1 hP 0 rfl rfl 5 (by decide) (hts (.fieldLink RX5 28 "SaltSharesModel" "thrown" "I") (List.mem_of_getElem? (i := 1) rfl)) (fun _ h9 => h9) rfl dX5_ifShare_29 ?_
    refine lv_if_le (tgt := 39) hx hb dX5_ifShare_32 (by decide) (fun c_10 => ?_) (fun c_10 => ?_)
    · exact absurd c_10 (by decide)
    refine lv_iconst (v := 0) hx hb dX5_ifShare_35 (by decide) ?_
    refine lv_goto (tgt := 45) hx hb dX5_ifShare_36 (by decide) ?_
    exact zretw_i hx hb hr hlocks dX5_ifShare_45 hP hS (congrArg (fun z9 => z9.1) hq) (by with_reducible exact congrArg (fun z9 => zB_X5 (g 0) u z9.2 w) hq)
def v_X5_leastShare_2 (b : Nat) (many : Int32) : Nat → Nat → (Nat → Nat → Int32) → Int32 × (Nat → Nat → Int32)
  | 0, _, _ => (0, (fun _ _ => 0))
  | n + 1, i, M1 => (if 100 < i then ((-1), M1) else (if (v_X5_isOpen M1 b) = true then (if ((v_X5_sharedThen M1 b i).1) < many then v_X5_leastShare_2 b many n (i + 1) ((v_X5_sharedThen M1 b i).2) else ((nI i), (v_X5_sharedThen M1 b i).2)) else ((-1), M1)))
def v_X5_leastShare (M : Nat → Nat → Int32) (b : Nat) (many : Int32) : Int32 × (Nat → Nat → Int32) := v_X5_leastShare_2 b many 102 0 M
set_option maxHeartbeats 400000 in
set_option maxRecDepth 100000 in
theorem c_X5_leastShare (l : Launch) (D : va_G) (g : Nat → ClassId) (u : Nat → Nat) (M : Nat → Nat → Int32) (w : Int64) (b : Nat) (many : Int32) (z0 : b < 8) (z1 : zI M) (z2 : b < Int32.toNatClampNeg (M 0 1)) : Wr l D (zT g) yX5_leastShare wsX5_leastShare (rmOf 6 135) [.ref (u 0), .int (nI b), .int many] (zB_X5 (g 0) u M w) (some (.int ((v_X5_leastShare M b many).1))) (zB_X5 (g 0) u ((v_X5_leastShare M b many).2) w) := by
  refine Wr.of (cc := cX5_leastShare) (maxL := 4) (ret := (some .int)) (by decide) rfl (Nat.le_of_ble_eq_true rfl) ?_
  intro p e s m below meth c ls hx hb hr hml hown hts hlocks hP hD hS hK hl
  have hown : s.vm.findClass RX5 = some m.cls := hown
  obtain ⟨q, hq⟩ : ∃ q : Int32 × (Nat → Nat → Int32), q = v_X5_leastShare M b many := ⟨_, rfl⟩
  rw [← hq]
  unfold v_X5_leastShare at hq
  have hl : lv_has ls 4 [(0, .ref (u 0)), (1, .int (nI b)), (2, .int many)] := hl
  refine lv_iconst (v := 0) hx hb dX5_leastShare_0 (by decide) ?_
  refine lv_istore_n (lv' := [(3, .int 0), (0, .ref (u 0)), (1, .int (nI b)), (2, .int many)]) hx hb dX5_leastShare_1 rfl hl (by decide) rfl (fun ls hl => ?_)
  have L2 : ∀ (n : Nat) (i : Nat) (M1 : Nat → Nat → Int32), (i ≤ 101) → (M1 0 = M 0) → 101 - i < n → ∀ (H : Heap) (locs : List Loc), va_P D vwCl (zB_X5 (g 0) u M1 w) H → va_D (zA (zB_X5 (g 0) u M w)) (zB_X5 (g 0) u M1 w) → va_S (zA (zB_X5 (g 0) u M w)) s.heap H locs → ∀ (ls : Array Slot), lv_has ls 4 [(0, .ref (u 0)), (1, .int (nI b)), (2, .int many), (3, .int (nI i))] → q = v_X5_leastShare_2 b many n i M1 → W p l e (rmOf 6 135) s m [.ref (u 0), .int (nI b), .int many].toArray below meth c H locs 0 0 (MQ below (zQw D (zB_X5 (g 0) u M w) (some (.int q.1)) (zB_X5 (g 0) u q.2 w)) [.ref (u 0), .int (nI b), .int many].toArray s 0 0 (zA (zB_X5 (g 0) u M w))) (F0 m 2 ls []) := by
    intro n
    induction n with
    | zero => intro i M1 v2_0 v2_1 hn; exact absurd hn (Nat.not_lt_zero _)
    | succ n ih2 =>
      intro i M1 v2_0 v2_1 hn2 H locs hP hD hS ls hl hq
      rw [v_X5_leastShare_2] at hq
      refine lv_iload_n hx hb dX5_leastShare_2 rfl (lv_at hl 3 rfl) ?_
      refine lv_bipush (v := 100) hx hb dX5_leastShare_3 (by decide) ?_
      refine lv_icmp_gt (tgt := 34) hx hb dX5_leastShare_5 (by decide) (fun c_1 => ?_) (fun c_1 => ?_)
      · have c_1 : 100 < i := (nI_ltI (a := 100) (b := i) (by omega) (by omega)).mp c_1
        have hq := hq.trans (if_pos c_1)
        refine lv_iconst (v := (-1)) hx hb dX5_leastShare_34 (by decide) ?_
        exact zretw_i hx hb hr hlocks dX5_leastShare_35 hP hS (congrArg (fun z9 => z9.1) hq) (by with_reducible exact congrArg (fun z9 => zB_X5 (g 0) u z9.2 w) hq)
      · have c_1 : ¬ (100 < i) := fun h9 => c_1 ((nI_ltI (a := 100) (b := i) (by omega) (by omega)).mpr h9)
        have hq := hq.trans (if_neg c_1)
        refine lv_aload_n hx hb dX5_leastShare_8 rfl (lv_at hl 0 rfl) ?_
        refine lv_iload_n hx hb dX5_leastShare_9 rfl (lv_at hl 1 rfl) ?_
        refine zcV (ci := 5) (n := 1) (c_X5_isOpen l D g u M1 w b z0) hx hb hml hown hts gX5_leastShare_X5_isOpen rfl ⟨rfl, by decide, by decide, by decide⟩ ⟨Nat.le_of_ble_eq_true rfl, Nat.le_of_ble_eq_true rfl⟩ ⟨rfl, rfl⟩ hK hP rfl rfl rfl hl.1 rfl rfl (Nat.le_of_ble_eq_true rfl) ⟨Nat.zero_le _, Nat.zero_le _⟩ dX5_leastShare_10 ?_
        refine zif_eq (tgt := 34) hx hb dX5_leastShare_13 (by decide) (fun c_3 => ?_) (fun c_3 => ?_)
        · have hq := hq.trans (zif_f c_3)
          refine lv_iconst (v := (-1)) hx hb dX5_leastShare_34 (by decide) ?_
          exact zretw_i hx hb hr hlocks dX5_leastShare_35 hP hS (congrArg (fun z9 => z9.1) hq) (by with_reducible exact congrArg (fun z9 => zB_X5 (g 0) u z9.2 w) hq)
        · have hq := hq.trans (zif_t c_3)
          refine lv_aload_n hx hb dX5_leastShare_16 rfl (lv_at hl 0 rfl) ?_
          refine lv_iload_n hx hb dX5_leastShare_17 rfl (lv_at hl 1 rfl) ?_
          refine lv_iload_n hx hb dX5_leastShare_18 rfl (lv_at hl 3 rfl) ?_
          refine zcVw (ci := 5) (n := 2) (c_X5_sharedThen l D g u M1 w b i z0 (zI_row v2_1 z1) (by omega) (by rw [v2_1]; exact z2)) hx hb hml hown hts gX5_leastShare_X5_sharedThen rfl ⟨rfl, by decide, by decide, by decide⟩ ⟨Nat.le_of_ble_eq_true rfl, Nat.le_of_ble_eq_true rfl⟩ ⟨rfl, rfl⟩ hK hP hD rfl rfl rfl hS hl.1 rfl rfl (Nat.le_of_ble_eq_true rfl) ⟨Nat.zero_le _, Nat.zero_le _⟩ dX5_leastShare_19 (fun H1 locs hP1 hk1 hS => ?_)
          have hD := zD_addr (ws' := zB_X5 (g 0) u ((v_X5_sharedThen M1 b i).2) w) hD (by simp only [zF, List.flatten_cons, List.flatten_nil, List.append_nil, List.map_append, List.map_cons, List.map_nil, zad_X0, zad_X1, zad_X2, zad_X3, zad_X4, zad_X5]); have hP := hP1
          clear hP1 hk1
          have hP : va_P D vwCl (zB_X5 (g 0) u ((v_X5_sharedThen M1 b i).2) w) H1 := hP
          have hD : va_D (zA (zB_X5 (g 0) u M w)) (zB_X5 (g 0) u ((v_X5_sharedThen M1 b i).2) w) := hD
          refine lv_iload_n hx hb dX5_leastShare_22 rfl (lv_at hl 2 rfl) ?_
          refine lv_icmp_lt (tgt := 28) hx hb dX5_leastShare_23 (by decide) (fun c_5 => ?_) (fun c_5 => ?_)
          · have c_5 : ((v_X5_sharedThen M1 b i).1) < many := c_5
            have hq := hq.trans (if_pos c_5)
            refine lv_iinc (v := (nI (i + 1))) (lv' := [(3, .int (nI (i + 1))), (0, .ref (u 0)), (1, .int (nI b)), (2, .int many)]) hx hb dX5_leastShare_28 hl (k := 3) rfl (nI_add _ 1) (by decide) rfl (fun ls hl => ?_)
            refine lv_goto (tgt := 2) hx hb dX5_leastShare_31 (by decide) ?_
            exact ih2 (i + 1) ((v_X5_sharedThen M1 b i).2) (by omega) ((zst_row z0 (zI_row v2_1 z1) (by omega) (by rw [v2_1]; exact z2)).trans v2_1) (by omega) _ _ hP hD hS ls (lv_sub hl [1, 2, 3, 0] rfl) hq
          · have c_5 : ¬ (((v_X5_sharedThen M1 b i).1) < many) := c_5
            have hq := hq.trans (if_neg c_5)
            refine lv_iload_n hx hb dX5_leastShare_26 rfl (lv_at hl 3 rfl) ?_
            exact zretw_i hx hb hr hlocks dX5_leastShare_27 hP hS (congrArg (fun z9 => z9.1) hq) (by with_reducible exact congrArg (fun z9 => zB_X5 (g 0) u z9.2 w) hq)
  exact L2 102 0 M (by decide) rfl (by decide) _ _ hP hD hS ls (lv_sub hl [1, 2, 3, 0] rfl) hq
def v_X5_shareFor (M : Nat → Nat → Int32) (xx : Int32) (many : Int32) : Int32 × (Nat → Nat → Int32) := (if (v_X5_isBread M xx) = true then (if (v_X5_within many 0 150) = true then (((v_X5_leastShare (zU M 5 (fun _ => 0)) (Int32.toNatClampNeg xx) many).1), (v_X5_leastShare (zU M 5 (fun _ => 0)) (Int32.toNatClampNeg xx) many).2) else (0, zU M 5 (fun _ => 2))) else (0, zU M 5 (fun _ => 1)))
set_option maxHeartbeats 400000 in
set_option maxRecDepth 100000 in
theorem c_X5_shareFor (l : Launch) (D : va_G) (g : Nat → ClassId) (u : Nat → Nat) (M : Nat → Nat → Int32) (w : Int64) (xx : Int32) (many : Int32) (z0 : zI M) : Wr l D (zT g) yX5_shareFor wsX5_shareFor (rmOf 7 158) [.ref (u 0), .int xx, .int many] (zB_X5 (g 0) u M w) (some (.int ((v_X5_shareFor M xx many).1))) (zB_X5 (g 0) u ((v_X5_shareFor M xx many).2) w) := by
  refine Wr.of (cc := cX5_shareFor) (maxL := 3) (ret := (some .int)) (by decide) rfl (Nat.le_of_ble_eq_true rfl) ?_
  intro p e s m below meth c ls hx hb hr hml hown hts hlocks hP hD hS hK hl
  have hown : s.vm.findClass RX5 = some m.cls := hown
  have hinX5 : ∀ w ∈ u_ws RX5 TX5 13, w ∈ wsX5_shareFor := fun _ h9 => (List.mem_cons_of_mem _ (List.mem_append_right _ h9))
  obtain ⟨q, hq⟩ : ∃ q : Int32 × (Nat → Nat → Int32), q = v_X5_shareFor M xx many := ⟨_, rfl⟩
  rw [← hq]
  unfold v_X5_shareFor at hq
  have hl : lv_has ls 3 [(0, .ref (u 0)), (1, .int xx), (2, .int many)] := hl
  refine lv_aload_n hx hb dX5_shareFor_0 rfl (lv_at hl 0 rfl) ?_
  refine lv_aload_n hx hb dX5_shareFor_1 rfl (lv_at hl 0 rfl) ?_
  refine lv_iload_n hx hb dX5_shareFor_2 rfl (lv_at hl 1 rfl) ?_
  refine zcV (ci := 5) (n := 1) (c_X5_isBread l D g u M w xx) hx hb hml hown hts gX5_shareFor_X5_isBread rfl ⟨rfl, by decide, by decide, by decide⟩ ⟨Nat.le_of_ble_eq_true rfl, Nat.le_of_ble_eq_true rfl⟩ ⟨rfl, rfl⟩ hK hP rfl rfl rfl hl.1 rfl rfl (Nat.le_of_ble_eq_true rfl) ⟨Nat.zero_le _, Nat.zero_le _⟩ dX5_shareFor_3 ?_
  refine zif_ne (tgt := 13) hx hb dX5_shareFor_6 (by decide) (fun c_2 => ?_) (fun c_2 => ?_)
  · have hq := hq.trans (zif_t c_2)
    refine lv_iload_n hx hb dX5_shareFor_13 rfl (lv_at hl 2 rfl) ?_
    refine lv_iconst (v := 0) hx hb dX5_shareFor_14 (by decide) ?_
    refine lv_sipush (v := 150) hx hb dX5_shareFor_15 (by decide) ?_
    refine zcSO (n := 3) (c_X5_within l D g many 0 150) hx hb hml hown hts gX5_shareFor_X5_within rfl ⟨by decide, by decide, by decide⟩ ⟨Nat.le_of_ble_eq_true rfl, Nat.le_of_ble_eq_true rfl⟩ ⟨rfl, rfl⟩ hK (hP.sub [] rfl) hl.1 rfl rfl (Nat.le_of_ble_eq_true rfl) ⟨Nat.zero_le _, Nat.zero_le _⟩ dX5_shareFor_18 ?_
    refine zif_eq (tgt := 28) hx hb dX5_shareFor_21 (by decide) (fun c_4 => ?_) (fun c_4 => ?_)
    · have hq := hq.trans (zif_f c_4)
      refine lv_iconst (v := 2) hx hb dX5_shareFor_28 (by decide) ?_
      refine va_put (D := D) (ci := 5) (v := .int 2) (ty := .int) (C := RX5) (T := TX5) (N := 13) hx hb hts hinX5 tyX5 tyX5_ok nmX5 hown hK.1 hP hD hS 0 rfl rfl 5 (by decide) (hts (.fieldLink RX5 28 "SaltSharesModel" "thrown" "I") (List.mem_of_getElem? (i := 1) rfl)) (fun _ h9 => h9) rfl (by decide +kernel) rfl rfl (Nat.le_of_ble_eq_true rfl) dX5_shareFor_29 (fun H locs hP hD hS => ?_)
      have hP : va_P D vwCl (zB_X5 (g 0) u (zU M 5 (fun _ => 2)) w) H := hP
      have hD : va_D (zA (zB_X5 (g 0) u M w)) (zB_X5 (g 0) u (zU M 5 (fun _ => 2)) w) := hD
      refine lv_aload_n hx hb dX5_shareFor_32 rfl (lv_at hl 0 rfl) ?_
      refine va_get (D := D) (ci := 5) (v := .int 2) (C := RX5) (T := TX5) (N := 13) hx hb hts hinX5 hown hK.1 hP 0 rfl rfl 5 (by decide) (hts (.fieldLink RX5 28 "SaltSharesModel" "thrown" "I") (List.mem_of_getElem? (i := 1) rfl)) (fun _ h9 => h9) rfl dX5_shareFor_33 ?_
      refine lv_if_le (tgt := 43) hx hb dX5_shareFor_36 (by decide) (fun c_5 => ?_) (fun c_5 => ?_)
      · exact absurd c_5 (by decide)
      refine lv_iconst (v := 0) hx hb dX5_shareFor_39 (by decide) ?_
      refine lv_goto (tgt := 49) hx hb dX5_shareFor_40 (by decide) ?_
      exact zretw_i hx hb hr hlocks dX5_shareFor_49 hP hS (congrArg (fun z9 => z9.1) hq) (by with_reducible exact congrArg (fun z9 => zB_X5 (g 0) u z9.2 w) hq)
    · have hq := hq.trans (zif_t c_4)
      refine lv_iconst (v := 0) hx hb dX5_shareFor_24 (by decide) ?_
      refine lv_goto (tgt := 29) hx hb dX5_shareFor_25 (by decide) ?_
      refine va_put (D := D) (ci := 5) (v := .int 0) (ty := .int) (C := RX5) (T := TX5) (N := 13) hx hb hts hinX5 tyX5 tyX5_ok nmX5 hown hK.1 hP hD hS 0 rfl rfl 5 (by decide) (hts (.fieldLink RX5 28 "SaltSharesModel" "thrown" "I") (List.mem_of_getElem? (i := 1) rfl)) (fun _ h9 => h9) rfl (by decide +kernel) rfl rfl (Nat.le_of_ble_eq_true rfl) dX5_shareFor_29 (fun H locs hP hD hS => ?_)
      have hP : va_P D vwCl (zB_X5 (g 0) u (zU M 5 (fun _ => 0)) w) H := hP
      have hD : va_D (zA (zB_X5 (g 0) u M w)) (zB_X5 (g 0) u (zU M 5 (fun _ => 0)) w) := hD
      refine lv_aload_n hx hb dX5_shareFor_32 rfl (lv_at hl 0 rfl) ?_
      refine va_get (D := D) (ci := 5) (v := .int 0) (C := RX5) (T := TX5) (N := 13) hx hb hts hinX5 hown hK.1 hP 0 rfl rfl 5 (by decide) (hts (.fieldLink RX5 28 "SaltSharesModel" "thrown" "I") (List.mem_of_getElem? (i := 1) rfl)) (fun _ h9 => h9) rfl dX5_shareFor_33 ?_
      refine lv_if_le (tgt := 43) hx hb dX5_shareFor_36 (by decide) (fun c_6 => ?_) (fun c_6 => ?_)
      rotate_left
      · exact absurd c_6 (by decide)
      have w_7 := znat (zmb (by with_reducible assumption) (zI_B z0))
      have w_7b := w_7.2
      have hl : lv_has ls 3 [(0, .ref (u 0)), (1, .int (nI (Int32.toNatClampNeg xx))), (2, .int many)] := by rw [← w_7.1]; exact hl
      refine lv_aload_n hx hb dX5_shareFor_43 rfl (lv_at hl 0 rfl) ?_
      refine lv_iload_n hx hb dX5_shareFor_44 rfl (lv_at hl 1 rfl) ?_
      refine lv_iload_n hx hb dX5_shareFor_45 rfl (lv_at hl 2 rfl) ?_
      refine zcVw (ci := 5) (n := 2) (c_X5_leastShare l D g u (zU M 5 (fun _ => 0)) w (Int32.toNatClampNeg xx) many (by omega) (zI_U z0) (by rw [zU_n _ _ (by decide)]; exact zmb2 (by with_reducible assumption) (zI_B z0))) hx hb hml hown hts gX5_shareFor_X5_leastShare rfl ⟨rfl, by decide, by decide, by decide⟩ ⟨Nat.le_of_ble_eq_true rfl, Nat.le_of_ble_eq_true rfl⟩ ⟨rfl, rfl⟩ hK hP hD rfl rfl rfl hS hl.1 rfl rfl (Nat.le_of_ble_eq_true rfl) ⟨Nat.zero_le _, Nat.zero_le _⟩ dX5_shareFor_46 (fun H1 locs hP1 hk1 hS => ?_)
      have hD := zD_addr (ws' := zB_X5 (g 0) u ((v_X5_leastShare (zU M 5 (fun _ => 0)) (Int32.toNatClampNeg xx) many).2) w) hD (by simp only [zF, List.flatten_cons, List.flatten_nil, List.append_nil, List.map_append, List.map_cons, List.map_nil, zad_X0, zad_X1, zad_X2, zad_X3, zad_X4, zad_X5]); have hP := hP1
      clear hP1 hk1
      have hP : va_P D vwCl (zB_X5 (g 0) u ((v_X5_leastShare (zU M 5 (fun _ => 0)) (Int32.toNatClampNeg xx) many).2) w) H1 := hP
      have hD : va_D (zA (zB_X5 (g 0) u M w)) (zB_X5 (g 0) u ((v_X5_leastShare (zU M 5 (fun _ => 0)) (Int32.toNatClampNeg xx) many).2) w) := hD
      exact zretw_i hx hb hr hlocks dX5_shareFor_49 hP hS (congrArg (fun z9 => z9.1) hq) (by with_reducible exact congrArg (fun z9 => zB_X5 (g 0) u z9.2 w) hq)
  · have hq := hq.trans (zif_f c_2)
    refine lv_iconst (v := 1) hx hb dX5_shareFor_9 (by decide) ?_
    refine lv_goto (tgt := 29) hx hb dX5_shareFor_10 (by decide) ?_
    refine va_put (D := D) (ci := 5) (v := .int 1) (ty := .int) (C := RX5) (T := TX5) (N := 13) hx hb hts hinX5 tyX5 tyX5_ok nmX5 hown hK.1 hP hD hS 0 rfl rfl 5 (by decide) (hts (.fieldLink RX5 28 "SaltSharesModel" "thrown" "I") (List.mem_of_getElem? (i := 1) rfl)) (fun _ h9 => h9) rfl (by decide +kernel) rfl rfl (Nat.le_of_ble_eq_true rfl) dX5_shareFor_29 (fun H locs hP hD hS => ?_)
    have hP : va_P D vwCl (zB_X5 (g 0) u (zU M 5 (fun _ => 1)) w) H := hP
    have hD : va_D (zA (zB_X5 (g 0) u M w)) (zB_X5 (g 0) u (zU M 5 (fun _ => 1)) w) := hD
    refine lv_aload_n hx hb dX5_shareFor_32 rfl (lv_at hl 0 rfl) ?_
    refine va_get (D := D) (ci := 5) (v := .int 1) (C := RX5) (T := TX5) (N := 13) hx hb hts hinX5 hown hK.1 hP 0 rfl rfl 5 (by decide) (hts (.fieldLink RX5 28 "SaltSharesModel" "thrown" "I") (List.mem_of_getElem? (i := 1) rfl)) (fun _ h9 => h9) rfl dX5_shareFor_33 ?_
    refine lv_if_le (tgt := 43) hx hb dX5_shareFor_36 (by decide) (fun c_9 => ?_) (fun c_9 => ?_)
    · exact absurd c_9 (by decide)
    refine lv_iconst (v := 0) hx hb dX5_shareFor_39 (by decide) ?_
    refine lv_goto (tgt := 49) hx hb dX5_shareFor_40 (by decide) ?_
    exact zretw_i hx hb hr hlocks dX5_shareFor_49 hP hS (congrArg (fun z9 => z9.1) hq) (by with_reducible exact congrArg (fun z9 => zB_X5 (g 0) u z9.2 w) hq)
def v_X5_saltFor_26 (M : Nat → Nat → Int32) (b : Nat) (sal : Nat) : Nat → Int32 → Int32 → Nat → (Nat → Nat → Int32) → Int32 × (Nat → Nat → Int32)
  | 0, _, _, _, _ => (0, (fun _ _ => 0))
  | n + 1, best, most, x, M1 => (if sal + 20 ≤ x then (best, v_X5_put M1 b 2 (v_X5_of M b 2)) else (if (v_X5_isSalt (nI x)) = true then (if (v_X5_eaters (v_X5_put M1 b 2 (nI x)) b) ≤ most then (if (v_X5_eaters (v_X5_put M1 b 2 (nI x)) b) ≤ most then v_X5_saltFor_26 M b sal n best most (x + 1) (v_X5_put M1 b 2 (nI x)) else v_X5_saltFor_26 M b sal n best (v_X5_eaters (v_X5_put M1 b 2 (nI x)) b) (x + 1) (v_X5_put M1 b 2 (nI x))) else (if (v_X5_eaters (v_X5_put M1 b 2 (nI x)) b) ≤ most then v_X5_saltFor_26 M b sal n (nI x) most (x + 1) (v_X5_put M1 b 2 (nI x)) else v_X5_saltFor_26 M b sal n (nI x) (v_X5_eaters (v_X5_put M1 b 2 (nI x)) b) (x + 1) (v_X5_put M1 b 2 (nI x)))) else (best, v_X5_put M1 b 2 (v_X5_of M b 2))))
def v_X5_saltFor (M : Nat → Nat → Int32) (b : Nat) (sal : Nat) : Int32 × (Nat → Nat → Int32) := (if (v_X5_hasOwnSalt M b) = true then v_X5_saltFor_26 M b sal 21 (-1) (-1) sal M else ((-1), M))
set_option maxHeartbeats 400000 in
set_option maxRecDepth 100000 in
theorem c_X5_saltFor (l : Launch) (D : va_G) (g : Nat → ClassId) (u : Nat → Nat) (M : Nat → Nat → Int32) (w : Int64) (b : Nat) (sal : Nat) (z0 : b < 8) (z1 : zI M) (z2 : sal ≤ 9999) : Wr l D (zT g) yX5_saltFor wsX5_saltFor (rmOf 5 111) [.ref (u 0), .int (nI b), .int (nI sal)] (zB_X5 (g 0) u M w) (some (.int ((v_X5_saltFor M b sal).1))) (zB_X5 (g 0) u ((v_X5_saltFor M b sal).2) w) := by
  refine Wr.of (cc := cX5_saltFor) (maxL := 8) (ret := (some .int)) (by decide) rfl (Nat.le_of_ble_eq_true rfl) ?_
  intro p e s m below meth c ls hx hb hr hml hown hts hlocks hP hD hS hK hl
  have hown : s.vm.findClass RX5 = some m.cls := hown
  obtain ⟨q, hq⟩ : ∃ q : Int32 × (Nat → Nat → Int32), q = v_X5_saltFor M b sal := ⟨_, rfl⟩
  rw [← hq]
  unfold v_X5_saltFor at hq
  have hl : lv_has ls 8 [(0, .ref (u 0)), (1, .int (nI b)), (2, .int (nI sal))] := hl
  refine lv_aload_n hx hb dX5_saltFor_0 rfl (lv_at hl 0 rfl) ?_
  refine lv_iload_n hx hb dX5_saltFor_1 rfl (lv_at hl 1 rfl) ?_
  refine zcV (ci := 5) (n := 1) (c_X5_hasOwnSalt l D g u M w b z0) hx hb hml hown hts gX5_saltFor_X5_hasOwnSalt rfl ⟨rfl, by decide, by decide, by decide⟩ ⟨Nat.le_of_ble_eq_true rfl, Nat.le_of_ble_eq_true rfl⟩ ⟨rfl, rfl⟩ hK hP rfl rfl rfl hl.1 rfl rfl (Nat.le_of_ble_eq_true rfl) ⟨Nat.zero_le _, Nat.zero_le _⟩ dX5_saltFor_2 ?_
  refine zif_ne (tgt := 10) hx hb dX5_saltFor_5 (by decide) (fun c_2 => ?_) (fun c_2 => ?_)
  · have hq := hq.trans (zif_t c_2)
    refine lv_aload_n hx hb dX5_saltFor_10 rfl (lv_at hl 0 rfl) ?_
    refine lv_iload_n hx hb dX5_saltFor_11 rfl (lv_at hl 1 rfl) ?_
    refine lv_iconst (v := 2) hx hb dX5_saltFor_12 (by decide) ?_
    refine zcV (ci := 5) (n := 2) (c_X5_of l D g u M w b 2 (by omega)) hx hb hml hown hts gX5_saltFor_X5_of rfl ⟨rfl, by decide, by decide, by decide⟩ ⟨Nat.le_of_ble_eq_true rfl, Nat.le_of_ble_eq_true rfl⟩ ⟨rfl, rfl⟩ hK hP rfl rfl rfl hl.1 rfl rfl (Nat.le_of_ble_eq_true rfl) ⟨Nat.zero_le _, Nat.zero_le _⟩ dX5_saltFor_13 ?_
    refine lv_istore_n (lv' := [(3, .int (v_X5_of M b 2)), (0, .ref (u 0)), (1, .int (nI b)), (2, .int (nI sal))]) hx hb dX5_saltFor_16 rfl hl (by decide) rfl (fun ls hl => ?_)
    refine lv_iconst (v := (-1)) hx hb dX5_saltFor_17 (by decide) ?_
    refine lv_istore (lv' := [(4, .int (-1)), (3, .int (v_X5_of M b 2)), (0, .ref (u 0)), (1, .int (nI b)), (2, .int (nI sal))]) hx hb dX5_saltFor_18 hl (by decide) rfl (fun ls hl => ?_)
    refine lv_iconst (v := (-1)) hx hb dX5_saltFor_20 (by decide) ?_
    refine lv_istore (lv' := [(5, .int (-1)), (4, .int (-1)), (3, .int (v_X5_of M b 2)), (0, .ref (u 0)), (1, .int (nI b)), (2, .int (nI sal))]) hx hb dX5_saltFor_21 hl (by decide) rfl (fun ls hl => ?_)
    refine lv_iload_n hx hb dX5_saltFor_23 rfl (lv_at hl 5 rfl) ?_
    refine lv_istore (lv' := [(6, .int (nI sal)), (5, .int (-1)), (4, .int (-1)), (3, .int (v_X5_of M b 2)), (0, .ref (u 0)), (1, .int (nI b)), (2, .int (nI sal))]) hx hb dX5_saltFor_24 hl (by decide) rfl (fun ls hl => ?_)
    have L26 : ∀ (n : Nat) (best : Int32) (most : Int32) (x : Nat) (M1 : Nat → Nat → Int32), (sal ≤ x) → (x ≤ sal + 20) → (zI M1) → sal + 20 - x < n → ∀ (H : Heap) (locs : List Loc), va_P D vwCl (zB_X5 (g 0) u M1 w) H → va_D (zA (zB_X5 (g 0) u M w)) (zB_X5 (g 0) u M1 w) → va_S (zA (zB_X5 (g 0) u M w)) s.heap H locs → ∀ (ls : Array Slot), lv_has ls 8 [(0, .ref (u 0)), (1, .int (nI b)), (2, .int (nI sal)), (3, .int (v_X5_of M b 2)), (4, .int best), (5, .int most), (6, .int (nI x))] → q = v_X5_saltFor_26 M b sal n best most x M1 → W p l e (rmOf 5 111) s m [.ref (u 0), .int (nI b), .int (nI sal)].toArray below meth c H locs 0 0 (MQ below (zQw D (zB_X5 (g 0) u M w) (some (.int q.1)) (zB_X5 (g 0) u q.2 w)) [.ref (u 0), .int (nI b), .int (nI sal)].toArray s 0 0 (zA (zB_X5 (g 0) u M w))) (F0 m 26 ls []) := by
      intro n
      induction n with
      | zero => intro best most x M1 v26_0 v26_1 v26_2 hn; exact absurd hn (Nat.not_lt_zero _)
      | succ n ih26 =>
        intro best most x M1 v26_0 v26_1 v26_2 hn26 H locs hP hD hS ls hl hq
        rw [v_X5_saltFor_26] at hq
        refine lv_iload hx hb dX5_saltFor_26 (lv_at hl 6 rfl) ?_
        refine lv_iload_n hx hb dX5_saltFor_28 rfl (lv_at hl 2 rfl) ?_
        refine lv_bipush (v := 20) hx hb dX5_saltFor_29 (by decide) ?_
        refine lv_iadd hx hb dX5_saltFor_31 ?_
        refine lv_is (show (nI sal) + 20 = (nI (sal + 20)) from nI_add sal 20) ?_
        refine lv_icmp_ge (tgt := 96) hx hb dX5_saltFor_32 (by decide) (fun c_4 => ?_) (fun c_4 => ?_)
        · have c_4 : sal + 20 ≤ x := (nI_leI (a := sal + 20) (b := x) (by omega) (by omega)).mp c_4
          have hq := hq.trans (if_pos c_4)
          refine lv_aload_n hx hb dX5_saltFor_96 rfl (lv_at hl 0 rfl) ?_
          refine lv_iload_n hx hb dX5_saltFor_97 rfl (lv_at hl 1 rfl) ?_
          refine lv_iconst (v := 2) hx hb dX5_saltFor_98 (by decide) ?_
          refine lv_iload_n hx hb dX5_saltFor_99 rfl (lv_at hl 3 rfl) ?_
          refine zcVw (ci := 5) (n := 3) (c_X5_put l D g u M1 w b 2 (v_X5_of M b 2) (by omega)) hx hb hml hown hts gX5_saltFor_X5_put rfl ⟨rfl, by decide, by decide, by decide⟩ ⟨Nat.le_of_ble_eq_true rfl, Nat.le_of_ble_eq_true rfl⟩ ⟨rfl, rfl⟩ hK hP hD rfl rfl rfl hS hl.1 rfl rfl (Nat.le_of_ble_eq_true rfl) ⟨Nat.zero_le _, Nat.zero_le _⟩ dX5_saltFor_100 (fun H1 locs hP1 hk1 hS => ?_)
          have hD := zD_addr (ws' := zB_X5 (g 0) u (v_X5_put M1 b 2 (v_X5_of M b 2)) w) hD (by simp only [zF, List.flatten_cons, List.flatten_nil, List.append_nil, List.map_append, List.map_cons, List.map_nil, zad_X0, zad_X1, zad_X2, zad_X3, zad_X4, zad_X5]); have hP := hP1
          clear hP1 hk1
          have hP : va_P D vwCl (zB_X5 (g 0) u (v_X5_put M1 b 2 (v_X5_of M b 2)) w) H1 := hP
          have hD : va_D (zA (zB_X5 (g 0) u M w)) (zB_X5 (g 0) u (v_X5_put M1 b 2 (v_X5_of M b 2)) w) := hD
          refine lv_iload hx hb dX5_saltFor_103 (lv_at hl 4 rfl) ?_
          exact zretw_i hx hb hr hlocks dX5_saltFor_105 hP hS (congrArg (fun z9 => z9.1) hq) (by with_reducible exact congrArg (fun z9 => zB_X5 (g 0) u z9.2 w) hq)
        · have c_4 : ¬ (sal + 20 ≤ x) := fun h9 => c_4 ((nI_leI (a := sal + 20) (b := x) (by omega) (by omega)).mpr h9)
          have hq := hq.trans (if_neg c_4)
          refine lv_iload hx hb dX5_saltFor_35 (lv_at hl 6 rfl) ?_
          refine zcSO (n := 1) (c_X5_isSalt l D g (nI x)) hx hb hml hown hts gX5_saltFor_X5_isSalt rfl ⟨by decide, by decide, by decide⟩ ⟨Nat.le_of_ble_eq_true rfl, Nat.le_of_ble_eq_true rfl⟩ ⟨rfl, rfl⟩ hK (hP.sub [] rfl) hl.1 rfl rfl (Nat.le_of_ble_eq_true rfl) ⟨Nat.zero_le _, Nat.zero_le _⟩ dX5_saltFor_37 ?_
          refine zif_eq (tgt := 96) hx hb dX5_saltFor_40 (by decide) (fun c_7 => ?_) (fun c_7 => ?_)
          · have hq := hq.trans (zif_f c_7)
            refine lv_aload_n hx hb dX5_saltFor_96 rfl (lv_at hl 0 rfl) ?_
            refine lv_iload_n hx hb dX5_saltFor_97 rfl (lv_at hl 1 rfl) ?_
            refine lv_iconst (v := 2) hx hb dX5_saltFor_98 (by decide) ?_
            refine lv_iload_n hx hb dX5_saltFor_99 rfl (lv_at hl 3 rfl) ?_
            refine zcVw (ci := 5) (n := 3) (c_X5_put l D g u M1 w b 2 (v_X5_of M b 2) (by omega)) hx hb hml hown hts gX5_saltFor_X5_put rfl ⟨rfl, by decide, by decide, by decide⟩ ⟨Nat.le_of_ble_eq_true rfl, Nat.le_of_ble_eq_true rfl⟩ ⟨rfl, rfl⟩ hK hP hD rfl rfl rfl hS hl.1 rfl rfl (Nat.le_of_ble_eq_true rfl) ⟨Nat.zero_le _, Nat.zero_le _⟩ dX5_saltFor_100 (fun H1 locs hP1 hk1 hS => ?_)
            have hD := zD_addr (ws' := zB_X5 (g 0) u (v_X5_put M1 b 2 (v_X5_of M b 2)) w) hD (by simp only [zF, List.flatten_cons, List.flatten_nil, List.append_nil, List.map_append, List.map_cons, List.map_nil, zad_X0, zad_X1, zad_X2, zad_X3, zad_X4, zad_X5]); have hP := hP1
            clear hP1 hk1
            have hP : va_P D vwCl (zB_X5 (g 0) u (v_X5_put M1 b 2 (v_X5_of M b 2)) w) H1 := hP
            have hD : va_D (zA (zB_X5 (g 0) u M w)) (zB_X5 (g 0) u (v_X5_put M1 b 2 (v_X5_of M b 2)) w) := hD
            refine lv_iload hx hb dX5_saltFor_103 (lv_at hl 4 rfl) ?_
            exact zretw_i hx hb hr hlocks dX5_saltFor_105 hP hS (congrArg (fun z9 => z9.1) hq) (by with_reducible exact congrArg (fun z9 => zB_X5 (g 0) u z9.2 w) hq)
          · have hq := hq.trans (zif_t c_7)
            refine lv_aload_n hx hb dX5_saltFor_43 rfl (lv_at hl 0 rfl) ?_
            refine lv_iload_n hx hb dX5_saltFor_44 rfl (lv_at hl 1 rfl) ?_
            refine lv_iconst (v := 2) hx hb dX5_saltFor_45 (by decide) ?_
            refine lv_iload hx hb dX5_saltFor_46 (lv_at hl 6 rfl) ?_
            refine zcVw (ci := 5) (n := 3) (c_X5_put l D g u M1 w b 2 (nI x) (by omega)) hx hb hml hown hts gX5_saltFor_X5_put rfl ⟨rfl, by decide, by decide, by decide⟩ ⟨Nat.le_of_ble_eq_true rfl, Nat.le_of_ble_eq_true rfl⟩ ⟨rfl, rfl⟩ hK hP hD rfl rfl rfl hS hl.1 rfl rfl (Nat.le_of_ble_eq_true rfl) ⟨Nat.zero_le _, Nat.zero_le _⟩ dX5_saltFor_48 (fun H1 locs hP1 hk1 hS => ?_)
            have hD := zD_addr (ws' := zB_X5 (g 0) u (v_X5_put M1 b 2 (nI x)) w) hD (by simp only [zF, List.flatten_cons, List.flatten_nil, List.append_nil, List.map_append, List.map_cons, List.map_nil, zad_X0, zad_X1, zad_X2, zad_X3, zad_X4, zad_X5]); have hP := hP1
            clear hP1 hk1
            have hP : va_P D vwCl (zB_X5 (g 0) u (v_X5_put M1 b 2 (nI x)) w) H1 := hP
            have hD : va_D (zA (zB_X5 (g 0) u M w)) (zB_X5 (g 0) u (v_X5_put M1 b 2 (nI x)) w) := hD
            refine lv_aload_n hx hb dX5_saltFor_51 rfl (lv_at hl 0 rfl) ?_
            refine lv_iload_n hx hb dX5_saltFor_52 rfl (lv_at hl 1 rfl) ?_
            refine zcV (ci := 5) (n := 1) (c_X5_eaters l D g u (v_X5_put M1 b 2 (nI x)) w b z0 (zI_G (zI_put (k := 2) z0 (by decide) v26_2))) hx hb hml hown hts gX5_saltFor_X5_eaters rfl ⟨rfl, by decide, by decide, by decide⟩ ⟨Nat.le_of_ble_eq_true rfl, Nat.le_of_ble_eq_true rfl⟩ ⟨rfl, rfl⟩ hK hP rfl rfl rfl hl.1 rfl rfl (Nat.le_of_ble_eq_true rfl) ⟨Nat.zero_le _, Nat.zero_le _⟩ dX5_saltFor_53 ?_
            refine lv_istore (lv' := [(7, .int (v_X5_eaters (v_X5_put M1 b 2 (nI x)) b)), (0, .ref (u 0)), (1, .int (nI b)), (2, .int (nI sal)), (3, .int (v_X5_of M b 2)), (4, .int best), (5, .int most), (6, .int (nI x))]) hx hb dX5_saltFor_56 hl (by decide) rfl (fun ls hl => ?_)
            refine lv_iload hx hb dX5_saltFor_58 (lv_at hl 0 rfl) ?_
            refine lv_iload hx hb dX5_saltFor_60 (lv_at hl 6 rfl) ?_
            refine lv_icmp_le (tgt := 70) hx hb dX5_saltFor_62 (by decide) (fun c_11 => ?_) (fun c_11 => ?_)
            · have c_11 : (v_X5_eaters (v_X5_put M1 b 2 (nI x)) b) ≤ most := c_11
              have hq := hq.trans (if_pos c_11)
              refine lv_iload hx hb dX5_saltFor_70 (lv_at hl 5 rfl) ?_
              refine lv_istore (lv' := [(4, .int best), (7, .int (v_X5_eaters (v_X5_put M1 b 2 (nI x)) b)), (0, .ref (u 0)), (1, .int (nI b)), (2, .int (nI sal)), (3, .int (v_X5_of M b 2)), (5, .int most), (6, .int (nI x))]) hx hb dX5_saltFor_72 hl (by decide) rfl (fun ls hl => ?_)
              refine lv_iload hx hb dX5_saltFor_74 (lv_at hl 1 rfl) ?_
              refine lv_iload hx hb dX5_saltFor_76 (lv_at hl 6 rfl) ?_
              refine lv_icmp_le (tgt := 86) hx hb dX5_saltFor_78 (by decide) (fun c_12 => ?_) (fun c_12 => ?_)
              · have c_12 : (v_X5_eaters (v_X5_put M1 b 2 (nI x)) b) ≤ most := c_12
                have hq := hq.trans (if_pos c_12)
                refine lv_iload hx hb dX5_saltFor_86 (lv_at hl 6 rfl) ?_
                refine lv_istore (lv' := [(5, .int most), (4, .int best), (7, .int (v_X5_eaters (v_X5_put M1 b 2 (nI x)) b)), (0, .ref (u 0)), (1, .int (nI b)), (2, .int (nI sal)), (3, .int (v_X5_of M b 2)), (6, .int (nI x))]) hx hb dX5_saltFor_88 hl (by decide) rfl (fun ls hl => ?_)
                refine lv_iinc (v := (nI (x + 1))) (lv' := [(6, .int (nI (x + 1))), (5, .int most), (4, .int best), (7, .int (v_X5_eaters (v_X5_put M1 b 2 (nI x)) b)), (0, .ref (u 0)), (1, .int (nI b)), (2, .int (nI sal)), (3, .int (v_X5_of M b 2))]) hx hb dX5_saltFor_90 hl (k := 7) rfl (nI_add _ 1) (by decide) rfl (fun ls hl => ?_)
                refine lv_goto (tgt := 26) hx hb dX5_saltFor_93 (by decide) ?_
                exact ih26 best most (x + 1) (v_X5_put M1 b 2 (nI x)) (by omega) (by omega) (zI_put (k := 2) z0 (by decide) v26_2) (by omega) _ _ hP hD hS ls (lv_sub hl [4, 5, 6, 7, 2, 1, 0] rfl) hq
              · have c_12 : ¬ ((v_X5_eaters (v_X5_put M1 b 2 (nI x)) b) ≤ most) := c_12
                have hq := hq.trans (if_neg c_12)
                refine lv_iload hx hb dX5_saltFor_81 (lv_at hl 1 rfl) ?_
                refine lv_goto (tgt := 88) hx hb dX5_saltFor_83 (by decide) ?_
                refine lv_istore (lv' := [(5, .int (v_X5_eaters (v_X5_put M1 b 2 (nI x)) b)), (4, .int best), (7, .int (v_X5_eaters (v_X5_put M1 b 2 (nI x)) b)), (0, .ref (u 0)), (1, .int (nI b)), (2, .int (nI sal)), (3, .int (v_X5_of M b 2)), (6, .int (nI x))]) hx hb dX5_saltFor_88 hl (by decide) rfl (fun ls hl => ?_)
                refine lv_iinc (v := (nI (x + 1))) (lv' := [(6, .int (nI (x + 1))), (5, .int (v_X5_eaters (v_X5_put M1 b 2 (nI x)) b)), (4, .int best), (7, .int (v_X5_eaters (v_X5_put M1 b 2 (nI x)) b)), (0, .ref (u 0)), (1, .int (nI b)), (2, .int (nI sal)), (3, .int (v_X5_of M b 2))]) hx hb dX5_saltFor_90 hl (k := 7) rfl (nI_add _ 1) (by decide) rfl (fun ls hl => ?_)
                refine lv_goto (tgt := 26) hx hb dX5_saltFor_93 (by decide) ?_
                exact ih26 best (v_X5_eaters (v_X5_put M1 b 2 (nI x)) b) (x + 1) (v_X5_put M1 b 2 (nI x)) (by omega) (by omega) (zI_put (k := 2) z0 (by decide) v26_2) (by omega) _ _ hP hD hS ls (lv_sub hl [4, 5, 6, 7, 2, 1, 0] rfl) hq
            · have c_11 : ¬ ((v_X5_eaters (v_X5_put M1 b 2 (nI x)) b) ≤ most) := c_11
              have hq := hq.trans (if_neg c_11)
              refine lv_iload hx hb dX5_saltFor_65 (lv_at hl 7 rfl) ?_
              refine lv_goto (tgt := 72) hx hb dX5_saltFor_67 (by decide) ?_
              refine lv_istore (lv' := [(4, .int (nI x)), (7, .int (v_X5_eaters (v_X5_put M1 b 2 (nI x)) b)), (0, .ref (u 0)), (1, .int (nI b)), (2, .int (nI sal)), (3, .int (v_X5_of M b 2)), (5, .int most), (6, .int (nI x))]) hx hb dX5_saltFor_72 hl (by decide) rfl (fun ls hl => ?_)
              refine lv_iload hx hb dX5_saltFor_74 (lv_at hl 1 rfl) ?_
              refine lv_iload hx hb dX5_saltFor_76 (lv_at hl 6 rfl) ?_
              refine lv_icmp_le (tgt := 86) hx hb dX5_saltFor_78 (by decide) (fun c_13 => ?_) (fun c_13 => ?_)
              · have c_13 : (v_X5_eaters (v_X5_put M1 b 2 (nI x)) b) ≤ most := c_13
                have hq := hq.trans (if_pos c_13)
                refine lv_iload hx hb dX5_saltFor_86 (lv_at hl 6 rfl) ?_
                refine lv_istore (lv' := [(5, .int most), (4, .int (nI x)), (7, .int (v_X5_eaters (v_X5_put M1 b 2 (nI x)) b)), (0, .ref (u 0)), (1, .int (nI b)), (2, .int (nI sal)), (3, .int (v_X5_of M b 2)), (6, .int (nI x))]) hx hb dX5_saltFor_88 hl (by decide) rfl (fun ls hl => ?_)
                refine lv_iinc (v := (nI (x + 1))) (lv' := [(6, .int (nI (x + 1))), (5, .int most), (4, .int (nI x)), (7, .int (v_X5_eaters (v_X5_put M1 b 2 (nI x)) b)), (0, .ref (u 0)), (1, .int (nI b)), (2, .int (nI sal)), (3, .int (v_X5_of M b 2))]) hx hb dX5_saltFor_90 hl (k := 7) rfl (nI_add _ 1) (by decide) rfl (fun ls hl => ?_)
                refine lv_goto (tgt := 26) hx hb dX5_saltFor_93 (by decide) ?_
                exact ih26 (nI x) most (x + 1) (v_X5_put M1 b 2 (nI x)) (by omega) (by omega) (zI_put (k := 2) z0 (by decide) v26_2) (by omega) _ _ hP hD hS ls (lv_sub hl [4, 5, 6, 7, 2, 1, 0] rfl) hq
              · have c_13 : ¬ ((v_X5_eaters (v_X5_put M1 b 2 (nI x)) b) ≤ most) := c_13
                have hq := hq.trans (if_neg c_13)
                refine lv_iload hx hb dX5_saltFor_81 (lv_at hl 1 rfl) ?_
                refine lv_goto (tgt := 88) hx hb dX5_saltFor_83 (by decide) ?_
                refine lv_istore (lv' := [(5, .int (v_X5_eaters (v_X5_put M1 b 2 (nI x)) b)), (4, .int (nI x)), (7, .int (v_X5_eaters (v_X5_put M1 b 2 (nI x)) b)), (0, .ref (u 0)), (1, .int (nI b)), (2, .int (nI sal)), (3, .int (v_X5_of M b 2)), (6, .int (nI x))]) hx hb dX5_saltFor_88 hl (by decide) rfl (fun ls hl => ?_)
                refine lv_iinc (v := (nI (x + 1))) (lv' := [(6, .int (nI (x + 1))), (5, .int (v_X5_eaters (v_X5_put M1 b 2 (nI x)) b)), (4, .int (nI x)), (7, .int (v_X5_eaters (v_X5_put M1 b 2 (nI x)) b)), (0, .ref (u 0)), (1, .int (nI b)), (2, .int (nI sal)), (3, .int (v_X5_of M b 2))]) hx hb dX5_saltFor_90 hl (k := 7) rfl (nI_add _ 1) (by decide) rfl (fun ls hl => ?_)
                refine lv_goto (tgt := 26) hx hb dX5_saltFor_93 (by decide) ?_
                exact ih26 (nI x) (v_X5_eaters (v_X5_put M1 b 2 (nI x)) b) (x + 1) (v_X5_put M1 b 2 (nI x)) (by omega) (by omega) (zI_put (k := 2) z0 (by decide) v26_2) (by omega) _ _ hP hD hS ls (lv_sub hl [4, 5, 6, 7, 2, 1, 0] rfl) hq
    exact L26 21 (-1) (-1) sal M (by omega) (by omega) z1 (by omega) _ _ hP hD hS ls (lv_sub hl [4, 5, 6, 3, 2, 1, 0] rfl) hq
  · have hq := hq.trans (zif_f c_2)
    refine lv_iconst (v := (-1)) hx hb dX5_saltFor_8 (by decide) ?_
    exact zretw_i hx hb hr hlocks dX5_saltFor_9 hP hS (congrArg (fun z9 => z9.1) hq) (by with_reducible exact congrArg (fun z9 => zB_X5 (g 0) u z9.2 w) hq)
def v_X5_bestSalt (M : Nat → Nat → Int32) (xx : Int32) (sal : Int32) : Int32 × (Nat → Nat → Int32) := (if (v_X5_isBread M xx) = true then (if (v_X5_isSalt sal) = true then (((v_X5_saltFor (zU M 5 (fun _ => 0)) (Int32.toNatClampNeg xx) (Int32.toNatClampNeg sal)).1), (v_X5_saltFor (zU M 5 (fun _ => 0)) (Int32.toNatClampNeg xx) (Int32.toNatClampNeg sal)).2) else (0, zU M 5 (fun _ => 2))) else (0, zU M 5 (fun _ => 1)))
set_option maxHeartbeats 400000 in
set_option maxRecDepth 100000 in
theorem c_X5_bestSalt (l : Launch) (D : va_G) (g : Nat → ClassId) (u : Nat → Nat) (M : Nat → Nat → Int32) (w : Int64) (xx : Int32) (sal : Int32) (z0 : zI M) : Wr l D (zT g) yX5_bestSalt wsX5_bestSalt (rmOf 6 138) [.ref (u 0), .int xx, .int sal] (zB_X5 (g 0) u M w) (some (.int ((v_X5_bestSalt M xx sal).1))) (zB_X5 (g 0) u ((v_X5_bestSalt M xx sal).2) w) := by
  refine Wr.of (cc := cX5_bestSalt) (maxL := 3) (ret := (some .int)) (by decide) rfl (Nat.le_of_ble_eq_true rfl) ?_
  intro p e s m below meth c ls hx hb hr hml hown hts hlocks hP hD hS hK hl
  have hown : s.vm.findClass RX5 = some m.cls := hown
  have hinX5 : ∀ w ∈ u_ws RX5 TX5 13, w ∈ wsX5_bestSalt := fun _ h9 => (List.mem_cons_of_mem _ (List.mem_append_right _ h9))
  obtain ⟨q, hq⟩ : ∃ q : Int32 × (Nat → Nat → Int32), q = v_X5_bestSalt M xx sal := ⟨_, rfl⟩
  rw [← hq]
  unfold v_X5_bestSalt at hq
  have hl : lv_has ls 3 [(0, .ref (u 0)), (1, .int xx), (2, .int sal)] := hl
  refine lv_aload_n hx hb dX5_bestSalt_0 rfl (lv_at hl 0 rfl) ?_
  refine lv_aload_n hx hb dX5_bestSalt_1 rfl (lv_at hl 0 rfl) ?_
  refine lv_iload_n hx hb dX5_bestSalt_2 rfl (lv_at hl 1 rfl) ?_
  refine zcV (ci := 5) (n := 1) (c_X5_isBread l D g u M w xx) hx hb hml hown hts gX5_bestSalt_X5_isBread rfl ⟨rfl, by decide, by decide, by decide⟩ ⟨Nat.le_of_ble_eq_true rfl, Nat.le_of_ble_eq_true rfl⟩ ⟨rfl, rfl⟩ hK hP rfl rfl rfl hl.1 rfl rfl (Nat.le_of_ble_eq_true rfl) ⟨Nat.zero_le _, Nat.zero_le _⟩ dX5_bestSalt_3 ?_
  refine zif_ne (tgt := 13) hx hb dX5_bestSalt_6 (by decide) (fun c_2 => ?_) (fun c_2 => ?_)
  · have hq := hq.trans (zif_t c_2)
    refine lv_iload_n hx hb dX5_bestSalt_13 rfl (lv_at hl 2 rfl) ?_
    refine zcSO (n := 1) (c_X5_isSalt l D g sal) hx hb hml hown hts gX5_bestSalt_X5_isSalt rfl ⟨by decide, by decide, by decide⟩ ⟨Nat.le_of_ble_eq_true rfl, Nat.le_of_ble_eq_true rfl⟩ ⟨rfl, rfl⟩ hK (hP.sub [] rfl) hl.1 rfl rfl (Nat.le_of_ble_eq_true rfl) ⟨Nat.zero_le _, Nat.zero_le _⟩ dX5_bestSalt_14 ?_
    refine zif_eq (tgt := 24) hx hb dX5_bestSalt_17 (by decide) (fun c_4 => ?_) (fun c_4 => ?_)
    · have hq := hq.trans (zif_f c_4)
      refine lv_iconst (v := 2) hx hb dX5_bestSalt_24 (by decide) ?_
      refine va_put (D := D) (ci := 5) (v := .int 2) (ty := .int) (C := RX5) (T := TX5) (N := 13) hx hb hts hinX5 tyX5 tyX5_ok nmX5 hown hK.1 hP hD hS 0 rfl rfl 5 (by decide) (hts (.fieldLink RX5 28 "SaltSharesModel" "thrown" "I") (List.mem_of_getElem? (i := 1) rfl)) (fun _ h9 => h9) rfl (by decide +kernel) rfl rfl (Nat.le_of_ble_eq_true rfl) dX5_bestSalt_25 (fun H locs hP hD hS => ?_)
      have hP : va_P D vwCl (zB_X5 (g 0) u (zU M 5 (fun _ => 2)) w) H := hP
      have hD : va_D (zA (zB_X5 (g 0) u M w)) (zB_X5 (g 0) u (zU M 5 (fun _ => 2)) w) := hD
      refine lv_aload_n hx hb dX5_bestSalt_28 rfl (lv_at hl 0 rfl) ?_
      refine va_get (D := D) (ci := 5) (v := .int 2) (C := RX5) (T := TX5) (N := 13) hx hb hts hinX5 hown hK.1 hP 0 rfl rfl 5 (by decide) (hts (.fieldLink RX5 28 "SaltSharesModel" "thrown" "I") (List.mem_of_getElem? (i := 1) rfl)) (fun _ h9 => h9) rfl dX5_bestSalt_29 ?_
      refine lv_if_le (tgt := 39) hx hb dX5_bestSalt_32 (by decide) (fun c_5 => ?_) (fun c_5 => ?_)
      · exact absurd c_5 (by decide)
      refine lv_iconst (v := 0) hx hb dX5_bestSalt_35 (by decide) ?_
      refine lv_goto (tgt := 45) hx hb dX5_bestSalt_36 (by decide) ?_
      exact zretw_i hx hb hr hlocks dX5_bestSalt_45 hP hS (congrArg (fun z9 => z9.1) hq) (by with_reducible exact congrArg (fun z9 => zB_X5 (g 0) u z9.2 w) hq)
    · have hq := hq.trans (zif_t c_4)
      refine lv_iconst (v := 0) hx hb dX5_bestSalt_20 (by decide) ?_
      refine lv_goto (tgt := 25) hx hb dX5_bestSalt_21 (by decide) ?_
      refine va_put (D := D) (ci := 5) (v := .int 0) (ty := .int) (C := RX5) (T := TX5) (N := 13) hx hb hts hinX5 tyX5 tyX5_ok nmX5 hown hK.1 hP hD hS 0 rfl rfl 5 (by decide) (hts (.fieldLink RX5 28 "SaltSharesModel" "thrown" "I") (List.mem_of_getElem? (i := 1) rfl)) (fun _ h9 => h9) rfl (by decide +kernel) rfl rfl (Nat.le_of_ble_eq_true rfl) dX5_bestSalt_25 (fun H locs hP hD hS => ?_)
      have hP : va_P D vwCl (zB_X5 (g 0) u (zU M 5 (fun _ => 0)) w) H := hP
      have hD : va_D (zA (zB_X5 (g 0) u M w)) (zB_X5 (g 0) u (zU M 5 (fun _ => 0)) w) := hD
      refine lv_aload_n hx hb dX5_bestSalt_28 rfl (lv_at hl 0 rfl) ?_
      refine va_get (D := D) (ci := 5) (v := .int 0) (C := RX5) (T := TX5) (N := 13) hx hb hts hinX5 hown hK.1 hP 0 rfl rfl 5 (by decide) (hts (.fieldLink RX5 28 "SaltSharesModel" "thrown" "I") (List.mem_of_getElem? (i := 1) rfl)) (fun _ h9 => h9) rfl dX5_bestSalt_29 ?_
      refine lv_if_le (tgt := 39) hx hb dX5_bestSalt_32 (by decide) (fun c_6 => ?_) (fun c_6 => ?_)
      rotate_left
      · exact absurd c_6 (by decide)
      have w_7 := znat (zmb (by with_reducible assumption) (zI_B z0))
      have w_7b := w_7.2
      have hl : lv_has ls 3 [(0, .ref (u 0)), (1, .int (nI (Int32.toNatClampNeg xx))), (2, .int sal)] := by rw [← w_7.1]; exact hl
      have w_8 := znat (zmsa (by with_reducible assumption))
      have w_8b := w_8.2
      have hl : lv_has ls 3 [(0, .ref (u 0)), (1, .int (nI (Int32.toNatClampNeg xx))), (2, .int (nI (Int32.toNatClampNeg sal)))] := by rw [← w_8.1]; exact hl
      refine lv_aload_n hx hb dX5_bestSalt_39 rfl (lv_at hl 0 rfl) ?_
      refine lv_iload_n hx hb dX5_bestSalt_40 rfl (lv_at hl 1 rfl) ?_
      refine lv_iload_n hx hb dX5_bestSalt_41 rfl (lv_at hl 2 rfl) ?_
      refine zcVw (ci := 5) (n := 2) (c_X5_saltFor l D g u (zU M 5 (fun _ => 0)) w (Int32.toNatClampNeg xx) (Int32.toNatClampNeg sal) (by omega) (zI_U z0) (by omega)) hx hb hml hown hts gX5_bestSalt_X5_saltFor rfl ⟨rfl, by decide, by decide, by decide⟩ ⟨Nat.le_of_ble_eq_true rfl, Nat.le_of_ble_eq_true rfl⟩ ⟨rfl, rfl⟩ hK hP hD rfl rfl rfl hS hl.1 rfl rfl (Nat.le_of_ble_eq_true rfl) ⟨Nat.zero_le _, Nat.zero_le _⟩ dX5_bestSalt_42 (fun H1 locs hP1 hk1 hS => ?_)
      have hD := zD_addr (ws' := zB_X5 (g 0) u ((v_X5_saltFor (zU M 5 (fun _ => 0)) (Int32.toNatClampNeg xx) (Int32.toNatClampNeg sal)).2) w) hD (by simp only [zF, List.flatten_cons, List.flatten_nil, List.append_nil, List.map_append, List.map_cons, List.map_nil, zad_X0, zad_X1, zad_X2, zad_X3, zad_X4, zad_X5]); have hP := hP1
      clear hP1 hk1
      have hP : va_P D vwCl (zB_X5 (g 0) u ((v_X5_saltFor (zU M 5 (fun _ => 0)) (Int32.toNatClampNeg xx) (Int32.toNatClampNeg sal)).2) w) H1 := hP
      have hD : va_D (zA (zB_X5 (g 0) u M w)) (zB_X5 (g 0) u ((v_X5_saltFor (zU M 5 (fun _ => 0)) (Int32.toNatClampNeg xx) (Int32.toNatClampNeg sal)).2) w) := hD
      exact zretw_i hx hb hr hlocks dX5_bestSalt_45 hP hS (congrArg (fun z9 => z9.1) hq) (by with_reducible exact congrArg (fun z9 => zB_X5 (g 0) u z9.2 w) hq)
  · have hq := hq.trans (zif_f c_2)
    refine lv_iconst (v := 1) hx hb dX5_bestSalt_9 (by decide) ?_
    refine lv_goto (tgt := 25) hx hb dX5_bestSalt_10 (by decide) ?_
    refine va_put (D := D) (ci := 5) (v := .int 1) (ty := .int) (C := RX5) (T := TX5) (N := 13) hx hb hts hinX5 tyX5 tyX5_ok nmX5 hown hK.1 hP hD hS 0 rfl rfl 5 (by decide) (hts (.fieldLink RX5 28 "SaltSharesModel" "thrown" "I") (List.mem_of_getElem? (i := 1) rfl)) (fun _ h9 => h9) rfl (by decide +kernel) rfl rfl (Nat.le_of_ble_eq_true rfl) dX5_bestSalt_25 (fun H locs hP hD hS => ?_)
    have hP : va_P D vwCl (zB_X5 (g 0) u (zU M 5 (fun _ => 1)) w) H := hP
    have hD : va_D (zA (zB_X5 (g 0) u M w)) (zB_X5 (g 0) u (zU M 5 (fun _ => 1)) w) := hD
    refine lv_aload_n hx hb dX5_bestSalt_28 rfl (lv_at hl 0 rfl) ?_
    refine va_get (D := D) (ci := 5) (v := .int 1) (C := RX5) (T := TX5) (N := 13) hx hb hts hinX5 hown hK.1 hP 0 rfl rfl 5 (by decide) (hts (.fieldLink RX5 28 "SaltSharesModel" "thrown" "I") (List.mem_of_getElem? (i := 1) rfl)) (fun _ h9 => h9) rfl dX5_bestSalt_29 ?_
    refine lv_if_le (tgt := 39) hx hb dX5_bestSalt_32 (by decide) (fun c_10 => ?_) (fun c_10 => ?_)
    · exact absurd c_10 (by decide)
    refine lv_iconst (v := 0) hx hb dX5_bestSalt_35 (by decide) ?_
    refine lv_goto (tgt := 45) hx hb dX5_bestSalt_36 (by decide) ?_
    exact zretw_i hx hb hr hlocks dX5_bestSalt_45 hP hS (congrArg (fun z9 => z9.1) hq) (by with_reducible exact congrArg (fun z9 => zB_X5 (g 0) u z9.2 w) hq)
def v_X5_nextNow_18 (M : Nat → Nat → Int32) (b : Nat) : Nat → Int32 → Nat → (Nat → Nat → Int32) → Int32 × (Nat → Nat → Int32)
  | 0, _, _, _ => (0, (fun _ _ => 0))
  | n + 1, found, k, M1 => (if 100 < k then (found, v_X5_layBack M1 b (nI (Int32.toNatClampNeg ((v_X5_keepShare M b).1)))) else (if found = (-1) then (if (v_X5_canRaise M1 b (nI k)) = true then v_X5_nextNow_18 M b n (v_X5_newEater (v_X5_setShare M1 b k) b) (k + 1) (v_X5_setShare M1 b k) else (found, v_X5_layBack M1 b (nI (Int32.toNatClampNeg ((v_X5_keepShare M b).1))))) else (found, v_X5_layBack M1 b (nI (Int32.toNatClampNeg ((v_X5_keepShare M b).1))))))
def v_X5_nextNow (M : Nat → Nat → Int32) (b : Nat) : Int32 × (Nat → Nat → Int32) := v_X5_nextNow_18 M b 102 (-1) (Int32.toNatClampNeg ((v_X5_keepShare M b).1) + 1) (v_X5_layAhead ((v_X5_keepShare M b).2) b)
set_option maxHeartbeats 400000 in
set_option maxRecDepth 100000 in
theorem c_X5_nextNow (l : Launch) (D : va_G) (g : Nat → ClassId) (u : Nat → Nat) (M : Nat → Nat → Int32) (w : Int64) (b : Nat) (z0 : b < 8) (z1 : zI M) (z2 : b < Int32.toNatClampNeg (M 0 1)) : Wr l D (zT g) yX5_nextNow wsX5_nextNow (rmOf 5 110) [.ref (u 0), .int (nI b)] (zB_X5 (g 0) u M w) (some (.int ((v_X5_nextNow M b).1))) (zB_X5 (g 0) u ((v_X5_nextNow M b).2) w) := by
  refine Wr.of (cc := cX5_nextNow) (maxL := 5) (ret := (some .int)) (by decide) rfl (Nat.le_of_ble_eq_true rfl) ?_
  intro p e s m below meth c ls hx hb hr hml hown hts hlocks hP hD hS hK hl
  have hown : s.vm.findClass RX5 = some m.cls := hown
  obtain ⟨q, hq⟩ : ∃ q : Int32 × (Nat → Nat → Int32), q = v_X5_nextNow M b := ⟨_, rfl⟩
  rw [← hq]
  unfold v_X5_nextNow at hq
  have hl : lv_has ls 5 [(0, .ref (u 0)), (1, .int (nI b))] := hl
  refine lv_iconst (v := (-1)) hx hb dX5_nextNow_0 (by decide) ?_
  refine lv_istore_n (lv' := [(2, .int (-1)), (0, .ref (u 0)), (1, .int (nI b))]) hx hb dX5_nextNow_1 rfl hl (by decide) rfl (fun ls hl => ?_)
  refine lv_aload_n hx hb dX5_nextNow_2 rfl (lv_at hl 1 rfl) ?_
  refine lv_iload_n hx hb dX5_nextNow_3 rfl (lv_at hl 2 rfl) ?_
  refine zcVw (ci := 5) (n := 1) (c_X5_keepShare l D g u M w b z0) hx hb hml hown hts gX5_nextNow_X5_keepShare rfl ⟨rfl, by decide, by decide, by decide⟩ ⟨Nat.le_of_ble_eq_true rfl, Nat.le_of_ble_eq_true rfl⟩ ⟨rfl, rfl⟩ hK hP hD rfl rfl rfl hS hl.1 rfl rfl (Nat.le_of_ble_eq_true rfl) ⟨Nat.zero_le _, Nat.zero_le _⟩ dX5_nextNow_4 (fun H1 locs hP1 hk1 hS => ?_)
  have hD := zD_addr (ws' := zB_X5 (g 0) u ((v_X5_keepShare M b).2) w) hD (by simp only [zF, List.flatten_cons, List.flatten_nil, List.append_nil, List.map_append, List.map_cons, List.map_nil, zad_X0, zad_X1, zad_X2, zad_X3, zad_X4, zad_X5]); have hP := hP1
  clear hP1 hk1
  have hP : va_P D vwCl (zB_X5 (g 0) u ((v_X5_keepShare M b).2) w) H1 := hP
  have hD : va_D (zA (zB_X5 (g 0) u M w)) (zB_X5 (g 0) u ((v_X5_keepShare M b).2) w) := hD
  have w_2 := znat (zks_in z0 z1)
  have w_2b := w_2.2
  refine lv_is w_2.1 ?_
  refine lv_istore_n (lv' := [(3, .int (nI (Int32.toNatClampNeg ((v_X5_keepShare M b).1)))), (2, .int (-1)), (0, .ref (u 0)), (1, .int (nI b))]) hx hb dX5_nextNow_7 rfl hl (by decide) rfl (fun ls hl => ?_)
  refine lv_aload_n hx hb dX5_nextNow_8 rfl (lv_at hl 2 rfl) ?_
  refine lv_iload_n hx hb dX5_nextNow_9 rfl (lv_at hl 3 rfl) ?_
  refine zcVw (ci := 5) (n := 1) (c_X5_layAhead l D g u ((v_X5_keepShare M b).2) w b z0 (zI_ks z1)) hx hb hml hown hts gX5_nextNow_X5_layAhead rfl ⟨rfl, by decide, by decide, by decide⟩ ⟨Nat.le_of_ble_eq_true rfl, Nat.le_of_ble_eq_true rfl⟩ ⟨rfl, rfl⟩ hK hP hD rfl rfl rfl hS hl.1 rfl rfl (Nat.le_of_ble_eq_true rfl) ⟨Nat.zero_le _, Nat.zero_le _⟩ dX5_nextNow_10 (fun H1 locs hP1 hk1 hS => ?_)
  have hD := zD_addr (ws' := zB_X5 (g 0) u (v_X5_layAhead ((v_X5_keepShare M b).2) b) w) hD (by simp only [zF, List.flatten_cons, List.flatten_nil, List.append_nil, List.map_append, List.map_cons, List.map_nil, zad_X0, zad_X1, zad_X2, zad_X3, zad_X4, zad_X5]); have hP := hP1
  clear hP1 hk1
  have hP : va_P D vwCl (zB_X5 (g 0) u (v_X5_layAhead ((v_X5_keepShare M b).2) b) w) H1 := hP
  have hD : va_D (zA (zB_X5 (g 0) u M w)) (zB_X5 (g 0) u (v_X5_layAhead ((v_X5_keepShare M b).2) b) w) := hD
  refine lv_iload_n hx hb dX5_nextNow_13 rfl (lv_at hl 0 rfl) ?_
  refine lv_iconst (v := 1) hx hb dX5_nextNow_14 (by decide) ?_
  refine lv_iadd hx hb dX5_nextNow_15 ?_
  refine lv_is (show (nI (Int32.toNatClampNeg ((v_X5_keepShare M b).1))) + 1 = (nI (Int32.toNatClampNeg ((v_X5_keepShare M b).1) + 1)) from nI_add (Int32.toNatClampNeg ((v_X5_keepShare M b).1)) 1) ?_
  refine lv_istore (lv' := [(4, .int (nI (Int32.toNatClampNeg ((v_X5_keepShare M b).1) + 1))), (3, .int (nI (Int32.toNatClampNeg ((v_X5_keepShare M b).1)))), (2, .int (-1)), (0, .ref (u 0)), (1, .int (nI b))]) hx hb dX5_nextNow_16 hl (by decide) rfl (fun ls hl => ?_)
  have L18 : ∀ (n : Nat) (found : Int32) (k : Nat) (M1 : Nat → Nat → Int32), (k ≤ 101) → (zI M1) → (b < Int32.toNatClampNeg (M1 0 1)) → 101 - k < n → ∀ (H : Heap) (locs : List Loc), va_P D vwCl (zB_X5 (g 0) u M1 w) H → va_D (zA (zB_X5 (g 0) u M w)) (zB_X5 (g 0) u M1 w) → va_S (zA (zB_X5 (g 0) u M w)) s.heap H locs → ∀ (ls : Array Slot), lv_has ls 5 [(0, .ref (u 0)), (1, .int (nI b)), (2, .int found), (3, .int (nI (Int32.toNatClampNeg ((v_X5_keepShare M b).1)))), (4, .int (nI k))] → q = v_X5_nextNow_18 M b n found k M1 → W p l e (rmOf 5 110) s m [.ref (u 0), .int (nI b)].toArray below meth c H locs 0 0 (MQ below (zQw D (zB_X5 (g 0) u M w) (some (.int q.1)) (zB_X5 (g 0) u q.2 w)) [.ref (u 0), .int (nI b)].toArray s 0 0 (zA (zB_X5 (g 0) u M w))) (F0 m 18 ls []) := by
    intro n
    induction n with
    | zero => intro found k M1 v18_0 v18_1 v18_2 hn; exact absurd hn (Nat.not_lt_zero _)
    | succ n ih18 =>
      intro found k M1 v18_0 v18_1 v18_2 hn18 H locs hP hD hS ls hl hq
      rw [v_X5_nextNow_18] at hq
      refine lv_iload hx hb dX5_nextNow_18 (lv_at hl 4 rfl) ?_
      refine lv_bipush (v := 100) hx hb dX5_nextNow_20 (by decide) ?_
      refine lv_icmp_gt (tgt := 59) hx hb dX5_nextNow_22 (by decide) (fun c_4 => ?_) (fun c_4 => ?_)
      · have c_4 : 100 < k := (nI_ltI (a := 100) (b := k) (by omega) (by omega)).mp c_4
        have hq := hq.trans (if_pos c_4)
        refine lv_aload_n hx hb dX5_nextNow_59 rfl (lv_at hl 0 rfl) ?_
        refine lv_iload_n hx hb dX5_nextNow_60 rfl (lv_at hl 1 rfl) ?_
        refine lv_iload_n hx hb dX5_nextNow_61 rfl (lv_at hl 3 rfl) ?_
        refine zcVw (ci := 5) (n := 2) (c_X5_layBack l D g u M1 w b (nI (Int32.toNatClampNeg ((v_X5_keepShare M b).1))) z0) hx hb hml hown hts gX5_nextNow_X5_layBack rfl ⟨rfl, by decide, by decide, by decide⟩ ⟨Nat.le_of_ble_eq_true rfl, Nat.le_of_ble_eq_true rfl⟩ ⟨rfl, rfl⟩ hK hP hD rfl rfl rfl hS hl.1 rfl rfl (Nat.le_of_ble_eq_true rfl) ⟨Nat.zero_le _, Nat.zero_le _⟩ dX5_nextNow_62 (fun H1 locs hP1 hk1 hS => ?_)
        have hD := zD_addr (ws' := zB_X5 (g 0) u (v_X5_layBack M1 b (nI (Int32.toNatClampNeg ((v_X5_keepShare M b).1)))) w) hD (by simp only [zF, List.flatten_cons, List.flatten_nil, List.append_nil, List.map_append, List.map_cons, List.map_nil, zad_X0, zad_X1, zad_X2, zad_X3, zad_X4, zad_X5]); have hP := hP1
        clear hP1 hk1
        have hP : va_P D vwCl (zB_X5 (g 0) u (v_X5_layBack M1 b (nI (Int32.toNatClampNeg ((v_X5_keepShare M b).1)))) w) H1 := hP
        have hD : va_D (zA (zB_X5 (g 0) u M w)) (zB_X5 (g 0) u (v_X5_layBack M1 b (nI (Int32.toNatClampNeg ((v_X5_keepShare M b).1)))) w) := hD
        refine lv_iload_n hx hb dX5_nextNow_65 rfl (lv_at hl 2 rfl) ?_
        exact zretw_i hx hb hr hlocks dX5_nextNow_66 hP hS (congrArg (fun z9 => z9.1) hq) (by with_reducible exact congrArg (fun z9 => zB_X5 (g 0) u z9.2 w) hq)
      · have c_4 : ¬ (100 < k) := fun h9 => c_4 ((nI_ltI (a := 100) (b := k) (by omega) (by omega)).mpr h9)
        have hq := hq.trans (if_neg c_4)
        refine lv_iload_n hx hb dX5_nextNow_25 rfl (lv_at hl 2 rfl) ?_
        refine lv_iconst (v := (-1)) hx hb dX5_nextNow_26 (by decide) ?_
        refine lv_icmp_ne (tgt := 59) hx hb dX5_nextNow_27 (by decide) (fun c_6 => ?_) (fun c_6 => ?_)
        · have c_6 : ¬ (found = (-1)) := c_6
          have hq := hq.trans (if_neg c_6)
          refine lv_aload_n hx hb dX5_nextNow_59 rfl (lv_at hl 0 rfl) ?_
          refine lv_iload_n hx hb dX5_nextNow_60 rfl (lv_at hl 1 rfl) ?_
          refine lv_iload_n hx hb dX5_nextNow_61 rfl (lv_at hl 3 rfl) ?_
          refine zcVw (ci := 5) (n := 2) (c_X5_layBack l D g u M1 w b (nI (Int32.toNatClampNeg ((v_X5_keepShare M b).1))) z0) hx hb hml hown hts gX5_nextNow_X5_layBack rfl ⟨rfl, by decide, by decide, by decide⟩ ⟨Nat.le_of_ble_eq_true rfl, Nat.le_of_ble_eq_true rfl⟩ ⟨rfl, rfl⟩ hK hP hD rfl rfl rfl hS hl.1 rfl rfl (Nat.le_of_ble_eq_true rfl) ⟨Nat.zero_le _, Nat.zero_le _⟩ dX5_nextNow_62 (fun H1 locs hP1 hk1 hS => ?_)
          have hD := zD_addr (ws' := zB_X5 (g 0) u (v_X5_layBack M1 b (nI (Int32.toNatClampNeg ((v_X5_keepShare M b).1)))) w) hD (by simp only [zF, List.flatten_cons, List.flatten_nil, List.append_nil, List.map_append, List.map_cons, List.map_nil, zad_X0, zad_X1, zad_X2, zad_X3, zad_X4, zad_X5]); have hP := hP1
          clear hP1 hk1
          have hP : va_P D vwCl (zB_X5 (g 0) u (v_X5_layBack M1 b (nI (Int32.toNatClampNeg ((v_X5_keepShare M b).1)))) w) H1 := hP
          have hD : va_D (zA (zB_X5 (g 0) u M w)) (zB_X5 (g 0) u (v_X5_layBack M1 b (nI (Int32.toNatClampNeg ((v_X5_keepShare M b).1)))) w) := hD
          refine lv_iload_n hx hb dX5_nextNow_65 rfl (lv_at hl 2 rfl) ?_
          exact zretw_i hx hb hr hlocks dX5_nextNow_66 hP hS (congrArg (fun z9 => z9.1) hq) (by with_reducible exact congrArg (fun z9 => zB_X5 (g 0) u z9.2 w) hq)
        · have c_6 : found = (-1) := c_6
          have hq := hq.trans (if_pos c_6)
          refine lv_aload_n hx hb dX5_nextNow_30 rfl (lv_at hl 0 rfl) ?_
          refine lv_iload_n hx hb dX5_nextNow_31 rfl (lv_at hl 1 rfl) ?_
          refine lv_iload hx hb dX5_nextNow_32 (lv_at hl 4 rfl) ?_
          refine zcV (ci := 5) (n := 2) (c_X5_canRaise l D g u M1 w b (nI k) (by omega) (by omega)) hx hb hml hown hts gX5_nextNow_X5_canRaise rfl ⟨rfl, by decide, by decide, by decide⟩ ⟨Nat.le_of_ble_eq_true rfl, Nat.le_of_ble_eq_true rfl⟩ ⟨rfl, rfl⟩ hK hP rfl rfl rfl hl.1 rfl rfl (Nat.le_of_ble_eq_true rfl) ⟨Nat.zero_le _, Nat.zero_le _⟩ dX5_nextNow_34 ?_
          refine zif_eq (tgt := 59) hx hb dX5_nextNow_37 (by decide) (fun c_9 => ?_) (fun c_9 => ?_)
          · have hq := hq.trans (zif_f c_9)
            refine lv_aload_n hx hb dX5_nextNow_59 rfl (lv_at hl 0 rfl) ?_
            refine lv_iload_n hx hb dX5_nextNow_60 rfl (lv_at hl 1 rfl) ?_
            refine lv_iload_n hx hb dX5_nextNow_61 rfl (lv_at hl 3 rfl) ?_
            refine zcVw (ci := 5) (n := 2) (c_X5_layBack l D g u M1 w b (nI (Int32.toNatClampNeg ((v_X5_keepShare M b).1))) z0) hx hb hml hown hts gX5_nextNow_X5_layBack rfl ⟨rfl, by decide, by decide, by decide⟩ ⟨Nat.le_of_ble_eq_true rfl, Nat.le_of_ble_eq_true rfl⟩ ⟨rfl, rfl⟩ hK hP hD rfl rfl rfl hS hl.1 rfl rfl (Nat.le_of_ble_eq_true rfl) ⟨Nat.zero_le _, Nat.zero_le _⟩ dX5_nextNow_62 (fun H1 locs hP1 hk1 hS => ?_)
            have hD := zD_addr (ws' := zB_X5 (g 0) u (v_X5_layBack M1 b (nI (Int32.toNatClampNeg ((v_X5_keepShare M b).1)))) w) hD (by simp only [zF, List.flatten_cons, List.flatten_nil, List.append_nil, List.map_append, List.map_cons, List.map_nil, zad_X0, zad_X1, zad_X2, zad_X3, zad_X4, zad_X5]); have hP := hP1
            clear hP1 hk1
            have hP : va_P D vwCl (zB_X5 (g 0) u (v_X5_layBack M1 b (nI (Int32.toNatClampNeg ((v_X5_keepShare M b).1)))) w) H1 := hP
            have hD : va_D (zA (zB_X5 (g 0) u M w)) (zB_X5 (g 0) u (v_X5_layBack M1 b (nI (Int32.toNatClampNeg ((v_X5_keepShare M b).1)))) w) := hD
            refine lv_iload_n hx hb dX5_nextNow_65 rfl (lv_at hl 2 rfl) ?_
            exact zretw_i hx hb hr hlocks dX5_nextNow_66 hP hS (congrArg (fun z9 => z9.1) hq) (by with_reducible exact congrArg (fun z9 => zB_X5 (g 0) u z9.2 w) hq)
          · have hq := hq.trans (zif_t c_9)
            refine lv_aload_n hx hb dX5_nextNow_40 rfl (lv_at hl 0 rfl) ?_
            refine lv_iload_n hx hb dX5_nextNow_41 rfl (lv_at hl 1 rfl) ?_
            refine lv_iload hx hb dX5_nextNow_42 (lv_at hl 4 rfl) ?_
            refine zcVw (ci := 5) (n := 2) (c_X5_setShare l D g u M1 w b k z0 v18_1 (by omega) (zroom z0 v18_1 (by omega) (Or.inl (by with_reducible assumption)))) hx hb hml hown hts gX5_nextNow_X5_setShare rfl ⟨rfl, by decide, by decide, by decide⟩ ⟨Nat.le_of_ble_eq_true rfl, Nat.le_of_ble_eq_true rfl⟩ ⟨rfl, rfl⟩ hK hP hD rfl rfl rfl hS hl.1 rfl rfl (Nat.le_of_ble_eq_true rfl) ⟨Nat.zero_le _, Nat.zero_le _⟩ dX5_nextNow_44 (fun H1 locs hP1 hk1 hS => ?_)
            have hD := zD_addr (ws' := zB_X5 (g 0) u (v_X5_setShare M1 b k) w) hD (by simp only [zF, List.flatten_cons, List.flatten_nil, List.append_nil, List.map_append, List.map_cons, List.map_nil, zad_X0, zad_X1, zad_X2, zad_X3, zad_X4, zad_X5]); have hP := hP1
            clear hP1 hk1
            have hP : va_P D vwCl (zB_X5 (g 0) u (v_X5_setShare M1 b k) w) H1 := hP
            have hD : va_D (zA (zB_X5 (g 0) u M w)) (zB_X5 (g 0) u (v_X5_setShare M1 b k) w) := hD
            refine lv_aload_n hx hb dX5_nextNow_47 rfl (lv_at hl 0 rfl) ?_
            refine lv_iload_n hx hb dX5_nextNow_48 rfl (lv_at hl 1 rfl) ?_
            refine zcV (ci := 5) (n := 1) (c_X5_newEater l D g u (v_X5_setShare M1 b k) w b z0 (zI_G (zssc z0 v18_1 v18_2 (by omega) (Or.inl (by with_reducible assumption))).2.2.2.2)) hx hb hml hown hts gX5_nextNow_X5_newEater rfl ⟨rfl, by decide, by decide, by decide⟩ ⟨Nat.le_of_ble_eq_true rfl, Nat.le_of_ble_eq_true rfl⟩ ⟨rfl, rfl⟩ hK hP rfl rfl rfl hl.1 rfl rfl (Nat.le_of_ble_eq_true rfl) ⟨Nat.zero_le _, Nat.zero_le _⟩ dX5_nextNow_49 ?_
            refine lv_istore_n (lv' := [(2, .int (v_X5_newEater (v_X5_setShare M1 b k) b)), (0, .ref (u 0)), (1, .int (nI b)), (3, .int (nI (Int32.toNatClampNeg ((v_X5_keepShare M b).1)))), (4, .int (nI k))]) hx hb dX5_nextNow_52 rfl hl (by decide) rfl (fun ls hl => ?_)
            refine lv_iinc (v := (nI (k + 1))) (lv' := [(4, .int (nI (k + 1))), (2, .int (v_X5_newEater (v_X5_setShare M1 b k) b)), (0, .ref (u 0)), (1, .int (nI b)), (3, .int (nI (Int32.toNatClampNeg ((v_X5_keepShare M b).1))))]) hx hb dX5_nextNow_53 hl (k := 4) rfl (nI_add _ 1) (by decide) rfl (fun ls hl => ?_)
            refine lv_goto (tgt := 18) hx hb dX5_nextNow_56 (by decide) ?_
            exact ih18 (v_X5_newEater (v_X5_setShare M1 b k) b) (k + 1) (v_X5_setShare M1 b k) (by omega) (zssc z0 v18_1 v18_2 (by omega) (Or.inl (by with_reducible assumption))).2.2.2.2 (by rw [(zssc z0 v18_1 v18_2 (by omega) (Or.inl (by with_reducible assumption))).2.1 1 (by decide) (by omega)]; exact v18_2) (by omega) _ _ hP hD hS ls (lv_sub hl [2, 3, 1, 4, 0] rfl) hq
  exact L18 102 (-1) (Int32.toNatClampNeg ((v_X5_keepShare M b).1) + 1) (v_X5_layAhead ((v_X5_keepShare M b).2) b) (by omega) (zI_la (zI_ks z1)) (by rw [zla_f _ _ (by decide), zks_f _ _ (by decide)]; exact z2) (by omega) _ _ hP hD hS ls (lv_sub hl [3, 4, 2, 1, 0] rfl) hq
def v_X5_nextEater (M : Nat → Nat → Int32) (xx : Int32) : Int32 × (Nat → Nat → Int32) := (if (v_X5_isBread M xx) = true then (((v_X5_nextNow (zU M 5 (fun _ => 0)) (Int32.toNatClampNeg xx)).1), (v_X5_nextNow (zU M 5 (fun _ => 0)) (Int32.toNatClampNeg xx)).2) else (0, zU M 5 (fun _ => 1)))
set_option maxHeartbeats 400000 in
set_option maxRecDepth 100000 in
theorem c_X5_nextEater (l : Launch) (D : va_G) (g : Nat → ClassId) (u : Nat → Nat) (M : Nat → Nat → Int32) (w : Int64) (xx : Int32) (z0 : zI M) : Wr l D (zT g) yX5_nextEater wsX5_nextEater (rmOf 6 134) [.ref (u 0), .int xx] (zB_X5 (g 0) u M w) (some (.int ((v_X5_nextEater M xx).1))) (zB_X5 (g 0) u ((v_X5_nextEater M xx).2) w) := by
  refine Wr.of (cc := cX5_nextEater) (maxL := 2) (ret := (some .int)) (by decide) rfl (Nat.le_of_ble_eq_true rfl) ?_
  intro p e s m below meth c ls hx hb hr hml hown hts hlocks hP hD hS hK hl
  have hown : s.vm.findClass RX5 = some m.cls := hown
  have hinX5 : ∀ w ∈ u_ws RX5 TX5 13, w ∈ wsX5_nextEater := fun _ h9 => (List.mem_cons_of_mem _ (List.mem_append_right _ h9))
  obtain ⟨q, hq⟩ : ∃ q : Int32 × (Nat → Nat → Int32), q = v_X5_nextEater M xx := ⟨_, rfl⟩
  rw [← hq]
  unfold v_X5_nextEater at hq
  have hl : lv_has ls 2 [(0, .ref (u 0)), (1, .int xx)] := hl
  refine lv_aload_n hx hb dX5_nextEater_0 rfl (lv_at hl 0 rfl) ?_
  refine lv_aload_n hx hb dX5_nextEater_1 rfl (lv_at hl 0 rfl) ?_
  refine lv_iload_n hx hb dX5_nextEater_2 rfl (lv_at hl 1 rfl) ?_
  refine zcV (ci := 5) (n := 1) (c_X5_isBread l D g u M w xx) hx hb hml hown hts gX5_nextEater_X5_isBread rfl ⟨rfl, by decide, by decide, by decide⟩ ⟨Nat.le_of_ble_eq_true rfl, Nat.le_of_ble_eq_true rfl⟩ ⟨rfl, rfl⟩ hK hP rfl rfl rfl hl.1 rfl rfl (Nat.le_of_ble_eq_true rfl) ⟨Nat.zero_le _, Nat.zero_le _⟩ dX5_nextEater_3 ?_
  refine zif_eq (tgt := 13) hx hb dX5_nextEater_6 (by decide) (fun c_2 => ?_) (fun c_2 => ?_)
  · have hq := hq.trans (zif_f c_2)
    refine lv_iconst (v := 1) hx hb dX5_nextEater_13 (by decide) ?_
    refine va_put (D := D) (ci := 5) (v := .int 1) (ty := .int) (C := RX5) (T := TX5) (N := 13) hx hb hts hinX5 tyX5 tyX5_ok nmX5 hown hK.1 hP hD hS 0 rfl rfl 5 (by decide) (hts (.fieldLink RX5 28 "SaltSharesModel" "thrown" "I") (List.mem_of_getElem? (i := 1) rfl)) (fun _ h9 => h9) rfl (by decide +kernel) rfl rfl (Nat.le_of_ble_eq_true rfl) dX5_nextEater_14 (fun H locs hP hD hS => ?_)
    have hP : va_P D vwCl (zB_X5 (g 0) u (zU M 5 (fun _ => 1)) w) H := hP
    have hD : va_D (zA (zB_X5 (g 0) u M w)) (zB_X5 (g 0) u (zU M 5 (fun _ => 1)) w) := hD
    refine lv_aload_n hx hb dX5_nextEater_17 rfl (lv_at hl 0 rfl) ?_
    refine va_get (D := D) (ci := 5) (v := .int 1) (C := RX5) (T := TX5) (N := 13) hx hb hts hinX5 hown hK.1 hP 0 rfl rfl 5 (by decide) (hts (.fieldLink RX5 28 "SaltSharesModel" "thrown" "I") (List.mem_of_getElem? (i := 1) rfl)) (fun _ h9 => h9) rfl dX5_nextEater_18 ?_
    refine lv_if_le (tgt := 28) hx hb dX5_nextEater_21 (by decide) (fun c_3 => ?_) (fun c_3 => ?_)
    · exact absurd c_3 (by decide)
    refine lv_iconst (v := 0) hx hb dX5_nextEater_24 (by decide) ?_
    refine lv_goto (tgt := 33) hx hb dX5_nextEater_25 (by decide) ?_
    exact zretw_i hx hb hr hlocks dX5_nextEater_33 hP hS (congrArg (fun z9 => z9.1) hq) (by with_reducible exact congrArg (fun z9 => zB_X5 (g 0) u z9.2 w) hq)
  · have hq := hq.trans (zif_t c_2)
    refine lv_iconst (v := 0) hx hb dX5_nextEater_9 (by decide) ?_
    refine lv_goto (tgt := 14) hx hb dX5_nextEater_10 (by decide) ?_
    refine va_put (D := D) (ci := 5) (v := .int 0) (ty := .int) (C := RX5) (T := TX5) (N := 13) hx hb hts hinX5 tyX5 tyX5_ok nmX5 hown hK.1 hP hD hS 0 rfl rfl 5 (by decide) (hts (.fieldLink RX5 28 "SaltSharesModel" "thrown" "I") (List.mem_of_getElem? (i := 1) rfl)) (fun _ h9 => h9) rfl (by decide +kernel) rfl rfl (Nat.le_of_ble_eq_true rfl) dX5_nextEater_14 (fun H locs hP hD hS => ?_)
    have hP : va_P D vwCl (zB_X5 (g 0) u (zU M 5 (fun _ => 0)) w) H := hP
    have hD : va_D (zA (zB_X5 (g 0) u M w)) (zB_X5 (g 0) u (zU M 5 (fun _ => 0)) w) := hD
    refine lv_aload_n hx hb dX5_nextEater_17 rfl (lv_at hl 0 rfl) ?_
    refine va_get (D := D) (ci := 5) (v := .int 0) (C := RX5) (T := TX5) (N := 13) hx hb hts hinX5 hown hK.1 hP 0 rfl rfl 5 (by decide) (hts (.fieldLink RX5 28 "SaltSharesModel" "thrown" "I") (List.mem_of_getElem? (i := 1) rfl)) (fun _ h9 => h9) rfl dX5_nextEater_18 ?_
    refine lv_if_le (tgt := 28) hx hb dX5_nextEater_21 (by decide) (fun c_4 => ?_) (fun c_4 => ?_)
    rotate_left
    · exact absurd c_4 (by decide)
    have w_5 := znat (zmb (by with_reducible assumption) (zI_B z0))
    have w_5b := w_5.2
    have hl : lv_has ls 2 [(0, .ref (u 0)), (1, .int (nI (Int32.toNatClampNeg xx)))] := by rw [← w_5.1]; exact hl
    refine lv_aload_n hx hb dX5_nextEater_28 rfl (lv_at hl 0 rfl) ?_
    refine lv_iload_n hx hb dX5_nextEater_29 rfl (lv_at hl 1 rfl) ?_
    refine zcVw (ci := 5) (n := 1) (c_X5_nextNow l D g u (zU M 5 (fun _ => 0)) w (Int32.toNatClampNeg xx) (by omega) (zI_U z0) (by rw [zU_n _ _ (by decide)]; exact zmb2 (by with_reducible assumption) (zI_B z0))) hx hb hml hown hts gX5_nextEater_X5_nextNow rfl ⟨rfl, by decide, by decide, by decide⟩ ⟨Nat.le_of_ble_eq_true rfl, Nat.le_of_ble_eq_true rfl⟩ ⟨rfl, rfl⟩ hK hP hD rfl rfl rfl hS hl.1 rfl rfl (Nat.le_of_ble_eq_true rfl) ⟨Nat.zero_le _, Nat.zero_le _⟩ dX5_nextEater_30 (fun H1 locs hP1 hk1 hS => ?_)
    have hD := zD_addr (ws' := zB_X5 (g 0) u ((v_X5_nextNow (zU M 5 (fun _ => 0)) (Int32.toNatClampNeg xx)).2) w) hD (by simp only [zF, List.flatten_cons, List.flatten_nil, List.append_nil, List.map_append, List.map_cons, List.map_nil, zad_X0, zad_X1, zad_X2, zad_X3, zad_X4, zad_X5]); have hP := hP1
    clear hP1 hk1
    have hP : va_P D vwCl (zB_X5 (g 0) u ((v_X5_nextNow (zU M 5 (fun _ => 0)) (Int32.toNatClampNeg xx)).2) w) H1 := hP
    have hD : va_D (zA (zB_X5 (g 0) u M w)) (zB_X5 (g 0) u ((v_X5_nextNow (zU M 5 (fun _ => 0)) (Int32.toNatClampNeg xx)).2) w) := hD
    exact zretw_i hx hb hr hlocks dX5_nextEater_33 hP hS (congrArg (fun z9 => z9.1) hq) (by with_reducible exact congrArg (fun z9 => zB_X5 (g 0) u z9.2 w) hq)
