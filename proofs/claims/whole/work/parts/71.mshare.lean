theorem zne {f : Nat → Int32} {k t : Nat} {x : Int32} (c : ¬ f k = x) (e : f t = x) (l : k ≤ t) : k + 1 ≤ t := by
  rcases Nat.lt_or_eq_of_le l with h | h
  · exact h
  · subst h; exact absurd e c
theorem zdecp {x : Int32} (h : 1 ≤ x.toInt) : (x + (-1)).toInt = x.toInt - 1 := by
  have c : ¬ x < 0 := fun q => by
    have := Int32.lt_iff_toInt_lt.mp q
    have e : (0 : Int32).toInt = 0 := by decide
    omega
  exact (zdec c).1
theorem zin_i {x : Int32} {n : Nat} (h : 0 ≤ x.toInt) (h2 : x.toInt < n) : vp_in x n := vp_in_iff.mpr ⟨h, h2⟩
theorem znei {f : Nat → Int32} {t : Nat} {x y : Int32} (c : ¬ f x.toNatClampNeg = y) (e : f t = y) (l : (t : Int) ≤ x.toInt) (h1 : 1 ≤ x.toInt := by omega) : (t : Int) ≤ (x + (-1)).toInt := by
  rw [zdecp h1]
  have e2 : x.toNatClampNeg = x.toInt.toNat := rfl
  have : x.toNatClampNeg ≠ t := fun q => c (by rw [q]; exact e)
  omega
def v_X5_giveLowest_13 (M : Nat → Nat → Int32) (b : Nat) : Nat → Nat → (Nat → Nat → Int32)
  | 0, _ => ((fun _ _ => 0))
  | n + 1, k => (if (M 0 k) = (-1) then zU M 0 (upd (M 0) k (nI b)) else v_X5_giveLowest_13 M b n (k + 1))
def v_X5_giveLowest (M : Nat → Nat → Int32) (b : Nat) : (Nat → Nat → Int32) := v_X5_giveLowest_13 M b 101 (53 + (100 * (Int32.toNatClampNeg (v_X5_of M b 1))))
set_option maxHeartbeats 400000 in
set_option maxRecDepth 100000 in
theorem c_X5_giveLowest (l : Launch) (D : va_G) (g : Nat → ClassId) (u : Nat → Nat) (M : Nat → Nat → Int32) (w : Int64) (b : Nat) (z0 : b < 8) (z1 : vp_in (v_X5_of M b 1) 3) (z2 : ∃ k, k < 100 ∧ M 0 (53 + (100 * (Int32.toNatClampNeg (v_X5_of M b 1))) + k) = -1) : Wr l D (zT g) yX5_giveLowest wsX5_giveLowest (rmOf 1 22) [.ref (u 0), .int (nI b)] (zB_X5 (g 0) u M w) (none) (zB_X5 (g 0) u (v_X5_giveLowest M b) w) := by
  refine Wr.of (cc := cX5_giveLowest) (maxL := 3) (ret := none) (by decide) rfl (Nat.le_of_ble_eq_true rfl) ?_
  intro p e s m below meth c ls hx hb hr hml hown hts hlocks hP hD hS hK hl
  have hown : s.vm.findClass RX5 = some m.cls := hown
  have hinX5 : ∀ w ∈ u_ws RX5 TX5 13, w ∈ wsX5_giveLowest := fun _ h9 => (List.mem_cons_of_mem _ (List.mem_append_right _ h9))
  obtain ⟨q, hq⟩ : ∃ q : (Nat → Nat → Int32), q = v_X5_giveLowest M b := ⟨_, rfl⟩
  rw [← hq]
  unfold v_X5_giveLowest at hq
  have hl : lv_has ls 3 [(0, .ref (u 0)), (1, .int (nI b))] := hl
  obtain ⟨kk, hk0, hk1⟩ := z2
  refine lv_bipush (v := 53) hx hb dX5_giveLowest_0 (by decide) ?_
  refine lv_bipush (v := 100) hx hb dX5_giveLowest_2 (by decide) ?_
  refine lv_aload_n hx hb dX5_giveLowest_4 rfl (lv_at hl 0 rfl) ?_
  refine lv_iload_n hx hb dX5_giveLowest_5 rfl (lv_at hl 1 rfl) ?_
  refine lv_iconst (v := 1) hx hb dX5_giveLowest_6 (by decide) ?_
  refine zcV (ci := 5) (n := 2) (c_X5_of l D g u M w b 1 (by omega)) hx hb hml hown hts gX5_giveLowest_X5_of rfl ⟨rfl, by decide, by decide, by decide⟩ ⟨Nat.le_of_ble_eq_true rfl, Nat.le_of_ble_eq_true rfl⟩ ⟨rfl, rfl⟩ hK hP rfl rfl rfl hl.1 rfl rfl (Nat.le_of_ble_eq_true rfl) ⟨Nat.zero_le _, Nat.zero_le _⟩ dX5_giveLowest_7 ?_
  have w_2 := znat z1
  have w_2b := w_2.2
  refine lv_is w_2.1 ?_
  refine lv_imul hx hb dX5_giveLowest_10 ?_
  refine lv_is (show (100 : Int32) * (nI (Int32.toNatClampNeg (v_X5_of M b 1))) = (nI (100 * (Int32.toNatClampNeg (v_X5_of M b 1)))) from pk_mul 100 (Int32.toNatClampNeg (v_X5_of M b 1))) ?_
  refine lv_iadd hx hb dX5_giveLowest_11 ?_
  refine lv_is (show (53 : Int32) + (nI (100 * (Int32.toNatClampNeg (v_X5_of M b 1)))) = (nI (53 + (100 * (Int32.toNatClampNeg (v_X5_of M b 1))))) from nI_add 53 (100 * (Int32.toNatClampNeg (v_X5_of M b 1)))) ?_
  refine lv_istore_n (lv' := [(2, .int (nI (53 + (100 * (Int32.toNatClampNeg (v_X5_of M b 1)))))), (0, .ref (u 0)), (1, .int (nI b))]) hx hb dX5_giveLowest_12 rfl hl (by decide) rfl (fun ls hl => ?_)
  have L13 : ∀ (n : Nat) (k : Nat), (k ≤ 53 + (100 * (Int32.toNatClampNeg (v_X5_of M b 1))) + kk) → 53 + (100 * (Int32.toNatClampNeg (v_X5_of M b 1))) + 100 - k < n → ∀ (H : Heap) (locs : List Loc), va_P D vwCl (zB_X5 (g 0) u M w) H → va_D (zA (zB_X5 (g 0) u M w)) (zB_X5 (g 0) u M w) → va_S (zA (zB_X5 (g 0) u M w)) s.heap H locs → ∀ (ls : Array Slot), lv_has ls 3 [(0, .ref (u 0)), (1, .int (nI b)), (2, .int (nI k))] → q = v_X5_giveLowest_13 M b n k → W p l e (rmOf 1 22) s m [.ref (u 0), .int (nI b)].toArray below meth c H locs 0 0 (MQ below (zQw D (zB_X5 (g 0) u M w) (none) (zB_X5 (g 0) u q w)) [.ref (u 0), .int (nI b)].toArray s 0 0 (zA (zB_X5 (g 0) u M w))) (F0 m 13 ls []) := by
    intro n
    induction n with
    | zero => intro k v13_0 hn; exact absurd hn (Nat.not_lt_zero _)
    | succ n ih13 =>
      intro k v13_0 hn13 H locs hP hD hS ls hl hq
      rw [v_X5_giveLowest_13] at hq
      refine lv_aload_n hx hb dX5_giveLowest_13 rfl (lv_at hl 0 rfl) ?_
      refine va_get (D := D) (ci := 5) (v := .ref (u 1)) (C := RX5) (T := TX5) (N := 13) hx hb hts hinX5 hown hK.1 hP 0 rfl rfl 0 (by decide) (hts (.fieldLink RX5 7 "SaltSharesModel" "z" "[I") (List.mem_of_getElem? (i := 1) rfl)) (fun _ h9 => h9) rfl dX5_giveLowest_14 ?_
      refine lv_iload_n hx hb dX5_giveLowest_17 rfl (lv_at hl 2 rfl) ?_
      refine z_iald (i := k) hx hb hK hP 1 0 rfl rfl (by omega) (by decide) dX5_giveLowest_18 ?_
      refine lv_iconst (v := (-1)) hx hb dX5_giveLowest_19 (by decide) ?_
      refine lv_icmp_eq (tgt := 29) hx hb dX5_giveLowest_20 (by decide) (fun c_3 => ?_) (fun c_3 => ?_)
      · have c_3 : (M 0 k) = (-1) := c_3
        have hq := hq.trans (if_pos c_3)
        refine lv_aload_n hx hb dX5_giveLowest_29 rfl (lv_at hl 0 rfl) ?_
        refine va_get (D := D) (ci := 5) (v := .ref (u 1)) (C := RX5) (T := TX5) (N := 13) hx hb hts hinX5 hown hK.1 hP 0 rfl rfl 0 (by decide) (hts (.fieldLink RX5 7 "SaltSharesModel" "z" "[I") (List.mem_of_getElem? (i := 1) rfl)) (fun _ h9 => h9) rfl dX5_giveLowest_30 ?_
        refine lv_iload_n hx hb dX5_giveLowest_33 rfl (lv_at hl 2 rfl) ?_
        refine lv_iload_n hx hb dX5_giveLowest_34 rfl (lv_at hl 1 rfl) ?_
        refine z_iast (i := k) (x := (nI b)) hx hb hK hP hD hS 1 0 rfl rfl (by omega) (by decide) dX5_giveLowest_35 (fun H locs hP hD hS => ?_)
        have hP : va_P D vwCl (zB_X5 (g 0) u (zU M 0 (upd (M 0) k (nI b))) w) H := hP
        have hD : va_D (zA (zB_X5 (g 0) u M w)) (zB_X5 (g 0) u (zU M 0 (upd (M 0) k (nI b))) w) := hD
        exact zretw_v hx hb hr hlocks dX5_giveLowest_36 hP hS (congrArg (fun z9 => zB_X5 (g 0) u z9 w) hq)
      · have c_3 : ¬ ((M 0 k) = (-1)) := c_3
        have hq := hq.trans (if_neg c_3)
        refine lv_iinc (v := (nI (k + 1))) (lv' := [(2, .int (nI (k + 1))), (0, .ref (u 0)), (1, .int (nI b))]) hx hb dX5_giveLowest_23 hl (k := 2) rfl (nI_add _ 1) (by decide) rfl (fun ls hl => ?_)
        refine lv_goto (tgt := 13) hx hb dX5_giveLowest_26 (by decide) ?_
        exact ih13 (k + 1) (zne (by with_reducible assumption) hk1 v13_0) (by omega) _ _ hP hD hS ls (lv_sub hl [1, 2, 0] rfl) hq
  exact L13 101 (53 + (100 * (Int32.toNatClampNeg (v_X5_of M b 1)))) (by omega) (by omega) _ _ hP hD hS ls (lv_sub hl [1, 2, 0] rfl) hq
def v_X5_takeHighest_18 (M : Nat → Nat → Int32) (b : Nat) : Nat → Int32 → (Nat → Nat → Int32)
  | 0, _ => ((fun _ _ => 0))
  | n + 1, k => (if (M 0 (Int32.toNatClampNeg k)) = (nI b) then zU M 0 (upd (M 0) (Int32.toNatClampNeg k) (-1)) else v_X5_takeHighest_18 M b n (k + (-1)))
def v_X5_takeHighest (M : Nat → Nat → Int32) (b : Nat) : (Nat → Nat → Int32) := v_X5_takeHighest_18 M b 101 (nI ((53 + (100 * (Int32.toNatClampNeg (v_X5_of M b 1))) + 100) - 1))
set_option maxHeartbeats 400000 in
set_option maxRecDepth 100000 in
theorem c_X5_takeHighest (l : Launch) (D : va_G) (g : Nat → ClassId) (u : Nat → Nat) (M : Nat → Nat → Int32) (w : Int64) (b : Nat) (z0 : b < 8) (z1 : vp_in (v_X5_of M b 1) 3) (z2 : ∃ k, k < 100 ∧ M 0 (53 + (100 * (Int32.toNatClampNeg (v_X5_of M b 1))) + k) = nI b) : Wr l D (zT g) yX5_takeHighest wsX5_takeHighest (rmOf 1 22) [.ref (u 0), .int (nI b)] (zB_X5 (g 0) u M w) (none) (zB_X5 (g 0) u (v_X5_takeHighest M b) w) := by
  refine Wr.of (cc := cX5_takeHighest) (maxL := 3) (ret := none) (by decide) rfl (Nat.le_of_ble_eq_true rfl) ?_
  intro p e s m below meth c ls hx hb hr hml hown hts hlocks hP hD hS hK hl
  have hown : s.vm.findClass RX5 = some m.cls := hown
  have hinX5 : ∀ w ∈ u_ws RX5 TX5 13, w ∈ wsX5_takeHighest := fun _ h9 => (List.mem_cons_of_mem _ (List.mem_append_right _ h9))
  obtain ⟨q, hq⟩ : ∃ q : (Nat → Nat → Int32), q = v_X5_takeHighest M b := ⟨_, rfl⟩
  rw [← hq]
  unfold v_X5_takeHighest at hq
  have hl : lv_has ls 3 [(0, .ref (u 0)), (1, .int (nI b))] := hl
  obtain ⟨kk, hk0, hk1⟩ := z2
  refine lv_bipush (v := 53) hx hb dX5_takeHighest_0 (by decide) ?_
  refine lv_bipush (v := 100) hx hb dX5_takeHighest_2 (by decide) ?_
  refine lv_aload_n hx hb dX5_takeHighest_4 rfl (lv_at hl 0 rfl) ?_
  refine lv_iload_n hx hb dX5_takeHighest_5 rfl (lv_at hl 1 rfl) ?_
  refine lv_iconst (v := 1) hx hb dX5_takeHighest_6 (by decide) ?_
  refine zcV (ci := 5) (n := 2) (c_X5_of l D g u M w b 1 (by omega)) hx hb hml hown hts gX5_takeHighest_X5_of rfl ⟨rfl, by decide, by decide, by decide⟩ ⟨Nat.le_of_ble_eq_true rfl, Nat.le_of_ble_eq_true rfl⟩ ⟨rfl, rfl⟩ hK hP rfl rfl rfl hl.1 rfl rfl (Nat.le_of_ble_eq_true rfl) ⟨Nat.zero_le _, Nat.zero_le _⟩ dX5_takeHighest_7 ?_
  have w_2 := znat z1
  have w_2b := w_2.2
  refine lv_is w_2.1 ?_
  refine lv_imul hx hb dX5_takeHighest_10 ?_
  refine lv_is (show (100 : Int32) * (nI (Int32.toNatClampNeg (v_X5_of M b 1))) = (nI (100 * (Int32.toNatClampNeg (v_X5_of M b 1)))) from pk_mul 100 (Int32.toNatClampNeg (v_X5_of M b 1))) ?_
  refine lv_iadd hx hb dX5_takeHighest_11 ?_
  refine lv_is (show (53 : Int32) + (nI (100 * (Int32.toNatClampNeg (v_X5_of M b 1)))) = (nI (53 + (100 * (Int32.toNatClampNeg (v_X5_of M b 1))))) from nI_add 53 (100 * (Int32.toNatClampNeg (v_X5_of M b 1)))) ?_
  refine lv_bipush (v := 100) hx hb dX5_takeHighest_12 (by decide) ?_
  refine lv_iadd hx hb dX5_takeHighest_14 ?_
  refine lv_is (show (nI (53 + (100 * (Int32.toNatClampNeg (v_X5_of M b 1))))) + 100 = (nI (53 + (100 * (Int32.toNatClampNeg (v_X5_of M b 1))) + 100)) from nI_add (53 + (100 * (Int32.toNatClampNeg (v_X5_of M b 1)))) 100) ?_
  refine lv_iconst (v := 1) hx hb dX5_takeHighest_15 (by decide) ?_
  refine lv_isub hx hb dX5_takeHighest_16 ?_
  refine lv_is (show (nI (53 + (100 * (Int32.toNatClampNeg (v_X5_of M b 1))) + 100)) - 1 = (nI ((53 + (100 * (Int32.toNatClampNeg (v_X5_of M b 1))) + 100) - 1)) from pk_sub (a := 53 + (100 * (Int32.toNatClampNeg (v_X5_of M b 1))) + 100) (b := 1) (by omega)) ?_
  refine lv_istore_n (lv' := [(2, .int (nI ((53 + (100 * (Int32.toNatClampNeg (v_X5_of M b 1))) + 100) - 1))), (0, .ref (u 0)), (1, .int (nI b))]) hx hb dX5_takeHighest_17 rfl hl (by decide) rfl (fun ls hl => ?_)
  have L18 : ∀ (n : Nat) (k : Int32), (((53 + (100 * (Int32.toNatClampNeg (v_X5_of M b 1))) + kk : Nat) : Int) ≤ k.toInt) → (k.toInt < 954) → (k.toInt).toNat - (53 + (100 * (Int32.toNatClampNeg (v_X5_of M b 1)))) < n → ∀ (H : Heap) (locs : List Loc), va_P D vwCl (zB_X5 (g 0) u M w) H → va_D (zA (zB_X5 (g 0) u M w)) (zB_X5 (g 0) u M w) → va_S (zA (zB_X5 (g 0) u M w)) s.heap H locs → ∀ (ls : Array Slot), lv_has ls 3 [(0, .ref (u 0)), (1, .int (nI b)), (2, .int k)] → q = v_X5_takeHighest_18 M b n k → W p l e (rmOf 1 22) s m [.ref (u 0), .int (nI b)].toArray below meth c H locs 0 0 (MQ below (zQw D (zB_X5 (g 0) u M w) (none) (zB_X5 (g 0) u q w)) [.ref (u 0), .int (nI b)].toArray s 0 0 (zA (zB_X5 (g 0) u M w))) (F0 m 18 ls []) := by
    intro n
    induction n with
    | zero => intro k v18_0 v18_1 hn; exact absurd hn (Nat.not_lt_zero _)
    | succ n ih18 =>
      intro k v18_0 v18_1 hn18 H locs hP hD hS ls hl hq
      rw [v_X5_takeHighest_18] at hq
      refine lv_aload_n hx hb dX5_takeHighest_18 rfl (lv_at hl 0 rfl) ?_
      refine va_get (D := D) (ci := 5) (v := .ref (u 1)) (C := RX5) (T := TX5) (N := 13) hx hb hts hinX5 hown hK.1 hP 0 rfl rfl 0 (by decide) (hts (.fieldLink RX5 7 "SaltSharesModel" "z" "[I") (List.mem_of_getElem? (i := 1) rfl)) (fun _ h9 => h9) rfl dX5_takeHighest_19 ?_
      refine lv_iload_n hx hb dX5_takeHighest_22 rfl (lv_at hl 2 rfl) ?_
      refine va_iald hx hb hK.1 hP 1 0 rfl rfl (zin_i (by omega) v18_1) dX5_takeHighest_23 ?_
      refine lv_iload_n hx hb dX5_takeHighest_24 rfl (lv_at hl 1 rfl) ?_
      refine lv_icmp_eq (tgt := 34) hx hb dX5_takeHighest_25 (by decide) (fun c_3 => ?_) (fun c_3 => ?_)
      · have c_3 : (M 0 (Int32.toNatClampNeg k)) = (nI b) := c_3
        have hq := hq.trans (if_pos c_3)
        refine lv_aload_n hx hb dX5_takeHighest_34 rfl (lv_at hl 0 rfl) ?_
        refine va_get (D := D) (ci := 5) (v := .ref (u 1)) (C := RX5) (T := TX5) (N := 13) hx hb hts hinX5 hown hK.1 hP 0 rfl rfl 0 (by decide) (hts (.fieldLink RX5 7 "SaltSharesModel" "z" "[I") (List.mem_of_getElem? (i := 1) rfl)) (fun _ h9 => h9) rfl dX5_takeHighest_35 ?_
        refine lv_iload_n hx hb dX5_takeHighest_38 rfl (lv_at hl 2 rfl) ?_
        refine lv_iconst (v := (-1)) hx hb dX5_takeHighest_39 (by decide) ?_
        refine va_iast (x := (-1)) hx hb hK.1 hP hD hS 1 0 rfl rfl (zin_i (by omega) v18_1) dX5_takeHighest_40 (fun H locs hP hD hS => ?_)
        have hP : va_P D vwCl (zB_X5 (g 0) u (zU M 0 (upd (M 0) (Int32.toNatClampNeg k) (-1))) w) H := hP
        have hD : va_D (zA (zB_X5 (g 0) u M w)) (zB_X5 (g 0) u (zU M 0 (upd (M 0) (Int32.toNatClampNeg k) (-1))) w) := hD
        exact zretw_v hx hb hr hlocks dX5_takeHighest_41 hP hS (congrArg (fun z9 => zB_X5 (g 0) u z9 w) hq)
      · have c_3 : ¬ ((M 0 (Int32.toNatClampNeg k)) = (nI b)) := c_3
        have hq := hq.trans (if_neg c_3)
        refine lv_iinc (v := (k + (-1))) (lv' := [(2, .int (k + (-1))), (0, .ref (u 0)), (1, .int (nI b))]) hx hb dX5_takeHighest_28 hl (k := 2) rfl rfl (by decide) rfl (fun ls hl => ?_)
        refine lv_goto (tgt := 18) hx hb dX5_takeHighest_31 (by decide) ?_
        exact ih18 (k + (-1)) (znei (by with_reducible assumption) hk1 v18_0) (by have e9 := zdecp (x := k) (by omega); omega) (by have e9 := zdecp (x := k) (by omega); have e8 := znei (by with_reducible assumption) hk1 v18_0; omega) _ _ hP hD hS ls (lv_sub hl [1, 2, 0] rfl) hq
  exact L18 101 (nI ((53 + (100 * (Int32.toNatClampNeg (v_X5_of M b 1))) + 100) - 1)) (by rw [nI_toInt (by omega)]; omega) (by rw [nI_toInt (by omega)]; omega) (by rw [nI_toInt (by omega)]; omega) _ _ hP hD hS ls (lv_sub hl [1, 2, 0] rfl) hq
