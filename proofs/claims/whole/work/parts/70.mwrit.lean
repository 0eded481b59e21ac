/-! the reference's writers -/
theorem zwithin {v lo hi : Int32} (h : v_X5_within v lo hi = true) : ¬ v < lo ∧ ¬ hi < v := by
  unfold v_X5_within at h
  by_cases c1 : v < lo
  · rw [if_pos c1] at h; cases h
  · rw [if_neg c1] at h
    by_cases c2 : hi < v
    · rw [if_pos c2] at h; cases h
    · exact ⟨c1, c2⟩
theorem zle_toInt {a b : Int32} (h : ¬ a < b) : b.toInt ≤ a.toInt := by
  have h2 : ¬ a.toInt < b.toInt := fun q => h (Int32.lt_iff_toInt_lt.mpr q)
  omega
theorem zwithin_in {v hi : Int32} {n : Nat} (h : v_X5_within v 0 hi = true) (hn : hi.toInt < n) : vp_in v n := by
  obtain ⟨h1, h2⟩ := zwithin h
  have := zle_toInt h2
  exact zin_dn h1 (by omega)
theorem zmp {x : Int32} (h : v_X5_isPerson x = true) : vp_in x 150 := zwithin_in (hi := 149) h (by decide)
theorem zmsh {x : Int32} (h : v_X5_isShare x = true) : vp_in x 101 := zwithin_in (hi := 100) h (by decide)
theorem zmgr {x : Int32} (h : v_X5_isGroup x = true) : vp_in x 3 := zwithin_in (hi := 2) h (by decide)
theorem zsub1 : ∀ j : Nat, j < 9 → (nI j - 1).toInt = (j : Int) - 1 := by decide
theorem zmb {M : Nat → Nat → Int32} {x : Int32} (h : v_X5_isBread M x = true) (hB : vp_in (M 0 1) 9) : vp_in x 8 := by
  obtain ⟨j, hj, e⟩ := vp_in_of hB (by decide)
  unfold v_X5_isBread at h
  rw [e] at h
  exact zwithin_in h (by rw [zsub1 j hj]; omega)
theorem z60 {x : Int32} (h : vp_in x 61) (c : ¬ x = 60) : vp_in x 60 := by
  obtain ⟨j, hj, rfl⟩ := vp_in_of h (by decide)
  have : j ≠ 60 := fun q => c (by rw [q]; rfl)
  exact vp_in_nI (by omega) (by decide)
theorem zst5 {x : Int32} (h : x = 6) : vp_in (x - 1) 6 := by
  have e : x - 1 = nI 5 := by rw [h]; decide
  rw [e]; exact vp_in_nI (by decide) (by decide)
/-- how many places from off hold x -/
def zct (f : Nat → Int32) (x : Int32) (off : Nat) : Nat → Nat
  | 0 => 0
  | n + 1 => zct f x off n + (if f (off + n) = x then 1 else 0)
/-- a good row: breads 0..8; groups -1..2; shares 0..100; a bread's share is the number of its own buckets; no bucket is of a bread that is not there -/
def zRow (r : Nat → Int32) : Prop := vp_in (r 1) 9 ∧ (∀ b : Nat, b < 8 → (r (5 + 6 * b + 1) = -1 ∨ vp_in (r (5 + 6 * b + 1)) 3) ∧ vp_in (r (5 + 6 * b + 3)) 101 ∧
  (vp_in (r (5 + 6 * b + 1)) 3 → (r (5 + 6 * b + 3)).toNatClampNeg = zct r (nI b) (53 + 100 * (r (5 + 6 * b + 1)).toNatClampNeg) 100)) ∧
  (∀ k : Nat, k < 300 → r (53 + k) = -1 ∨ ∃ b : Nat, b < (r 1).toNatClampNeg ∧ r (53 + k) = nI b)
def zI (M : Nat → Nat → Int32) : Prop := zRow (M 0)
theorem zI_row {M N : Nat → Nat → Int32} (h : N 0 = M 0) (i : zI M) : zI N := by unfold zI at *; rw [h]; exact i
theorem zI_G {M : Nat → Nat → Int32} (i : zI M) : zG M := fun b hb => (i.2.1 b hb).1
theorem zI_B {M : Nat → Nat → Int32} (i : zI M) : vp_in (M 0 1) 9 := i.1
def v_X5_save_54  : Nat → Nat → (Nat → Nat → Int32) → (Nat → Nat → Int32)
  | 0, _, _ => ((fun _ _ => 0))
  | n + 1, i, M1 => (if 954 ≤ i then zU M1 1 (fun _ => ((M1 1 0) + 1)) else v_X5_save_54 n (i + 1) (zU M1 2 (upd (M1 2) (954 * (Int32.toNatClampNeg (M1 1 0)) + i) (M1 0 i))))
def v_X5_save_54b  : Nat → Nat → (Nat → Nat → Int32) → (Nat → Nat → Int32)
  | 0, _, _ => ((fun _ _ => 0))
  | n + 1, i, M1' => (if 954 ≤ i then zU M1' 1 (fun _ => ((M1' 1 0) + 1)) else v_X5_save_54b n (i + 1) (zU M1' 2 (upd (M1' 2) (954 * (Int32.toNatClampNeg (M1' 1 0)) + i) (M1' 0 i))))
def v_X5_save_13  : Nat → Nat → (Nat → Nat → Int32) → (Nat → Nat → Int32)
  | 0, _, _ => ((fun _ _ => 0))
  | n + 1, k, M1 => (if 5724 ≤ k then v_X5_save_54b 955 0 (zU M1 1 (fun _ => ((M1 1 0) - 1))) else v_X5_save_13 n (k + 1) (zU M1 2 (upd (M1 2) (k - 954) (M1 2 k))))
def v_X5_save (M : Nat → Nat → Int32) : (Nat → Nat → Int32) := (if (M 1 0) = 6 then v_X5_save_13 4771 954 M else v_X5_save_54 955 0 M)
set_option maxHeartbeats 400000 in
set_option maxRecDepth 100000 in
theorem c_X5_save (l : Launch) (D : va_G) (g : Nat → ClassId) (u : Nat → Nat) (M : Nat → Nat → Int32) (w : Int64) (z0 : vp_in (M 1 0) 7) : Wr l D (zT g) yX5_save wsX5_save (rmOf 0 0) [.ref (u 0)] (zB_X5 (g 0) u M w) (none) (zB_X5 (g 0) u (v_X5_save M) w) := by
  refine Wr.of (cc := cX5_save) (maxL := 2) (ret := none) (by decide) rfl (Nat.le_of_ble_eq_true rfl) ?_
  intro p e s m below meth c ls hx hb hr hml hown hts hlocks hP hD hS hK hl
  have hown : s.vm.findClass RX5 = some m.cls := hown
  have hinX5 : ∀ w ∈ u_ws RX5 TX5 13, w ∈ wsX5_save := fun _ h9 => (List.mem_cons_of_mem _ (List.mem_append_right _ h9))
  obtain ⟨q, hq⟩ : ∃ q : (Nat → Nat → Int32), q = v_X5_save M := ⟨_, rfl⟩
  rw [← hq]
  unfold v_X5_save at hq
  have hl : lv_has ls 2 [(0, .ref (u 0))] := hl
  refine lv_aload_n hx hb dX5_save_0 rfl (lv_at hl 0 rfl) ?_
  refine va_get (D := D) (ci := 5) (v := .int (M 1 0)) (C := RX5) (T := TX5) (N := 13) hx hb hts hinX5 hown hK.1 hP 0 rfl rfl 1 (by decide) (hts (.fieldLink RX5 32 "SaltSharesModel" "states" "I") (List.mem_of_getElem? (i := 1) rfl)) (fun _ h9 => h9) rfl dX5_save_1 ?_
  refine lv_bipush (v := 6) hx hb dX5_save_4 (by decide) ?_
  refine lv_icmp_ne (tgt := 52) hx hb dX5_save_6 (by decide) (fun c_1 => ?_) (fun c_1 => ?_)
  · have c_1 : ¬ ((M 1 0) = 6) := c_1
    have hq := hq.trans (if_neg c_1)
    refine lv_iconst (v := 0) hx hb dX5_save_52 (by decide) ?_
    refine lv_istore_n (lv' := [(1, .int 0), (0, .ref (u 0))]) hx hb dX5_save_53 rfl hl (by decide) rfl (fun ls hl => ?_)
    have L54 : ∀ (n : Nat) (i : Nat) (M1 : Nat → Nat → Int32), (i ≤ 954) → (vp_in (M1 1 0) 6) → 954 - i < n → ∀ (H : Heap) (locs : List Loc), va_P D vwCl (zB_X5 (g 0) u M1 w) H → va_D (zA (zB_X5 (g 0) u M w)) (zB_X5 (g 0) u M1 w) → va_S (zA (zB_X5 (g 0) u M w)) s.heap H locs → ∀ (ls : Array Slot), lv_has ls 2 [(0, .ref (u 0)), (1, .int (nI i))] → q = v_X5_save_54 n i M1 → W p l e (rmOf 0 0) s m [.ref (u 0)].toArray below meth c H locs 0 0 (MQ below (zQw D (zB_X5 (g 0) u M w) (none) (zB_X5 (g 0) u q w)) [.ref (u 0)].toArray s 0 0 (zA (zB_X5 (g 0) u M w))) (F0 m 54 ls []) := by
      intro n
      induction n with
      | zero => intro i M1 v54_0 v54_1 hn; exact absurd hn (Nat.not_lt_zero _)
      | succ n ih54 =>
        intro i M1 v54_0 v54_1 hn54 H locs hP hD hS ls hl hq
        rw [v_X5_save_54] at hq
        refine lv_iload_n hx hb dX5_save_54 rfl (lv_at hl 1 rfl) ?_
        refine lv_sipush (v := 954) hx hb dX5_save_55 (by decide) ?_
        refine lv_icmp_ge (tgt := 88) hx hb dX5_save_58 (by decide) (fun c_2 => ?_) (fun c_2 => ?_)
        · have c_2 : 954 ≤ i := (nI_leI (a := 954) (b := i) (by omega) (by omega)).mp c_2
          have hq := hq.trans (if_pos c_2)
          refine lv_aload_n hx hb dX5_save_88 rfl (lv_at hl 0 rfl) ?_
          refine lv_dup hx hb dX5_save_89 rfl ?_
          refine va_get (D := D) (ci := 5) (v := .int (M1 1 0)) (C := RX5) (T := TX5) (N := 13) hx hb hts hinX5 hown hK.1 hP 0 rfl rfl 1 (by decide) (hts (.fieldLink RX5 32 "SaltSharesModel" "states" "I") (List.mem_of_getElem? (i := 1) rfl)) (fun _ h9 => h9) rfl dX5_save_90 ?_
          refine lv_iconst (v := 1) hx hb dX5_save_93 (by decide) ?_
          refine lv_iadd hx hb dX5_save_94 ?_
          refine va_put (D := D) (ci := 5) (v := .int ((M1 1 0) + 1)) (ty := .int) (C := RX5) (T := TX5) (N := 13) hx hb hts hinX5 tyX5 tyX5_ok nmX5 hown hK.1 hP hD hS 0 rfl rfl 1 (by decide) (hts (.fieldLink RX5 32 "SaltSharesModel" "states" "I") (List.mem_of_getElem? (i := 1) rfl)) (fun _ h9 => h9) rfl (by decide +kernel) rfl rfl (Nat.le_of_ble_eq_true rfl) dX5_save_95 (fun H locs hP hD hS => ?_)
          have hP : va_P D vwCl (zB_X5 (g 0) u (zU M1 1 (fun _ => ((M1 1 0) + 1))) w) H := hP
          have hD : va_D (zA (zB_X5 (g 0) u M w)) (zB_X5 (g 0) u (zU M1 1 (fun _ => ((M1 1 0) + 1))) w) := hD
          exact zretw_v hx hb hr hlocks dX5_save_98 hP hS (congrArg (fun z9 => zB_X5 (g 0) u z9 w) hq)
        · have c_2 : ¬ (954 ≤ i) := fun h9 => c_2 ((nI_leI (a := 954) (b := i) (by omega) (by omega)).mpr h9)
          have hq := hq.trans (if_neg c_2)
          refine lv_aload_n hx hb dX5_save_61 rfl (lv_at hl 0 rfl) ?_
          refine va_get (D := D) (ci := 5) (v := .ref (u 3)) (C := RX5) (T := TX5) (N := 13) hx hb hts hinX5 hown hK.1 hP 0 rfl rfl 2 (by decide) (hts (.fieldLink RX5 13 "SaltSharesModel" "history" "[I") (List.mem_of_getElem? (i := 2) rfl)) (fun _ h9 => h9) rfl dX5_save_62 ?_
          refine lv_sipush (v := 954) hx hb dX5_save_65 (by decide) ?_
          refine lv_aload_n hx hb dX5_save_68 rfl (lv_at hl 0 rfl) ?_
          refine va_get (D := D) (ci := 5) (v := .int (M1 1 0)) (C := RX5) (T := TX5) (N := 13) hx hb hts hinX5 hown hK.1 hP 0 rfl rfl 1 (by decide) (hts (.fieldLink RX5 32 "SaltSharesModel" "states" "I") (List.mem_of_getElem? (i := 1) rfl)) (fun _ h9 => h9) rfl dX5_save_69 ?_
          have w_3 := znat v54_1
          have w_3b := w_3.2
          refine lv_is w_3.1 ?_
          refine lv_imul hx hb dX5_save_72 ?_
          refine lv_is (show (954 : Int32) * (nI (Int32.toNatClampNeg (M1 1 0))) = (nI (954 * (Int32.toNatClampNeg (M1 1 0)))) from pk_mul 954 (Int32.toNatClampNeg (M1 1 0))) ?_
          refine lv_iload_n hx hb dX5_save_73 rfl (lv_at hl 1 rfl) ?_
          refine lv_iadd hx hb dX5_save_74 ?_
          refine lv_is (show (nI (954 * (Int32.toNatClampNeg (M1 1 0)))) + (nI i) = (nI (954 * (Int32.toNatClampNeg (M1 1 0)) + i)) from nI_add (954 * (Int32.toNatClampNeg (M1 1 0))) i) ?_
          refine lv_aload_n hx hb dX5_save_75 rfl (lv_at hl 0 rfl) ?_
          refine va_get (D := D) (ci := 5) (v := .ref (u 1)) (C := RX5) (T := TX5) (N := 13) hx hb hts hinX5 hown hK.1 hP 0 rfl rfl 0 (by decide) (hts (.fieldLink RX5 7 "SaltSharesModel" "z" "[I") (List.mem_of_getElem? (i := 3) rfl)) (fun _ h9 => h9) rfl dX5_save_76 ?_
          refine lv_iload_n hx hb dX5_save_79 rfl (lv_at hl 1 rfl) ?_
          refine z_iald (i := i) hx hb hK hP 1 0 rfl rfl (by omega) (by decide) dX5_save_80 ?_
          refine z_iast (i := 954 * (Int32.toNatClampNeg (M1 1 0)) + i) (x := (M1 0 i)) hx hb hK hP hD hS 2 0 rfl rfl (by omega) (by decide) dX5_save_81 (fun H locs hP hD hS => ?_)
          have hP : va_P D vwCl (zB_X5 (g 0) u (zU M1 2 (upd (M1 2) (954 * (Int32.toNatClampNeg (M1 1 0)) + i) (M1 0 i))) w) H := hP
          have hD : va_D (zA (zB_X5 (g 0) u M w)) (zB_X5 (g 0) u (zU M1 2 (upd (M1 2) (954 * (Int32.toNatClampNeg (M1 1 0)) + i) (M1 0 i))) w) := hD
          refine lv_iinc (v := (nI (i + 1))) (lv' := [(1, .int (nI (i + 1))), (0, .ref (u 0))]) hx hb dX5_save_82 hl (k := 1) rfl (nI_add _ 1) (by decide) rfl (fun ls hl => ?_)
          refine lv_goto (tgt := 54) hx hb dX5_save_85 (by decide) ?_
          exact ih54 (i + 1) (zU M1 2 (upd (M1 2) (954 * (Int32.toNatClampNeg (M1 1 0)) + i) (M1 0 i))) (by omega) (by rw [zU_n _ _ (by decide)]; exact v54_1) (by omega) _ _ hP hD hS ls (lv_sub hl [1, 0] rfl) hq
    exact L54 955 0 M (by decide) (by first | exact zst6 z0 (by with_reducible assumption) | exact zst5 v13_2) (by decide) _ _ hP hD hS ls (lv_sub hl [1, 0] rfl) hq
  · have c_1 : (M 1 0) = 6 := c_1
    have hq := hq.trans (if_pos c_1)
    refine lv_sipush (v := 954) hx hb dX5_save_9 (by decide) ?_
    refine lv_istore_n (lv' := [(1, .int 954), (0, .ref (u 0))]) hx hb dX5_save_12 rfl hl (by decide) rfl (fun ls hl => ?_)
    have L13 : ∀ (n : Nat) (k : Nat) (M1 : Nat → Nat → Int32), (954 ≤ k) → (k ≤ 5724) → (M1 1 0 = 6) → 5724 - k < n → ∀ (H : Heap) (locs : List Loc), va_P D vwCl (zB_X5 (g 0) u M1 w) H → va_D (zA (zB_X5 (g 0) u M w)) (zB_X5 (g 0) u M1 w) → va_S (zA (zB_X5 (g 0) u M w)) s.heap H locs → ∀ (ls : Array Slot), lv_has ls 2 [(0, .ref (u 0)), (1, .int (nI k))] → q = v_X5_save_13 n k M1 → W p l e (rmOf 0 0) s m [.ref (u 0)].toArray below meth c H locs 0 0 (MQ below (zQw D (zB_X5 (g 0) u M w) (none) (zB_X5 (g 0) u q w)) [.ref (u 0)].toArray s 0 0 (zA (zB_X5 (g 0) u M w))) (F0 m 13 ls []) := by
      intro n
      induction n with
      | zero => intro k M1 v13_0 v13_1 v13_2 hn; exact absurd hn (Nat.not_lt_zero _)
      | succ n ih13 =>
        intro k M1 v13_0 v13_1 v13_2 hn13 H locs hP hD hS ls hl hq
        rw [v_X5_save_13] at hq
        refine lv_iload_n hx hb dX5_save_13 rfl (lv_at hl 1 rfl) ?_
        refine lv_sipush (v := 5724) hx hb dX5_save_14 (by decide) ?_
        refine lv_icmp_ge (tgt := 42) hx hb dX5_save_17 (by decide) (fun c_4 => ?_) (fun c_4 => ?_)
        · have c_4 : 5724 ≤ k := (nI_leI (a := 5724) (b := k) (by omega) (by omega)).mp c_4
          have hq := hq.trans (if_pos c_4)
          refine lv_aload_n hx hb dX5_save_42 rfl (lv_at hl 0 rfl) ?_
          refine lv_dup hx hb dX5_save_43 rfl ?_
          refine va_get (D := D) (ci := 5) (v := .int (M1 1 0)) (C := RX5) (T := TX5) (N := 13) hx hb hts hinX5 hown hK.1 hP 0 rfl rfl 1 (by decide) (hts (.fieldLink RX5 32 "SaltSharesModel" "states" "I") (List.mem_of_getElem? (i := 1) rfl)) (fun _ h9 => h9) rfl dX5_save_44 ?_
          refine lv_iconst (v := 1) hx hb dX5_save_47 (by decide) ?_
          refine lv_isub hx hb dX5_save_48 ?_
          refine va_put (D := D) (ci := 5) (v := .int ((M1 1 0) - 1)) (ty := .int) (C := RX5) (T := TX5) (N := 13) hx hb hts hinX5 tyX5 tyX5_ok nmX5 hown hK.1 hP hD hS 0 rfl rfl 1 (by decide) (hts (.fieldLink RX5 32 "SaltSharesModel" "states" "I") (List.mem_of_getElem? (i := 1) rfl)) (fun _ h9 => h9) rfl (by decide +kernel) rfl rfl (Nat.le_of_ble_eq_true rfl) dX5_save_49 (fun H locs hP hD hS => ?_)
          have hP : va_P D vwCl (zB_X5 (g 0) u (zU M1 1 (fun _ => ((M1 1 0) - 1))) w) H := hP
          have hD : va_D (zA (zB_X5 (g 0) u M w)) (zB_X5 (g 0) u (zU M1 1 (fun _ => ((M1 1 0) - 1))) w) := hD
          refine lv_iconst (v := 0) hx hb dX5_save_52 (by decide) ?_
          refine lv_istore_n (lv' := [(1, .int 0), (0, .ref (u 0))]) hx hb dX5_save_53 rfl hl (by decide) rfl (fun ls hl => ?_)
          have L54 : ∀ (n : Nat) (i : Nat) (M1' : Nat → Nat → Int32), (i ≤ 954) → (vp_in (M1' 1 0) 6) → 954 - i < n → ∀ (H : Heap) (locs : List Loc), va_P D vwCl (zB_X5 (g 0) u M1' w) H → va_D (zA (zB_X5 (g 0) u M w)) (zB_X5 (g 0) u M1' w) → va_S (zA (zB_X5 (g 0) u M w)) s.heap H locs → ∀ (ls : Array Slot), lv_has ls 2 [(0, .ref (u 0)), (1, .int (nI i))] → q = v_X5_save_54b n i M1' → W p l e (rmOf 0 0) s m [.ref (u 0)].toArray below meth c H locs 0 0 (MQ below (zQw D (zB_X5 (g 0) u M w) (none) (zB_X5 (g 0) u q w)) [.ref (u 0)].toArray s 0 0 (zA (zB_X5 (g 0) u M w))) (F0 m 54 ls []) := by
            intro n
            induction n with
            | zero => intro i M1' v54_0 v54_1 hn; exact absurd hn (Nat.not_lt_zero _)
            | succ n ih54 =>
              intro i M1' v54_0 v54_1 hn54 H locs hP hD hS ls hl hq
              rw [v_X5_save_54b] at hq
              refine lv_iload_n hx hb dX5_save_54 rfl (lv_at hl 1 rfl) ?_
              refine lv_sipush (v := 954) hx hb dX5_save_55 (by decide) ?_
              refine lv_icmp_ge (tgt := 88) hx hb dX5_save_58 (by decide) (fun c_5 => ?_) (fun c_5 => ?_)
              · have c_5 : 954 ≤ i := (nI_leI (a := 954) (b := i) (by omega) (by omega)).mp c_5
                have hq := hq.trans (if_pos c_5)
                refine lv_aload_n hx hb dX5_save_88 rfl (lv_at hl 0 rfl) ?_
                refine lv_dup hx hb dX5_save_89 rfl ?_
                refine va_get (D := D) (ci := 5) (v := .int (M1' 1 0)) (C := RX5) (T := TX5) (N := 13) hx hb hts hinX5 hown hK.1 hP 0 rfl rfl 1 (by decide) (hts (.fieldLink RX5 32 "SaltSharesModel" "states" "I") (List.mem_of_getElem? (i := 1) rfl)) (fun _ h9 => h9) rfl dX5_save_90 ?_
                refine lv_iconst (v := 1) hx hb dX5_save_93 (by decide) ?_
                refine lv_iadd hx hb dX5_save_94 ?_
                refine va_put (D := D) (ci := 5) (v := .int ((M1' 1 0) + 1)) (ty := .int) (C := RX5) (T := TX5) (N := 13) hx hb hts hinX5 tyX5 tyX5_ok nmX5 hown hK.1 hP hD hS 0 rfl rfl 1 (by decide) (hts (.fieldLink RX5 32 "SaltSharesModel" "states" "I") (List.mem_of_getElem? (i := 1) rfl)) (fun _ h9 => h9) rfl (by decide +kernel) rfl rfl (Nat.le_of_ble_eq_true rfl) dX5_save_95 (fun H locs hP hD hS => ?_)
                have hP : va_P D vwCl (zB_X5 (g 0) u (zU M1' 1 (fun _ => ((M1' 1 0) + 1))) w) H := hP
                have hD : va_D (zA (zB_X5 (g 0) u M w)) (zB_X5 (g 0) u (zU M1' 1 (fun _ => ((M1' 1 0) + 1))) w) := hD
                exact zretw_v hx hb hr hlocks dX5_save_98 hP hS (congrArg (fun z9 => zB_X5 (g 0) u z9 w) hq)
              · have c_5 : ¬ (954 ≤ i) := fun h9 => c_5 ((nI_leI (a := 954) (b := i) (by omega) (by omega)).mpr h9)
                have hq := hq.trans (if_neg c_5)
                refine lv_aload_n hx hb dX5_save_61 rfl (lv_at hl 0 rfl) ?_
                refine va_get (D := D) (ci := 5) (v := .ref (u 3)) (C := RX5) (T := TX5) (N := 13) hx hb hts hinX5 hown hK.1 hP 0 rfl rfl 2 (by decide) (hts (.fieldLink RX5 13 "SaltSharesModel" "history" "[I") (List.mem_of_getElem? (i := 2) rfl)) (fun _ h9 => h9) rfl dX5_save_62 ?_
                refine lv_sipush (v := 954) hx hb dX5_save_65 (by decide) ?_
                refine lv_aload_n hx hb dX5_save_68 rfl (lv_at hl 0 rfl) ?_
                refine va_get (D := D) (ci := 5) (v := .int (M1' 1 0)) (C := RX5) (T := TX5) (N := 13) hx hb hts hinX5 hown hK.1 hP 0 rfl rfl 1 (by decide) (hts (.fieldLink RX5 32 "SaltSharesModel" "states" "I") (List.mem_of_getElem? (i := 1) rfl)) (fun _ h9 => h9) rfl dX5_save_69 ?_
                have w_6 := znat v54_1
                have w_6b := w_6.2
                refine lv_is w_6.1 ?_
                refine lv_imul hx hb dX5_save_72 ?_
                refine lv_is (show (954 : Int32) * (nI (Int32.toNatClampNeg (M1' 1 0))) = (nI (954 * (Int32.toNatClampNeg (M1' 1 0)))) from pk_mul 954 (Int32.toNatClampNeg (M1' 1 0))) ?_
                refine lv_iload_n hx hb dX5_save_73 rfl (lv_at hl 1 rfl) ?_
                refine lv_iadd hx hb dX5_save_74 ?_
                refine lv_is (show (nI (954 * (Int32.toNatClampNeg (M1' 1 0)))) + (nI i) = (nI (954 * (Int32.toNatClampNeg (M1' 1 0)) + i)) from nI_add (954 * (Int32.toNatClampNeg (M1' 1 0))) i) ?_
                refine lv_aload_n hx hb dX5_save_75 rfl (lv_at hl 0 rfl) ?_
                refine va_get (D := D) (ci := 5) (v := .ref (u 1)) (C := RX5) (T := TX5) (N := 13) hx hb hts hinX5 hown hK.1 hP 0 rfl rfl 0 (by decide) (hts (.fieldLink RX5 7 "SaltSharesModel" "z" "[I") (List.mem_of_getElem? (i := 3) rfl)) (fun _ h9 => h9) rfl dX5_save_76 ?_
                refine lv_iload_n hx hb dX5_save_79 rfl (lv_at hl 1 rfl) ?_
                refine z_iald (i := i) hx hb hK hP 1 0 rfl rfl (by omega) (by decide) dX5_save_80 ?_
                refine z_iast (i := 954 * (Int32.toNatClampNeg (M1' 1 0)) + i) (x := (M1' 0 i)) hx hb hK hP hD hS 2 0 rfl rfl (by omega) (by decide) dX5_save_81 (fun H locs hP hD hS => ?_)
                have hP : va_P D vwCl (zB_X5 (g 0) u (zU M1' 2 (upd (M1' 2) (954 * (Int32.toNatClampNeg (M1' 1 0)) + i) (M1' 0 i))) w) H := hP
                have hD : va_D (zA (zB_X5 (g 0) u M w)) (zB_X5 (g 0) u (zU M1' 2 (upd (M1' 2) (954 * (Int32.toNatClampNeg (M1' 1 0)) + i) (M1' 0 i))) w) := hD
                refine lv_iinc (v := (nI (i + 1))) (lv' := [(1, .int (nI (i + 1))), (0, .ref (u 0))]) hx hb dX5_save_82 hl (k := 1) rfl (nI_add _ 1) (by decide) rfl (fun ls hl => ?_)
                refine lv_goto (tgt := 54) hx hb dX5_save_85 (by decide) ?_
                exact ih54 (i + 1) (zU M1' 2 (upd (M1' 2) (954 * (Int32.toNatClampNeg (M1' 1 0)) + i) (M1' 0 i))) (by omega) (by rw [zU_n _ _ (by decide)]; exact v54_1) (by omega) _ _ hP hD hS ls (lv_sub hl [1, 0] rfl) hq
          exact L54 955 0 (zU M1 1 (fun _ => ((M1 1 0) - 1))) (by decide) (by first | exact zst6 z0 (by with_reducible assumption) | exact zst5 v13_2) (by decide) _ _ hP hD hS ls (lv_sub hl [1, 0] rfl) hq
        · have c_4 : ¬ (5724 ≤ k) := fun h9 => c_4 ((nI_leI (a := 5724) (b := k) (by omega) (by omega)).mpr h9)
          have hq := hq.trans (if_neg c_4)
          refine lv_aload_n hx hb dX5_save_20 rfl (lv_at hl 0 rfl) ?_
          refine va_get (D := D) (ci := 5) (v := .ref (u 3)) (C := RX5) (T := TX5) (N := 13) hx hb hts hinX5 hown hK.1 hP 0 rfl rfl 2 (by decide) (hts (.fieldLink RX5 13 "SaltSharesModel" "history" "[I") (List.mem_of_getElem? (i := 2) rfl)) (fun _ h9 => h9) rfl dX5_save_21 ?_
          refine lv_iload_n hx hb dX5_save_24 rfl (lv_at hl 1 rfl) ?_
          refine lv_sipush (v := 954) hx hb dX5_save_25 (by decide) ?_
          refine lv_isub hx hb dX5_save_28 ?_
          refine lv_is (show (nI k) - 954 = (nI (k - 954)) from pk_sub (a := k) (b := 954) (by omega)) ?_
          refine lv_aload_n hx hb dX5_save_29 rfl (lv_at hl 0 rfl) ?_
          refine va_get (D := D) (ci := 5) (v := .ref (u 3)) (C := RX5) (T := TX5) (N := 13) hx hb hts hinX5 hown hK.1 hP 0 rfl rfl 2 (by decide) (hts (.fieldLink RX5 13 "SaltSharesModel" "history" "[I") (List.mem_of_getElem? (i := 2) rfl)) (fun _ h9 => h9) rfl dX5_save_30 ?_
          refine lv_iload_n hx hb dX5_save_33 rfl (lv_at hl 1 rfl) ?_
          refine z_iald (i := k) hx hb hK hP 2 0 rfl rfl (by omega) (by decide) dX5_save_34 ?_
          refine z_iast (i := k - 954) (x := (M1 2 k)) hx hb hK hP hD hS 2 0 rfl rfl (by omega) (by decide) dX5_save_35 (fun H locs hP hD hS => ?_)
          have hP : va_P D vwCl (zB_X5 (g 0) u (zU M1 2 (upd (M1 2) (k - 954) (M1 2 k))) w) H := hP
          have hD : va_D (zA (zB_X5 (g 0) u M w)) (zB_X5 (g 0) u (zU M1 2 (upd (M1 2) (k - 954) (M1 2 k))) w) := hD
          refine lv_iinc (v := (nI (k + 1))) (lv' := [(1, .int (nI (k + 1))), (0, .ref (u 0))]) hx hb dX5_save_36 hl (k := 1) rfl (nI_add _ 1) (by decide) rfl (fun ls hl => ?_)
          refine lv_goto (tgt := 13) hx hb dX5_save_39 (by decide) ?_
          exact ih13 (k + 1) (zU M1 2 (upd (M1 2) (k - 954) (M1 2 k))) (by omega) (by omega) (by rw [zU_n _ _ (by decide)]; exact v13_2) (by omega) _ _ hP hD hS ls (lv_sub hl [1, 0] rfl) hq
    exact L13 4771 954 M (by decide) (by decide) (by with_reducible assumption) (by decide) _ _ hP hD hS ls (lv_sub hl [1, 0] rfl) hq
def v_X5_put (M : Nat → Nat → Int32) (b : Nat) (k : Nat) (x : Int32) : (Nat → Nat → Int32) := zU M 0 (upd (M 0) (5 + (6 * b) + k) x)
set_option maxHeartbeats 400000 in
set_option maxRecDepth 100000 in
theorem c_X5_put (l : Launch) (D : va_G) (g : Nat → ClassId) (u : Nat → Nat) (M : Nat → Nat → Int32) (w : Int64) (b : Nat) (k : Nat) (x : Int32) (z0 : 5 + 6 * b + k < 954) : Wr l D (zT g) yX5_put wsX5_put (rmOf 0 0) [.ref (u 0), .int (nI b), .int (nI k), .int x] (zB_X5 (g 0) u M w) (none) (zB_X5 (g 0) u (v_X5_put M b k x) w) := by
  refine Wr.of (cc := cX5_put) (maxL := 4) (ret := none) (by decide) rfl (Nat.le_of_ble_eq_true rfl) ?_
  intro p e s m below meth c ls hx hb hr hml hown hts hlocks hP hD hS hK hl
  have hown : s.vm.findClass RX5 = some m.cls := hown
  have hinX5 : ∀ w ∈ u_ws RX5 TX5 13, w ∈ wsX5_put := fun _ h9 => (List.mem_cons_of_mem _ (List.mem_append_right _ h9))
  obtain ⟨q, hq⟩ : ∃ q : (Nat → Nat → Int32), q = v_X5_put M b k x := ⟨_, rfl⟩
  rw [← hq]
  unfold v_X5_put at hq
  have hl : lv_has ls 4 [(0, .ref (u 0)), (1, .int (nI b)), (2, .int (nI k)), (3, .int x)] := hl
  refine lv_aload_n hx hb dX5_put_0 rfl (lv_at hl 0 rfl) ?_
  refine va_get (D := D) (ci := 5) (v := .ref (u 1)) (C := RX5) (T := TX5) (N := 13) hx hb hts hinX5 hown hK.1 hP 0 rfl rfl 0 (by decide) (hts (.fieldLink RX5 7 "SaltSharesModel" "z" "[I") (List.mem_of_getElem? (i := 1) rfl)) (fun _ h9 => h9) rfl dX5_put_1 ?_
  refine lv_iconst (v := 5) hx hb dX5_put_4 (by decide) ?_
  refine lv_bipush (v := 6) hx hb dX5_put_5 (by decide) ?_
  refine lv_iload_n hx hb dX5_put_7 rfl (lv_at hl 1 rfl) ?_
  refine lv_imul hx hb dX5_put_8 ?_
  refine lv_is (show (6 : Int32) * (nI b) = (nI (6 * b)) from pk_mul 6 b) ?_
  refine lv_iadd hx hb dX5_put_9 ?_
  refine lv_is (show (5 : Int32) + (nI (6 * b)) = (nI (5 + (6 * b))) from nI_add 5 (6 * b)) ?_
  refine lv_iload_n hx hb dX5_put_10 rfl (lv_at hl 2 rfl) ?_
  refine lv_iadd hx hb dX5_put_11 ?_
  refine lv_is (show (nI (5 + (6 * b))) + (nI k) = (nI (5 + (6 * b) + k)) from nI_add (5 + (6 * b)) k) ?_
  refine lv_iload_n hx hb dX5_put_12 rfl (lv_at hl 3 rfl) ?_
  refine z_iast (i := 5 + (6 * b) + k) (x := x) hx hb hK hP hD hS 1 0 rfl rfl (by omega) (by decide) dX5_put_13 (fun H locs hP hD hS => ?_)
  have hP : va_P D vwCl (zB_X5 (g 0) u (zU M 0 (upd (M 0) (5 + (6 * b) + k) x)) w) H := hP
  have hD : va_D (zA (zB_X5 (g 0) u M w)) (zB_X5 (g 0) u (zU M 0 (upd (M 0) (5 + (6 * b) + k) x)) w) := hD
  exact zretw_v hx hb hr hlocks dX5_put_14 hP hS (congrArg (fun z9 => zB_X5 (g 0) u z9 w) hq)
def v_X5_canHold (M : Nat → Nat → Int32) (xx : Int32) : Bool := (if (v_X5_isBread M xx) = true then (if (v_X5_isOpen M (Int32.toNatClampNeg xx)) = true then true else false) else false)
set_option maxHeartbeats 400000 in
set_option maxRecDepth 100000 in
theorem c_X5_canHold (l : Launch) (D : va_G) (g : Nat → ClassId) (u : Nat → Nat) (M : Nat → Nat → Int32) (w : Int64) (xx : Int32) (z0 : zI M) : Rd l D (zT g) yX5_canHold wsX5_canHold (rmOf 2 43) [.ref (u 0), .int xx] (zB_X5 (g 0) u M w) (.int (bI (v_X5_canHold M xx))) := by
  refine Rd.of (cc := cX5_canHold) (maxL := 2) (ret := (some .boolean)) (by decide) rfl (Nat.le_of_ble_eq_true rfl) ?_
  intro p e s m below meth c ls hx hb hr hml hown hts hlocks hP hK hl
  have hown : s.vm.findClass RX5 = some m.cls := hown
  obtain ⟨q, hq⟩ : ∃ q : Bool, q = v_X5_canHold M xx := ⟨_, rfl⟩
  rw [← hq]
  unfold v_X5_canHold at hq
  have hl : lv_has ls 2 [(0, .ref (u 0)), (1, .int xx)] := hl
  refine lv_aload_n hx hb dX5_canHold_0 rfl (lv_at hl 0 rfl) ?_
  refine lv_iload_n hx hb dX5_canHold_1 rfl (lv_at hl 1 rfl) ?_
  refine zcV (ci := 5) (n := 1) (c_X5_isBread l D g u M w xx) hx hb hml hown hts gX5_canHold_X5_isBread rfl ⟨rfl, by decide, by decide, by decide⟩ ⟨Nat.le_of_ble_eq_true rfl, Nat.le_of_ble_eq_true rfl⟩ ⟨rfl, rfl⟩ hK hP rfl rfl rfl hl.1 rfl rfl (Nat.le_of_ble_eq_true rfl) ⟨Nat.zero_le _, Nat.zero_le _⟩ dX5_canHold_2 ?_
  refine zif_eq (tgt := 20) hx hb dX5_canHold_5 (by decide) (fun c_2 => ?_) (fun c_2 => ?_)
  · have hq := hq.trans (zif_f c_2)
    refine lv_iconst (v := 0) hx hb dX5_canHold_20 (by decide) ?_
    exact zret_z (q' := false) hx hb hr hlocks dX5_canHold_21 hq
  · have hq := hq.trans (zif_t c_2)
    have w_3 := znat (zmb (by with_reducible assumption) (zI_B z0))
    have w_3b := w_3.2
    have hl : lv_has ls 2 [(0, .ref (u 0)), (1, .int (nI (Int32.toNatClampNeg xx)))] := by rw [← w_3.1]; exact hl
    refine lv_aload_n hx hb dX5_canHold_8 rfl (lv_at hl 0 rfl) ?_
    refine lv_iload_n hx hb dX5_canHold_9 rfl (lv_at hl 1 rfl) ?_
    refine zcV (ci := 5) (n := 1) (c_X5_isOpen l D g u M w (Int32.toNatClampNeg xx) (by omega)) hx hb hml hown hts gX5_canHold_X5_isOpen rfl ⟨rfl, by decide, by decide, by decide⟩ ⟨Nat.le_of_ble_eq_true rfl, Nat.le_of_ble_eq_true rfl⟩ ⟨rfl, rfl⟩ hK hP rfl rfl rfl hl.1 rfl rfl (Nat.le_of_ble_eq_true rfl) ⟨Nat.zero_le _, Nat.zero_le _⟩ dX5_canHold_10 ?_
    refine zif_eq (tgt := 20) hx hb dX5_canHold_13 (by decide) (fun c_5 => ?_) (fun c_5 => ?_)
    · have hq := hq.trans (zif_f c_5)
      refine lv_iconst (v := 0) hx hb dX5_canHold_20 (by decide) ?_
      exact zret_z (q' := false) hx hb hr hlocks dX5_canHold_21 hq
    · have hq := hq.trans (zif_t c_5)
      refine lv_iconst (v := 1) hx hb dX5_canHold_16 (by decide) ?_
      refine lv_goto (tgt := 21) hx hb dX5_canHold_17 (by decide) ?_
      exact zret_z (q' := true) hx hb hr hlocks dX5_canHold_21 hq
def v_X5_layAhead_2 (b : Nat) : Nat → Nat → (Nat → Nat → Int32) → (Nat → Nat → Int32)
  | 0, _, _ => ((fun _ _ => 0))
  | n + 1, i, M1 => (if 150 ≤ i then M1 else (if (v_X5_eatsNow M1 i b) ≤ 0 then v_X5_layAhead_2 b n (i + 1) (zU M1 6 (upd (M1 6) i 0)) else v_X5_layAhead_2 b n (i + 1) (zU M1 6 (upd (M1 6) i 1))))
def v_X5_layAhead (M : Nat → Nat → Int32) (b : Nat) : (Nat → Nat → Int32) := v_X5_layAhead_2 b 151 0 M
set_option maxHeartbeats 400000 in
set_option maxRecDepth 100000 in
theorem c_X5_layAhead (l : Launch) (D : va_G) (g : Nat → ClassId) (u : Nat → Nat) (M : Nat → Nat → Int32) (w : Int64) (b : Nat) (z0 : b < 8) (z1 : zI M) : Wr l D (zT g) yX5_layAhead wsX5_layAhead (rmOf 4 88) [.ref (u 0), .int (nI b)] (zB_X5 (g 0) u M w) (none) (zB_X5 (g 0) u (v_X5_layAhead M b) w) := by
  refine Wr.of (cc := cX5_layAhead) (maxL := 3) (ret := none) (by decide) rfl (Nat.le_of_ble_eq_true rfl) ?_
  intro p e s m below meth c ls hx hb hr hml hown hts hlocks hP hD hS hK hl
  have hown : s.vm.findClass RX5 = some m.cls := hown
  have hinX5 : ∀ w ∈ u_ws RX5 TX5 13, w ∈ wsX5_layAhead := fun _ h9 => (List.mem_cons_of_mem _ (List.mem_append_right _ h9))
  obtain ⟨q, hq⟩ : ∃ q : (Nat → Nat → Int32), q = v_X5_layAhead M b := ⟨_, rfl⟩
  rw [← hq]
  unfold v_X5_layAhead at hq
  have hl : lv_has ls 3 [(0, .ref (u 0)), (1, .int (nI b))] := hl
  refine lv_iconst (v := 0) hx hb dX5_layAhead_0 (by decide) ?_
  refine lv_istore_n (lv' := [(2, .int 0), (0, .ref (u 0)), (1, .int (nI b))]) hx hb dX5_layAhead_1 rfl hl (by decide) rfl (fun ls hl => ?_)
  have L2 : ∀ (n : Nat) (i : Nat) (M1 : Nat → Nat → Int32), (i ≤ 150) → (M1 0 = M 0) → 150 - i < n → ∀ (H : Heap) (locs : List Loc), va_P D vwCl (zB_X5 (g 0) u M1 w) H → va_D (zA (zB_X5 (g 0) u M w)) (zB_X5 (g 0) u M1 w) → va_S (zA (zB_X5 (g 0) u M w)) s.heap H locs → ∀ (ls : Array Slot), lv_has ls 3 [(0, .ref (u 0)), (1, .int (nI b)), (2, .int (nI i))] → q = v_X5_layAhead_2 b n i M1 → W p l e (rmOf 4 88) s m [.ref (u 0), .int (nI b)].toArray below meth c H locs 0 0 (MQ below (zQw D (zB_X5 (g 0) u M w) (none) (zB_X5 (g 0) u q w)) [.ref (u 0), .int (nI b)].toArray s 0 0 (zA (zB_X5 (g 0) u M w))) (F0 m 2 ls []) := by
    intro n
    induction n with
    | zero => intro i M1 v2_0 v2_1 hn; exact absurd hn (Nat.not_lt_zero _)
    | succ n ih2 =>
      intro i M1 v2_0 v2_1 hn2 H locs hP hD hS ls hl hq
      rw [v_X5_layAhead_2] at hq
      refine lv_iload_n hx hb dX5_layAhead_2 rfl (lv_at hl 2 rfl) ?_
      refine lv_sipush (v := 150) hx hb dX5_layAhead_3 (by decide) ?_
      refine lv_icmp_ge (tgt := 35) hx hb dX5_layAhead_6 (by decide) (fun c_1 => ?_) (fun c_1 => ?_)
      · have c_1 : 150 ≤ i := (nI_leI (a := 150) (b := i) (by omega) (by omega)).mp c_1
        have hq := hq.trans (if_pos c_1)
        exact zretw_v hx hb hr hlocks dX5_layAhead_35 hP hS (congrArg (fun z9 => zB_X5 (g 0) u z9 w) hq)
      · have c_1 : ¬ (150 ≤ i) := fun h9 => c_1 ((nI_leI (a := 150) (b := i) (by omega) (by omega)).mpr h9)
        have hq := hq.trans (if_neg c_1)
        refine lv_aload_n hx hb dX5_layAhead_9 rfl (lv_at hl 0 rfl) ?_
        refine va_get (D := D) (ci := 5) (v := .ref (u 7)) (C := RX5) (T := TX5) (N := 13) hx hb hts hinX5 hown hK.1 hP 0 rfl rfl 6 (by decide) (hts (.fieldLink RX5 19 "SaltSharesModel" "ahead" "[I") (List.mem_of_getElem? (i := 1) rfl)) (fun _ h9 => h9) rfl dX5_layAhead_10 ?_
        refine lv_iload_n hx hb dX5_layAhead_13 rfl (lv_at hl 2 rfl) ?_
        refine lv_aload_n hx hb dX5_layAhead_14 rfl (lv_at hl 0 rfl) ?_
        refine lv_iload_n hx hb dX5_layAhead_15 rfl (lv_at hl 2 rfl) ?_
        refine lv_iload_n hx hb dX5_layAhead_16 rfl (lv_at hl 1 rfl) ?_
        refine zcV (ci := 5) (n := 2) (c_X5_eatsNow l D g u M1 w i b (by omega) (by omega) (zI_G (zI_row v2_1 z1))) hx hb hml hown hts gX5_layAhead_X5_eatsNow rfl ⟨rfl, by decide, by decide, by decide⟩ ⟨Nat.le_of_ble_eq_true rfl, Nat.le_of_ble_eq_true rfl⟩ ⟨rfl, rfl⟩ hK hP rfl rfl rfl hl.1 rfl rfl (Nat.le_of_ble_eq_true rfl) ⟨Nat.zero_le _, Nat.zero_le _⟩ dX5_layAhead_17 ?_
        refine lv_if_le (tgt := 27) hx hb dX5_layAhead_20 (by decide) (fun c_3 => ?_) (fun c_3 => ?_)
        · have c_3 : (v_X5_eatsNow M1 i b) ≤ 0 := c_3
          have hq := hq.trans (if_pos c_3)
          refine lv_iconst (v := 0) hx hb dX5_layAhead_27 (by decide) ?_
          refine z_iast (i := i) (x := 0) hx hb hK hP hD hS 4 0 rfl rfl (by omega) (by decide) dX5_layAhead_28 (fun H locs hP hD hS => ?_)
          have hP : va_P D vwCl (zB_X5 (g 0) u (zU M1 6 (upd (M1 6) i 0)) w) H := hP
          have hD : va_D (zA (zB_X5 (g 0) u M w)) (zB_X5 (g 0) u (zU M1 6 (upd (M1 6) i 0)) w) := hD
          refine lv_iinc (v := (nI (i + 1))) (lv' := [(2, .int (nI (i + 1))), (0, .ref (u 0)), (1, .int (nI b))]) hx hb dX5_layAhead_29 hl (k := 2) rfl (nI_add _ 1) (by decide) rfl (fun ls hl => ?_)
          refine lv_goto (tgt := 2) hx hb dX5_layAhead_32 (by decide) ?_
          exact ih2 (i + 1) (zU M1 6 (upd (M1 6) i 0)) (by omega) (by rw [zU_n _ _ (by decide)]; exact v2_1) (by omega) _ _ hP hD hS ls (lv_sub hl [1, 2, 0] rfl) hq
        · have c_3 : ¬ ((v_X5_eatsNow M1 i b) ≤ 0) := c_3
          have hq := hq.trans (if_neg c_3)
          refine lv_iconst (v := 1) hx hb dX5_layAhead_23 (by decide) ?_
          refine lv_goto (tgt := 28) hx hb dX5_layAhead_24 (by decide) ?_
          refine z_iast (i := i) (x := 1) hx hb hK hP hD hS 4 0 rfl rfl (by omega) (by decide) dX5_layAhead_28 (fun H locs hP hD hS => ?_)
          have hP : va_P D vwCl (zB_X5 (g 0) u (zU M1 6 (upd (M1 6) i 1)) w) H := hP
          have hD : va_D (zA (zB_X5 (g 0) u M w)) (zB_X5 (g 0) u (zU M1 6 (upd (M1 6) i 1)) w) := hD
          refine lv_iinc (v := (nI (i + 1))) (lv' := [(2, .int (nI (i + 1))), (0, .ref (u 0)), (1, .int (nI b))]) hx hb dX5_layAhead_29 hl (k := 2) rfl (nI_add _ 1) (by decide) rfl (fun ls hl => ?_)
          refine lv_goto (tgt := 2) hx hb dX5_layAhead_32 (by decide) ?_
          exact ih2 (i + 1) (zU M1 6 (upd (M1 6) i 1)) (by omega) (by rw [zU_n _ _ (by decide)]; exact v2_1) (by omega) _ _ hP hD hS ls (lv_sub hl [1, 2, 0] rfl) hq
  exact L2 151 0 M (by decide) rfl (by decide) _ _ hP hD hS ls (lv_sub hl [1, 2, 0] rfl) hq
def v_X5_holds (M : Nat → Nat → Int32) (pe : Nat) (b : Nat) (isin : Int32) (isout : Int32) : (Nat → Nat → Int32) := zU M 0 (upd (upd (M 0) (353 + pe) (((M 0 (353 + pe)) &&& (((1 : Int32) <<< ((nI b) &&& 31)) ^^^ (-1))) ||| (isin <<< ((nI b) &&& 31)))) (503 + pe) ((((upd (M 0) (353 + pe) (((M 0 (353 + pe)) &&& (((1 : Int32) <<< ((nI b) &&& 31)) ^^^ (-1))) ||| (isin <<< ((nI b) &&& 31)))) (503 + pe)) &&& (((1 : Int32) <<< ((nI b) &&& 31)) ^^^ (-1))) ||| (isout <<< ((nI b) &&& 31))))
set_option maxHeartbeats 400000 in
set_option maxRecDepth 100000 in
theorem c_X5_holds (l : Launch) (D : va_G) (g : Nat → ClassId) (u : Nat → Nat) (M : Nat → Nat → Int32) (w : Int64) (pe : Nat) (b : Nat) (isin : Int32) (isout : Int32) (z0 : pe < 150) (z1 : b < 8) : Wr l D (zT g) yX5_holds wsX5_holds (rmOf 0 0) [.ref (u 0), .int (nI pe), .int (nI b), .int isin, .int isout] (zB_X5 (g 0) u M w) (none) (zB_X5 (g 0) u (v_X5_holds M pe b isin isout) w) := by
  refine Wr.of (cc := cX5_holds) (maxL := 5) (ret := none) (by decide) rfl (Nat.le_of_ble_eq_true rfl) ?_
  intro p e s m below meth c ls hx hb hr hml hown hts hlocks hP hD hS hK hl
  have hown : s.vm.findClass RX5 = some m.cls := hown
  have hinX5 : ∀ w ∈ u_ws RX5 TX5 13, w ∈ wsX5_holds := fun _ h9 => (List.mem_cons_of_mem _ (List.mem_append_right _ h9))
  obtain ⟨q, hq⟩ : ∃ q : (Nat → Nat → Int32), q = v_X5_holds M pe b isin isout := ⟨_, rfl⟩
  rw [← hq]
  unfold v_X5_holds at hq
  have hl : lv_has ls 5 [(0, .ref (u 0)), (1, .int (nI pe)), (2, .int (nI b)), (3, .int isin), (4, .int isout)] := hl
  refine lv_aload_n hx hb dX5_holds_0 rfl (lv_at hl 0 rfl) ?_
  refine va_get (D := D) (ci := 5) (v := .ref (u 1)) (C := RX5) (T := TX5) (N := 13) hx hb hts hinX5 hown hK.1 hP 0 rfl rfl 0 (by decide) (hts (.fieldLink RX5 7 "SaltSharesModel" "z" "[I") (List.mem_of_getElem? (i := 1) rfl)) (fun _ h9 => h9) rfl dX5_holds_1 ?_
  refine lv_sipush (v := 353) hx hb dX5_holds_4 (by decide) ?_
  refine lv_iload_n hx hb dX5_holds_7 rfl (lv_at hl 1 rfl) ?_
  refine lv_iadd hx hb dX5_holds_8 ?_
  refine lv_is (show (353 : Int32) + (nI pe) = (nI (353 + pe)) from nI_add 353 pe) ?_
  refine lv_aload_n hx hb dX5_holds_9 rfl (lv_at hl 0 rfl) ?_
  refine va_get (D := D) (ci := 5) (v := .ref (u 1)) (C := RX5) (T := TX5) (N := 13) hx hb hts hinX5 hown hK.1 hP 0 rfl rfl 0 (by decide) (hts (.fieldLink RX5 7 "SaltSharesModel" "z" "[I") (List.mem_of_getElem? (i := 1) rfl)) (fun _ h9 => h9) rfl dX5_holds_10 ?_
  refine lv_sipush (v := 353) hx hb dX5_holds_13 (by decide) ?_
  refine lv_iload_n hx hb dX5_holds_16 rfl (lv_at hl 1 rfl) ?_
  refine lv_iadd hx hb dX5_holds_17 ?_
  refine lv_is (show (353 : Int32) + (nI pe) = (nI (353 + pe)) from nI_add 353 pe) ?_
  refine z_iald (i := 353 + pe) hx hb hK hP 1 0 rfl rfl (by omega) (by decide) dX5_holds_18 ?_
  refine lv_iconst (v := 1) hx hb dX5_holds_19 (by decide) ?_
  refine lv_iload_n hx hb dX5_holds_20 rfl (lv_at hl 2 rfl) ?_
  refine lv_ishl hx hb dX5_holds_21 ?_
  refine lv_iconst (v := (-1)) hx hb dX5_holds_22 (by decide) ?_
  refine lv_ixor hx hb dX5_holds_23 ?_
  refine lv_iand hx hb dX5_holds_24 ?_
  refine lv_iload_n hx hb dX5_holds_25 rfl (lv_at hl 3 rfl) ?_
  refine lv_iload_n hx hb dX5_holds_26 rfl (lv_at hl 2 rfl) ?_
  refine lv_ishl hx hb dX5_holds_27 ?_
  refine lv_ior hx hb dX5_holds_28 ?_
  refine z_iast (i := 353 + pe) (x := (((M 0 (353 + pe)) &&& (((1 : Int32) <<< ((nI b) &&& 31)) ^^^ (-1))) ||| (isin <<< ((nI b) &&& 31)))) hx hb hK hP hD hS 1 0 rfl rfl (by omega) (by decide) dX5_holds_29 (fun H locs hP hD hS => ?_)
  have hP : va_P D vwCl (zB_X5 (g 0) u (zU M 0 (upd (M 0) (353 + pe) (((M 0 (353 + pe)) &&& (((1 : Int32) <<< ((nI b) &&& 31)) ^^^ (-1))) ||| (isin <<< ((nI b) &&& 31))))) w) H := hP
  have hD : va_D (zA (zB_X5 (g 0) u M w)) (zB_X5 (g 0) u (zU M 0 (upd (M 0) (353 + pe) (((M 0 (353 + pe)) &&& (((1 : Int32) <<< ((nI b) &&& 31)) ^^^ (-1))) ||| (isin <<< ((nI b) &&& 31))))) w) := hD
  refine lv_aload_n hx hb dX5_holds_30 rfl (lv_at hl 0 rfl) ?_
  refine va_get (D := D) (ci := 5) (v := .ref (u 1)) (C := RX5) (T := TX5) (N := 13) hx hb hts hinX5 hown hK.1 hP 0 rfl rfl 0 (by decide) (hts (.fieldLink RX5 7 "SaltSharesModel" "z" "[I") (List.mem_of_getElem? (i := 1) rfl)) (fun _ h9 => h9) rfl dX5_holds_31 ?_
  refine lv_sipush (v := 503) hx hb dX5_holds_34 (by decide) ?_
  refine lv_iload_n hx hb dX5_holds_37 rfl (lv_at hl 1 rfl) ?_
  refine lv_iadd hx hb dX5_holds_38 ?_
  refine lv_is (show (503 : Int32) + (nI pe) = (nI (503 + pe)) from nI_add 503 pe) ?_
  refine lv_aload_n hx hb dX5_holds_39 rfl (lv_at hl 0 rfl) ?_
  refine va_get (D := D) (ci := 5) (v := .ref (u 1)) (C := RX5) (T := TX5) (N := 13) hx hb hts hinX5 hown hK.1 hP 0 rfl rfl 0 (by decide) (hts (.fieldLink RX5 7 "SaltSharesModel" "z" "[I") (List.mem_of_getElem? (i := 1) rfl)) (fun _ h9 => h9) rfl dX5_holds_40 ?_
  refine lv_sipush (v := 503) hx hb dX5_holds_43 (by decide) ?_
  refine lv_iload_n hx hb dX5_holds_46 rfl (lv_at hl 1 rfl) ?_
  refine lv_iadd hx hb dX5_holds_47 ?_
  refine lv_is (show (503 : Int32) + (nI pe) = (nI (503 + pe)) from nI_add 503 pe) ?_
  refine z_iald (i := 503 + pe) hx hb hK hP 1 0 rfl rfl (by omega) (by decide) dX5_holds_48 ?_
  refine lv_iconst (v := 1) hx hb dX5_holds_49 (by decide) ?_
  refine lv_iload_n hx hb dX5_holds_50 rfl (lv_at hl 2 rfl) ?_
  refine lv_ishl hx hb dX5_holds_51 ?_
  refine lv_iconst (v := (-1)) hx hb dX5_holds_52 (by decide) ?_
  refine lv_ixor hx hb dX5_holds_53 ?_
  refine lv_iand hx hb dX5_holds_54 ?_
  refine lv_iload hx hb dX5_holds_55 (lv_at hl 4 rfl) ?_
  refine lv_iload_n hx hb dX5_holds_57 rfl (lv_at hl 2 rfl) ?_
  refine lv_ishl hx hb dX5_holds_58 ?_
  refine lv_ior hx hb dX5_holds_59 ?_
  refine z_iast (i := 503 + pe) (x := ((((upd (M 0) (353 + pe) (((M 0 (353 + pe)) &&& (((1 : Int32) <<< ((nI b) &&& 31)) ^^^ (-1))) ||| (isin <<< ((nI b) &&& 31)))) (503 + pe)) &&& (((1 : Int32) <<< ((nI b) &&& 31)) ^^^ (-1))) ||| (isout <<< ((nI b) &&& 31)))) hx hb hK hP hD hS 1 0 rfl rfl (by omega) (by decide) dX5_holds_60 (fun H locs hP hD hS => ?_)
  have hP : va_P D vwCl (zB_X5 (g 0) u (zU M 0 (upd (upd (M 0) (353 + pe) (((M 0 (353 + pe)) &&& (((1 : Int32) <<< ((nI b) &&& 31)) ^^^ (-1))) ||| (isin <<< ((nI b) &&& 31)))) (503 + pe) ((((upd (M 0) (353 + pe) (((M 0 (353 + pe)) &&& (((1 : Int32) <<< ((nI b) &&& 31)) ^^^ (-1))) ||| (isin <<< ((nI b) &&& 31)))) (503 + pe)) &&& (((1 : Int32) <<< ((nI b) &&& 31)) ^^^ (-1))) ||| (isout <<< ((nI b) &&& 31))))) w) H := hP
  have hD : va_D (zA (zB_X5 (g 0) u M w)) (zB_X5 (g 0) u (zU M 0 (upd (upd (M 0) (353 + pe) (((M 0 (353 + pe)) &&& (((1 : Int32) <<< ((nI b) &&& 31)) ^^^ (-1))) ||| (isin <<< ((nI b) &&& 31)))) (503 + pe) ((((upd (M 0) (353 + pe) (((M 0 (353 + pe)) &&& (((1 : Int32) <<< ((nI b) &&& 31)) ^^^ (-1))) ||| (isin <<< ((nI b) &&& 31)))) (503 + pe)) &&& (((1 : Int32) <<< ((nI b) &&& 31)) ^^^ (-1))) ||| (isout <<< ((nI b) &&& 31))))) w) := hD
  exact zretw_v hx hb hr hlocks dX5_holds_61 hP hS (congrArg (fun z9 => zB_X5 (g 0) u z9 w) hq)
def v_X5_append (M : Nat → Nat → Int32) (code : Int32) : Int32 × (Nat → Nat → Int32) := (if (v_X5_within code 33 126) = true then (if (M 3 0) = 60 then (0, zU M 5 (fun _ => 2)) else (((M 3 0) + 1), zU (zU (zU M 5 (fun _ => 0)) 4 (upd (M 4) (Int32.toNatClampNeg (M 3 0)) code)) 3 (fun _ => ((M 3 0) + 1)))) else (0, zU M 5 (fun _ => 1)))
set_option maxHeartbeats 400000 in
set_option maxRecDepth 100000 in
theorem c_X5_append (l : Launch) (D : va_G) (g : Nat → ClassId) (u : Nat → Nat) (M : Nat → Nat → Int32) (w : Int64) (code : Int32) (z0 : vp_in (M 3 0) 61) : Wr l D (zT g) yX5_append wsX5_append (rmOf 1 22) [.ref (u 0), .int code] (zB_X5 (g 0) u M w) (some (.int ((v_X5_append M code).1))) (zB_X5 (g 0) u ((v_X5_append M code).2) w) := by
  refine Wr.of (cc := cX5_append) (maxL := 2) (ret := (some .int)) (by decide) rfl (Nat.le_of_ble_eq_true rfl) ?_
  intro p e s m below meth c ls hx hb hr hml hown hts hlocks hP hD hS hK hl
  have hown : s.vm.findClass RX5 = some m.cls := hown
  have hinX5 : ∀ w ∈ u_ws RX5 TX5 13, w ∈ wsX5_append := fun _ h9 => (List.mem_cons_of_mem _ (List.mem_append_right _ h9))
  obtain ⟨q, hq⟩ : ∃ q : Int32 × (Nat → Nat → Int32), q = v_X5_append M code := ⟨_, rfl⟩
  rw [← hq]
  unfold v_X5_append at hq
  have hl : lv_has ls 2 [(0, .ref (u 0)), (1, .int code)] := hl
  refine lv_aload_n hx hb dX5_append_0 rfl (lv_at hl 0 rfl) ?_
  refine lv_iload_n hx hb dX5_append_1 rfl (lv_at hl 1 rfl) ?_
  refine lv_bipush (v := 33) hx hb dX5_append_2 (by decide) ?_
  refine lv_bipush (v := 126) hx hb dX5_append_4 (by decide) ?_
  refine zcSO (n := 3) (c_X5_within l D g code 33 126) hx hb hml hown hts gX5_append_X5_within rfl ⟨by decide, by decide, by decide⟩ ⟨Nat.le_of_ble_eq_true rfl, Nat.le_of_ble_eq_true rfl⟩ ⟨rfl, rfl⟩ hK (hP.sub [] rfl) hl.1 rfl rfl (Nat.le_of_ble_eq_true rfl) ⟨Nat.zero_le _, Nat.zero_le _⟩ dX5_append_6 ?_
  refine zif_ne (tgt := 16) hx hb dX5_append_9 (by decide) (fun c_2 => ?_) (fun c_2 => ?_)
  · have hq := hq.trans (zif_t c_2)
    refine lv_aload_n hx hb dX5_append_16 rfl (lv_at hl 0 rfl) ?_
    refine va_get (D := D) (ci := 5) (v := .int (M 3 0)) (C := RX5) (T := TX5) (N := 13) hx hb hts hinX5 hown hK.1 hP 0 rfl rfl 3 (by decide) (hts (.fieldLink RX5 153 "SaltSharesModel" "length" "I") (List.mem_of_getElem? (i := 1) rfl)) (fun _ h9 => h9) rfl dX5_append_17 ?_
    refine lv_bipush (v := 60) hx hb dX5_append_20 (by decide) ?_
    refine lv_icmp_ne (tgt := 29) hx hb dX5_append_22 (by decide) (fun c_3 => ?_) (fun c_3 => ?_)
    · have c_3 : ¬ ((M 3 0) = 60) := c_3
      have hq := hq.trans (if_neg c_3)
      refine lv_iconst (v := 0) hx hb dX5_append_29 (by decide) ?_
      refine va_put (D := D) (ci := 5) (v := .int 0) (ty := .int) (C := RX5) (T := TX5) (N := 13) hx hb hts hinX5 tyX5 tyX5_ok nmX5 hown hK.1 hP hD hS 0 rfl rfl 5 (by decide) (hts (.fieldLink RX5 28 "SaltSharesModel" "thrown" "I") (List.mem_of_getElem? (i := 2) rfl)) (fun _ h9 => h9) rfl (by decide +kernel) rfl rfl (Nat.le_of_ble_eq_true rfl) dX5_append_30 (fun H locs hP hD hS => ?_)
      have hP : va_P D vwCl (zB_X5 (g 0) u (zU M 5 (fun _ => 0)) w) H := hP
      have hD : va_D (zA (zB_X5 (g 0) u M w)) (zB_X5 (g 0) u (zU M 5 (fun _ => 0)) w) := hD
      refine lv_aload_n hx hb dX5_append_33 rfl (lv_at hl 0 rfl) ?_
      refine va_get (D := D) (ci := 5) (v := .int 0) (C := RX5) (T := TX5) (N := 13) hx hb hts hinX5 hown hK.1 hP 0 rfl rfl 5 (by decide) (hts (.fieldLink RX5 28 "SaltSharesModel" "thrown" "I") (List.mem_of_getElem? (i := 2) rfl)) (fun _ h9 => h9) rfl dX5_append_34 ?_
      refine lv_if_le (tgt := 42) hx hb dX5_append_37 (by decide) (fun c_4 => ?_) (fun c_4 => ?_)
      rotate_left
      · exact absurd c_4 (by decide)
      refine lv_aload_n hx hb dX5_append_42 rfl (lv_at hl 0 rfl) ?_
      refine va_get (D := D) (ci := 5) (v := .ref (u 5)) (C := RX5) (T := TX5) (N := 13) hx hb hts hinX5 hown hK.1 hP 0 rfl rfl 4 (by decide) (hts (.fieldLink RX5 16 "SaltSharesModel" "text" "[I") (List.mem_of_getElem? (i := 3) rfl)) (fun _ h9 => h9) rfl dX5_append_43 ?_
      refine lv_aload_n hx hb dX5_append_46 rfl (lv_at hl 0 rfl) ?_
      refine va_get (D := D) (ci := 5) (v := .int (M 3 0)) (C := RX5) (T := TX5) (N := 13) hx hb hts hinX5 hown hK.1 hP 0 rfl rfl 3 (by decide) (hts (.fieldLink RX5 153 "SaltSharesModel" "length" "I") (List.mem_of_getElem? (i := 1) rfl)) (fun _ h9 => h9) rfl dX5_append_47 ?_
      have w_5 := znat (z60 z0 (by with_reducible assumption))
      have w_5b := w_5.2
      refine lv_is w_5.1 ?_
      refine lv_iload_n hx hb dX5_append_50 rfl (lv_at hl 1 rfl) ?_
      refine z_iast (i := Int32.toNatClampNeg (M 3 0)) (x := code) hx hb hK hP hD hS 3 0 rfl rfl (by omega) (by decide) dX5_append_51 (fun H locs hP hD hS => ?_)
      have hP : va_P D vwCl (zB_X5 (g 0) u (zU (zU M 5 (fun _ => 0)) 4 (upd (M 4) (Int32.toNatClampNeg (M 3 0)) code)) w) H := hP
      have hD : va_D (zA (zB_X5 (g 0) u M w)) (zB_X5 (g 0) u (zU (zU M 5 (fun _ => 0)) 4 (upd (M 4) (Int32.toNatClampNeg (M 3 0)) code)) w) := hD
      refine lv_aload_n hx hb dX5_append_52 rfl (lv_at hl 0 rfl) ?_
      refine lv_dup hx hb dX5_append_53 rfl ?_
      refine va_get (D := D) (ci := 5) (v := .int (M 3 0)) (C := RX5) (T := TX5) (N := 13) hx hb hts hinX5 hown hK.1 hP 0 rfl rfl 3 (by decide) (hts (.fieldLink RX5 153 "SaltSharesModel" "length" "I") (List.mem_of_getElem? (i := 1) rfl)) (fun _ h9 => h9) rfl dX5_append_54 ?_
      refine lv_iconst (v := 1) hx hb dX5_append_57 (by decide) ?_
      refine lv_iadd hx hb dX5_append_58 ?_
      refine va_put (D := D) (ci := 5) (v := .int ((M 3 0) + 1)) (ty := .int) (C := RX5) (T := TX5) (N := 13) hx hb hts hinX5 tyX5 tyX5_ok nmX5 hown hK.1 hP hD hS 0 rfl rfl 3 (by decide) (hts (.fieldLink RX5 153 "SaltSharesModel" "length" "I") (List.mem_of_getElem? (i := 1) rfl)) (fun _ h9 => h9) rfl (by decide +kernel) rfl rfl (Nat.le_of_ble_eq_true rfl) dX5_append_59 (fun H locs hP hD hS => ?_)
      have hP : va_P D vwCl (zB_X5 (g 0) u (zU (zU (zU M 5 (fun _ => 0)) 4 (upd (M 4) (Int32.toNatClampNeg (M 3 0)) code)) 3 (fun _ => ((M 3 0) + 1))) w) H := hP
      have hD : va_D (zA (zB_X5 (g 0) u M w)) (zB_X5 (g 0) u (zU (zU (zU M 5 (fun _ => 0)) 4 (upd (M 4) (Int32.toNatClampNeg (M 3 0)) code)) 3 (fun _ => ((M 3 0) + 1))) w) := hD
      refine lv_aload_n hx hb dX5_append_62 rfl (lv_at hl 0 rfl) ?_
      refine va_get (D := D) (ci := 5) (v := .int ((M 3 0) + 1)) (C := RX5) (T := TX5) (N := 13) hx hb hts hinX5 hown hK.1 hP 0 rfl rfl 3 (by decide) (hts (.fieldLink RX5 153 "SaltSharesModel" "length" "I") (List.mem_of_getElem? (i := 1) rfl)) (fun _ h9 => h9) rfl dX5_append_63 ?_
      exact zretw_i hx hb hr hlocks dX5_append_66 hP hS (congrArg (fun z9 => z9.1) hq) (congrArg (fun z9 => zB_X5 (g 0) u z9.2 w) hq)
    · have c_3 : (M 3 0) = 60 := c_3
      have hq := hq.trans (if_pos c_3)
      refine lv_iconst (v := 2) hx hb dX5_append_25 (by decide) ?_
      refine lv_goto (tgt := 30) hx hb dX5_append_26 (by decide) ?_
      refine va_put (D := D) (ci := 5) (v := .int 2) (ty := .int) (C := RX5) (T := TX5) (N := 13) hx hb hts hinX5 tyX5 tyX5_ok nmX5 hown hK.1 hP hD hS 0 rfl rfl 5 (by decide) (hts (.fieldLink RX5 28 "SaltSharesModel" "thrown" "I") (List.mem_of_getElem? (i := 2) rfl)) (fun _ h9 => h9) rfl (by decide +kernel) rfl rfl (Nat.le_of_ble_eq_true rfl) dX5_append_30 (fun H locs hP hD hS => ?_)
      have hP : va_P D vwCl (zB_X5 (g 0) u (zU M 5 (fun _ => 2)) w) H := hP
      have hD : va_D (zA (zB_X5 (g 0) u M w)) (zB_X5 (g 0) u (zU M 5 (fun _ => 2)) w) := hD
      refine lv_aload_n hx hb dX5_append_33 rfl (lv_at hl 0 rfl) ?_
      refine va_get (D := D) (ci := 5) (v := .int 2) (C := RX5) (T := TX5) (N := 13) hx hb hts hinX5 hown hK.1 hP 0 rfl rfl 5 (by decide) (hts (.fieldLink RX5 28 "SaltSharesModel" "thrown" "I") (List.mem_of_getElem? (i := 2) rfl)) (fun _ h9 => h9) rfl dX5_append_34 ?_
      refine lv_if_le (tgt := 42) hx hb dX5_append_37 (by decide) (fun c_6 => ?_) (fun c_6 => ?_)
      · exact absurd c_6 (by decide)
      refine lv_iconst (v := 0) hx hb dX5_append_40 (by decide) ?_
      exact zretw_i hx hb hr hlocks dX5_append_41 hP hS (congrArg (fun z9 => z9.1) hq) (congrArg (fun z9 => zB_X5 (g 0) u z9.2 w) hq)
  · have hq := hq.trans (zif_f c_2)
    refine lv_iconst (v := 1) hx hb dX5_append_12 (by decide) ?_
    refine lv_goto (tgt := 30) hx hb dX5_append_13 (by decide) ?_
    refine va_put (D := D) (ci := 5) (v := .int 1) (ty := .int) (C := RX5) (T := TX5) (N := 13) hx hb hts hinX5 tyX5 tyX5_ok nmX5 hown hK.1 hP hD hS 0 rfl rfl 5 (by decide) (hts (.fieldLink RX5 28 "SaltSharesModel" "thrown" "I") (List.mem_of_getElem? (i := 2) rfl)) (fun _ h9 => h9) rfl (by decide +kernel) rfl rfl (Nat.le_of_ble_eq_true rfl) dX5_append_30 (fun H locs hP hD hS => ?_)
    have hP : va_P D vwCl (zB_X5 (g 0) u (zU M 5 (fun _ => 1)) w) H := hP
    have hD : va_D (zA (zB_X5 (g 0) u M w)) (zB_X5 (g 0) u (zU M 5 (fun _ => 1)) w) := hD
    refine lv_aload_n hx hb dX5_append_33 rfl (lv_at hl 0 rfl) ?_
    refine va_get (D := D) (ci := 5) (v := .int 1) (C := RX5) (T := TX5) (N := 13) hx hb hts hinX5 hown hK.1 hP 0 rfl rfl 5 (by decide) (hts (.fieldLink RX5 28 "SaltSharesModel" "thrown" "I") (List.mem_of_getElem? (i := 2) rfl)) (fun _ h9 => h9) rfl dX5_append_34 ?_
    refine lv_if_le (tgt := 42) hx hb dX5_append_37 (by decide) (fun c_7 => ?_) (fun c_7 => ?_)
    · exact absurd c_7 (by decide)
    refine lv_iconst (v := 0) hx hb dX5_append_40 (by decide) ?_
    exact zretw_i hx hb hr hlocks dX5_append_41 hP hS (congrArg (fun z9 => z9.1) hq) (congrArg (fun z9 => zB_X5 (g 0) u z9.2 w) hq)
def v_X5_clearBuffer (M : Nat → Nat → Int32) : Int32 × (Nat → Nat → Int32) := ((M 3 0), zU (zU M 5 (fun _ => 0)) 3 (fun _ => 0))
set_option maxHeartbeats 400000 in
set_option maxRecDepth 100000 in
theorem c_X5_clearBuffer (l : Launch) (D : va_G) (g : Nat → ClassId) (u : Nat → Nat) (M : Nat → Nat → Int32) (w : Int64) : Wr l D (zT g) yX5_clearBuffer wsX5_clearBuffer (rmOf 0 0) [.ref (u 0)] (zB_X5 (g 0) u M w) (some (.int ((v_X5_clearBuffer M).1))) (zB_X5 (g 0) u ((v_X5_clearBuffer M).2) w) := by
  refine Wr.of (cc := cX5_clearBuffer) (maxL := 2) (ret := (some .int)) (by decide) rfl (Nat.le_of_ble_eq_true rfl) ?_
  intro p e s m below meth c ls hx hb hr hml hown hts hlocks hP hD hS hK hl
  have hown : s.vm.findClass RX5 = some m.cls := hown
  have hinX5 : ∀ w ∈ u_ws RX5 TX5 13, w ∈ wsX5_clearBuffer := fun _ h9 => (List.mem_cons_of_mem _ (List.mem_append_right _ h9))
  obtain ⟨q, hq⟩ : ∃ q : Int32 × (Nat → Nat → Int32), q = v_X5_clearBuffer M := ⟨_, rfl⟩
  rw [← hq]
  unfold v_X5_clearBuffer at hq
  have hl : lv_has ls 2 [(0, .ref (u 0))] := hl
  refine lv_aload_n hx hb dX5_clearBuffer_0 rfl (lv_at hl 0 rfl) ?_
  refine lv_iconst (v := 0) hx hb dX5_clearBuffer_1 (by decide) ?_
  refine va_put (D := D) (ci := 5) (v := .int 0) (ty := .int) (C := RX5) (T := TX5) (N := 13) hx hb hts hinX5 tyX5 tyX5_ok nmX5 hown hK.1 hP hD hS 0 rfl rfl 5 (by decide) (hts (.fieldLink RX5 28 "SaltSharesModel" "thrown" "I") (List.mem_of_getElem? (i := 1) rfl)) (fun _ h9 => h9) rfl (by decide +kernel) rfl rfl (Nat.le_of_ble_eq_true rfl) dX5_clearBuffer_2 (fun H locs hP hD hS => ?_)
  have hP : va_P D vwCl (zB_X5 (g 0) u (zU M 5 (fun _ => 0)) w) H := hP
  have hD : va_D (zA (zB_X5 (g 0) u M w)) (zB_X5 (g 0) u (zU M 5 (fun _ => 0)) w) := hD
  refine lv_aload_n hx hb dX5_clearBuffer_5 rfl (lv_at hl 0 rfl) ?_
  refine va_get (D := D) (ci := 5) (v := .int (M 3 0)) (C := RX5) (T := TX5) (N := 13) hx hb hts hinX5 hown hK.1 hP 0 rfl rfl 3 (by decide) (hts (.fieldLink RX5 153 "SaltSharesModel" "length" "I") (List.mem_of_getElem? (i := 2) rfl)) (fun _ h9 => h9) rfl dX5_clearBuffer_6 ?_
  refine lv_istore_n (lv' := [(1, .int (M 3 0)), (0, .ref (u 0))]) hx hb dX5_clearBuffer_9 rfl hl (by decide) rfl (fun ls hl => ?_)
  refine lv_aload_n hx hb dX5_clearBuffer_10 rfl (lv_at hl 1 rfl) ?_
  refine lv_iconst (v := 0) hx hb dX5_clearBuffer_11 (by decide) ?_
  refine va_put (D := D) (ci := 5) (v := .int 0) (ty := .int) (C := RX5) (T := TX5) (N := 13) hx hb hts hinX5 tyX5 tyX5_ok nmX5 hown hK.1 hP hD hS 0 rfl rfl 3 (by decide) (hts (.fieldLink RX5 153 "SaltSharesModel" "length" "I") (List.mem_of_getElem? (i := 2) rfl)) (fun _ h9 => h9) rfl (by decide +kernel) rfl rfl (Nat.le_of_ble_eq_true rfl) dX5_clearBuffer_12 (fun H locs hP hD hS => ?_)
  have hP : va_P D vwCl (zB_X5 (g 0) u (zU (zU M 5 (fun _ => 0)) 3 (fun _ => 0)) w) H := hP
  have hD : va_D (zA (zB_X5 (g 0) u M w)) (zB_X5 (g 0) u (zU (zU M 5 (fun _ => 0)) 3 (fun _ => 0)) w) := hD
  refine lv_iload_n hx hb dX5_clearBuffer_15 rfl (lv_at hl 0 rfl) ?_
  exact zretw_i hx hb hr hlocks dX5_clearBuffer_16 hP hS (congrArg (fun z9 => z9.1) hq) (congrArg (fun z9 => zB_X5 (g 0) u z9.2 w) hq)
def v_X5_begins (M : Nat → Nat → Int32) (code : Int32) : Bool × (Nat → Nat → Int32) := (if code = 43 then (if code = 43 then (true, zU (zU (zU M 7 (upd (M 7) (3 * (Int32.toNatClampNeg (M 8 0))) code)) 9 (fun _ => (-1))) 10 (fun _ => 1)) else (if code = 45 then (true, zU (zU (zU M 7 (upd (M 7) (3 * (Int32.toNatClampNeg (M 8 0))) code)) 9 (fun _ => (-1))) 10 (fun _ => 1)) else (if code = 105 then (true, zU (zU (zU M 7 (upd (M 7) (3 * (Int32.toNatClampNeg (M 8 0))) code)) 9 (fun _ => (-1))) 10 (fun _ => 1)) else (if code = 111 then (true, zU (zU (zU M 7 (upd (M 7) (3 * (Int32.toNatClampNeg (M 8 0))) code)) 9 (fun _ => (-1))) 10 (fun _ => 1)) else (if code = 120 then (true, zU (zU (zU M 7 (upd (M 7) (3 * (Int32.toNatClampNeg (M 8 0))) code)) 9 (fun _ => (-1))) 10 (fun _ => 1)) else (if code = 100 then (true, zU (zU (zU M 7 (upd (M 7) (3 * (Int32.toNatClampNeg (M 8 0))) code)) 9 (fun _ => (-1))) 10 (fun _ => 1)) else (false, zU (zU (zU M 7 (upd (M 7) (3 * (Int32.toNatClampNeg (M 8 0))) code)) 9 (fun _ => (-1))) 10 (fun _ => 1)))))))) else (if code = 45 then (if code = 43 then (true, zU (zU (zU M 7 (upd (M 7) (3 * (Int32.toNatClampNeg (M 8 0))) code)) 9 (fun _ => (-1))) 10 (fun _ => 1)) else (if code = 45 then (true, zU (zU (zU M 7 (upd (M 7) (3 * (Int32.toNatClampNeg (M 8 0))) code)) 9 (fun _ => (-1))) 10 (fun _ => 1)) else (if code = 105 then (true, zU (zU (zU M 7 (upd (M 7) (3 * (Int32.toNatClampNeg (M 8 0))) code)) 9 (fun _ => (-1))) 10 (fun _ => 1)) else (if code = 111 then (true, zU (zU (zU M 7 (upd (M 7) (3 * (Int32.toNatClampNeg (M 8 0))) code)) 9 (fun _ => (-1))) 10 (fun _ => 1)) else (if code = 120 then (true, zU (zU (zU M 7 (upd (M 7) (3 * (Int32.toNatClampNeg (M 8 0))) code)) 9 (fun _ => (-1))) 10 (fun _ => 1)) else (if code = 100 then (true, zU (zU (zU M 7 (upd (M 7) (3 * (Int32.toNatClampNeg (M 8 0))) code)) 9 (fun _ => (-1))) 10 (fun _ => 1)) else (false, zU (zU (zU M 7 (upd (M 7) (3 * (Int32.toNatClampNeg (M 8 0))) code)) 9 (fun _ => (-1))) 10 (fun _ => 1)))))))) else (if code = 105 then (if code = 43 then (true, zU (zU (zU M 7 (upd (M 7) (3 * (Int32.toNatClampNeg (M 8 0))) code)) 9 (fun _ => (-1))) 10 (fun _ => 4)) else (if code = 45 then (true, zU (zU (zU M 7 (upd (M 7) (3 * (Int32.toNatClampNeg (M 8 0))) code)) 9 (fun _ => (-1))) 10 (fun _ => 4)) else (if code = 105 then (true, zU (zU (zU M 7 (upd (M 7) (3 * (Int32.toNatClampNeg (M 8 0))) code)) 9 (fun _ => (-1))) 10 (fun _ => 4)) else (if code = 111 then (true, zU (zU (zU M 7 (upd (M 7) (3 * (Int32.toNatClampNeg (M 8 0))) code)) 9 (fun _ => (-1))) 10 (fun _ => 4)) else (if code = 120 then (true, zU (zU (zU M 7 (upd (M 7) (3 * (Int32.toNatClampNeg (M 8 0))) code)) 9 (fun _ => (-1))) 10 (fun _ => 4)) else (if code = 100 then (true, zU (zU (zU M 7 (upd (M 7) (3 * (Int32.toNatClampNeg (M 8 0))) code)) 9 (fun _ => (-1))) 10 (fun _ => 4)) else (false, zU (zU (zU M 7 (upd (M 7) (3 * (Int32.toNatClampNeg (M 8 0))) code)) 9 (fun _ => (-1))) 10 (fun _ => 4)))))))) else (if code = 111 then (if code = 43 then (true, zU (zU (zU M 7 (upd (M 7) (3 * (Int32.toNatClampNeg (M 8 0))) code)) 9 (fun _ => (-1))) 10 (fun _ => 4)) else (if code = 45 then (true, zU (zU (zU M 7 (upd (M 7) (3 * (Int32.toNatClampNeg (M 8 0))) code)) 9 (fun _ => (-1))) 10 (fun _ => 4)) else (if code = 105 then (true, zU (zU (zU M 7 (upd (M 7) (3 * (Int32.toNatClampNeg (M 8 0))) code)) 9 (fun _ => (-1))) 10 (fun _ => 4)) else (if code = 111 then (true, zU (zU (zU M 7 (upd (M 7) (3 * (Int32.toNatClampNeg (M 8 0))) code)) 9 (fun _ => (-1))) 10 (fun _ => 4)) else (if code = 120 then (true, zU (zU (zU M 7 (upd (M 7) (3 * (Int32.toNatClampNeg (M 8 0))) code)) 9 (fun _ => (-1))) 10 (fun _ => 4)) else (if code = 100 then (true, zU (zU (zU M 7 (upd (M 7) (3 * (Int32.toNatClampNeg (M 8 0))) code)) 9 (fun _ => (-1))) 10 (fun _ => 4)) else (false, zU (zU (zU M 7 (upd (M 7) (3 * (Int32.toNatClampNeg (M 8 0))) code)) 9 (fun _ => (-1))) 10 (fun _ => 4)))))))) else (if code = 120 then (if code = 43 then (true, zU (zU (zU M 7 (upd (M 7) (3 * (Int32.toNatClampNeg (M 8 0))) code)) 9 (fun _ => (-1))) 10 (fun _ => 5)) else (if code = 45 then (true, zU (zU (zU M 7 (upd (M 7) (3 * (Int32.toNatClampNeg (M 8 0))) code)) 9 (fun _ => (-1))) 10 (fun _ => 5)) else (if code = 105 then (true, zU (zU (zU M 7 (upd (M 7) (3 * (Int32.toNatClampNeg (M 8 0))) code)) 9 (fun _ => (-1))) 10 (fun _ => 5)) else (if code = 111 then (true, zU (zU (zU M 7 (upd (M 7) (3 * (Int32.toNatClampNeg (M 8 0))) code)) 9 (fun _ => (-1))) 10 (fun _ => 5)) else (if code = 120 then (true, zU (zU (zU M 7 (upd (M 7) (3 * (Int32.toNatClampNeg (M 8 0))) code)) 9 (fun _ => (-1))) 10 (fun _ => 5)) else (if code = 100 then (true, zU (zU (zU M 7 (upd (M 7) (3 * (Int32.toNatClampNeg (M 8 0))) code)) 9 (fun _ => (-1))) 10 (fun _ => 5)) else (false, zU (zU (zU M 7 (upd (M 7) (3 * (Int32.toNatClampNeg (M 8 0))) code)) 9 (fun _ => (-1))) 10 (fun _ => 5)))))))) else (if code = 43 then (true, zU (zU (zU M 7 (upd (M 7) (3 * (Int32.toNatClampNeg (M 8 0))) code)) 9 (fun _ => (-1))) 10 (fun _ => 3)) else (if code = 45 then (true, zU (zU (zU M 7 (upd (M 7) (3 * (Int32.toNatClampNeg (M 8 0))) code)) 9 (fun _ => (-1))) 10 (fun _ => 3)) else (if code = 105 then (true, zU (zU (zU M 7 (upd (M 7) (3 * (Int32.toNatClampNeg (M 8 0))) code)) 9 (fun _ => (-1))) 10 (fun _ => 3)) else (if code = 111 then (true, zU (zU (zU M 7 (upd (M 7) (3 * (Int32.toNatClampNeg (M 8 0))) code)) 9 (fun _ => (-1))) 10 (fun _ => 3)) else (if code = 120 then (true, zU (zU (zU M 7 (upd (M 7) (3 * (Int32.toNatClampNeg (M 8 0))) code)) 9 (fun _ => (-1))) 10 (fun _ => 3)) else (if code = 100 then (true, zU (zU (zU M 7 (upd (M 7) (3 * (Int32.toNatClampNeg (M 8 0))) code)) 9 (fun _ => (-1))) 10 (fun _ => 3)) else (false, zU (zU (zU M 7 (upd (M 7) (3 * (Int32.toNatClampNeg (M 8 0))) code)) 9 (fun _ => (-1))) 10 (fun _ => 3)))))))))))))
set_option maxHeartbeats 400000 in
set_option maxRecDepth 100000 in
theorem c_X5_begins (l : Launch) (D : va_G) (g : Nat → ClassId) (u : Nat → Nat) (M : Nat → Nat → Int32) (w : Int64) (code : Int32) (z0 : vp_in (M 8 0) 24) : Wr l D (zT g) yX5_begins wsX5_begins (rmOf 0 0) [.ref (u 0), .int code] (zB_X5 (g 0) u M w) (some (.int (bI ((v_X5_begins M code).1)))) (zB_X5 (g 0) u ((v_X5_begins M code).2) w) := by
  refine Wr.of (cc := cX5_begins) (maxL := 2) (ret := (some .boolean)) (by decide) rfl (Nat.le_of_ble_eq_true rfl) ?_
  intro p e s m below meth c ls hx hb hr hml hown hts hlocks hP hD hS hK hl
  have hown : s.vm.findClass RX5 = some m.cls := hown
  have hinX5 : ∀ w ∈ u_ws RX5 TX5 13, w ∈ wsX5_begins := fun _ h9 => (List.mem_cons_of_mem _ (List.mem_append_right _ h9))
  obtain ⟨q, hq⟩ : ∃ q : Bool × (Nat → Nat → Int32), q = v_X5_begins M code := ⟨_, rfl⟩
  rw [← hq]
  unfold v_X5_begins at hq
  have hl : lv_has ls 2 [(0, .ref (u 0)), (1, .int code)] := hl
  refine lv_aload_n hx hb dX5_begins_0 rfl (lv_at hl 0 rfl) ?_
  refine va_get (D := D) (ci := 5) (v := .ref (u 8)) (C := RX5) (T := TX5) (N := 13) hx hb hts hinX5 hown hK.1 hP 0 rfl rfl 7 (by decide) (hts (.fieldLink RX5 22 "SaltSharesModel" "parts" "[I") (List.mem_of_getElem? (i := 1) rfl)) (fun _ h9 => h9) rfl dX5_begins_1 ?_
  refine lv_iconst (v := 3) hx hb dX5_begins_4 (by decide) ?_
  refine lv_aload_n hx hb dX5_begins_5 rfl (lv_at hl 0 rfl) ?_
  refine va_get (D := D) (ci := 5) (v := .int (M 8 0)) (C := RX5) (T := TX5) (N := 13) hx hb hts hinX5 hown hK.1 hP 0 rfl rfl 8 (by decide) (hts (.fieldLink RX5 156 "SaltSharesModel" "read" "I") (List.mem_of_getElem? (i := 2) rfl)) (fun _ h9 => h9) rfl dX5_begins_6 ?_
  have w_1 := znat z0
  have w_1b := w_1.2
  refine lv_is w_1.1 ?_
  refine lv_imul hx hb dX5_begins_9 ?_
  refine lv_is (show (3 : Int32) * (nI (Int32.toNatClampNeg (M 8 0))) = (nI (3 * (Int32.toNatClampNeg (M 8 0)))) from pk_mul 3 (Int32.toNatClampNeg (M 8 0))) ?_
  refine lv_iload_n hx hb dX5_begins_10 rfl (lv_at hl 1 rfl) ?_
  refine z_iast (i := 3 * (Int32.toNatClampNeg (M 8 0))) (x := code) hx hb hK hP hD hS 5 0 rfl rfl (by omega) (by decide) dX5_begins_11 (fun H locs hP hD hS => ?_)
  have hP : va_P D vwCl (zB_X5 (g 0) u (zU M 7 (upd (M 7) (3 * (Int32.toNatClampNeg (M 8 0))) code)) w) H := hP
  have hD : va_D (zA (zB_X5 (g 0) u M w)) (zB_X5 (g 0) u (zU M 7 (upd (M 7) (3 * (Int32.toNatClampNeg (M 8 0))) code)) w) := hD
  refine lv_aload_n hx hb dX5_begins_12 rfl (lv_at hl 0 rfl) ?_
  refine lv_iconst (v := (-1)) hx hb dX5_begins_13 (by decide) ?_
  refine va_put (D := D) (ci := 5) (v := .int (-1)) (ty := .int) (C := RX5) (T := TX5) (N := 13) hx hb hts hinX5 tyX5 tyX5_ok nmX5 hown hK.1 hP hD hS 0 rfl rfl 9 (by decide) (hts (.fieldLink RX5 159 "SaltSharesModel" "number" "I") (List.mem_of_getElem? (i := 3) rfl)) (fun _ h9 => h9) rfl (by decide +kernel) rfl rfl (Nat.le_of_ble_eq_true rfl) dX5_begins_14 (fun H locs hP hD hS => ?_)
  have hP : va_P D vwCl (zB_X5 (g 0) u (zU (zU M 7 (upd (M 7) (3 * (Int32.toNatClampNeg (M 8 0))) code)) 9 (fun _ => (-1))) w) H := hP
  have hD : va_D (zA (zB_X5 (g 0) u M w)) (zB_X5 (g 0) u (zU (zU M 7 (upd (M 7) (3 * (Int32.toNatClampNeg (M 8 0))) code)) 9 (fun _ => (-1))) w) := hD
  refine lv_aload_n hx hb dX5_begins_17 rfl (lv_at hl 0 rfl) ?_
  refine lv_iload_n hx hb dX5_begins_18 rfl (lv_at hl 1 rfl) ?_
  refine lv_bipush (v := 43) hx hb dX5_begins_19 (by decide) ?_
  refine lv_icmp_eq (tgt := 30) hx hb dX5_begins_21 (by decide) (fun c_2 => ?_) (fun c_2 => ?_)
  · have c_2 : code = 43 := c_2
    have hq := hq.trans (if_pos c_2)
    refine lv_iconst (v := 1) hx hb dX5_begins_30 (by decide) ?_
    refine lv_goto (tgt := 61) hx hb dX5_begins_31 (by decide) ?_
    refine va_put (D := D) (ci := 5) (v := .int 1) (ty := .int) (C := RX5) (T := TX5) (N := 13) hx hb hts hinX5 tyX5 tyX5_ok nmX5 hown hK.1 hP hD hS 0 rfl rfl 10 (by decide) (hts (.fieldLink RX5 162 "SaltSharesModel" "due" "I") (List.mem_of_getElem? (i := 4) rfl)) (fun _ h9 => h9) rfl (by decide +kernel) rfl rfl (Nat.le_of_ble_eq_true rfl) dX5_begins_61 (fun H locs hP hD hS => ?_)
    have hP : va_P D vwCl (zB_X5 (g 0) u (zU (zU (zU M 7 (upd (M 7) (3 * (Int32.toNatClampNeg (M 8 0))) code)) 9 (fun _ => (-1))) 10 (fun _ => 1)) w) H := hP
    have hD : va_D (zA (zB_X5 (g 0) u M w)) (zB_X5 (g 0) u (zU (zU (zU M 7 (upd (M 7) (3 * (Int32.toNatClampNeg (M 8 0))) code)) 9 (fun _ => (-1))) 10 (fun _ => 1)) w) := hD
    refine lv_iload_n hx hb dX5_begins_64 rfl (lv_at hl 1 rfl) ?_
    refine lv_bipush (v := 43) hx hb dX5_begins_65 (by decide) ?_
    refine lv_icmp_eq (tgt := 100) hx hb dX5_begins_67 (by decide) (fun c_3 => ?_) (fun c_3 => ?_)
    · have c_3 : code = 43 := c_3
      have hq := hq.trans (if_pos c_3)
      refine lv_iconst (v := 1) hx hb dX5_begins_100 (by decide) ?_
      refine lv_goto (tgt := 105) hx hb dX5_begins_101 (by decide) ?_
      exact zretw_z (q' := true) hx hb hr hlocks dX5_begins_105 hP hS (congrArg (fun z9 => z9.1) hq) (congrArg (fun z9 => zB_X5 (g 0) u z9.2 w) hq)
    · have c_3 : ¬ (code = 43) := c_3
      have hq := hq.trans (if_neg c_3)
      refine lv_iload_n hx hb dX5_begins_70 rfl (lv_at hl 1 rfl) ?_
      refine lv_bipush (v := 45) hx hb dX5_begins_71 (by decide) ?_
      refine lv_icmp_eq (tgt := 100) hx hb dX5_begins_73 (by decide) (fun c_4 => ?_) (fun c_4 => ?_)
      · have c_4 : code = 45 := c_4
        have hq := hq.trans (if_pos c_4)
        refine lv_iconst (v := 1) hx hb dX5_begins_100 (by decide) ?_
        refine lv_goto (tgt := 105) hx hb dX5_begins_101 (by decide) ?_
        exact zretw_z (q' := true) hx hb hr hlocks dX5_begins_105 hP hS (congrArg (fun z9 => z9.1) hq) (congrArg (fun z9 => zB_X5 (g 0) u z9.2 w) hq)
      · have c_4 : ¬ (code = 45) := c_4
        have hq := hq.trans (if_neg c_4)
        refine lv_iload_n hx hb dX5_begins_76 rfl (lv_at hl 1 rfl) ?_
        refine lv_bipush (v := 105) hx hb dX5_begins_77 (by decide) ?_
        refine lv_icmp_eq (tgt := 100) hx hb dX5_begins_79 (by decide) (fun c_5 => ?_) (fun c_5 => ?_)
        · have c_5 : code = 105 := c_5
          have hq := hq.trans (if_pos c_5)
          refine lv_iconst (v := 1) hx hb dX5_begins_100 (by decide) ?_
          refine lv_goto (tgt := 105) hx hb dX5_begins_101 (by decide) ?_
          exact zretw_z (q' := true) hx hb hr hlocks dX5_begins_105 hP hS (congrArg (fun z9 => z9.1) hq) (congrArg (fun z9 => zB_X5 (g 0) u z9.2 w) hq)
        · have c_5 : ¬ (code = 105) := c_5
          have hq := hq.trans (if_neg c_5)
          refine lv_iload_n hx hb dX5_begins_82 rfl (lv_at hl 1 rfl) ?_
          refine lv_bipush (v := 111) hx hb dX5_begins_83 (by decide) ?_
          refine lv_icmp_eq (tgt := 100) hx hb dX5_begins_85 (by decide) (fun c_6 => ?_) (fun c_6 => ?_)
          · have c_6 : code = 111 := c_6
            have hq := hq.trans (if_pos c_6)
            refine lv_iconst (v := 1) hx hb dX5_begins_100 (by decide) ?_
            refine lv_goto (tgt := 105) hx hb dX5_begins_101 (by decide) ?_
            exact zretw_z (q' := true) hx hb hr hlocks dX5_begins_105 hP hS (congrArg (fun z9 => z9.1) hq) (congrArg (fun z9 => zB_X5 (g 0) u z9.2 w) hq)
          · have c_6 : ¬ (code = 111) := c_6
            have hq := hq.trans (if_neg c_6)
            refine lv_iload_n hx hb dX5_begins_88 rfl (lv_at hl 1 rfl) ?_
            refine lv_bipush (v := 120) hx hb dX5_begins_89 (by decide) ?_
            refine lv_icmp_eq (tgt := 100) hx hb dX5_begins_91 (by decide) (fun c_7 => ?_) (fun c_7 => ?_)
            · have c_7 : code = 120 := c_7
              have hq := hq.trans (if_pos c_7)
              refine lv_iconst (v := 1) hx hb dX5_begins_100 (by decide) ?_
              refine lv_goto (tgt := 105) hx hb dX5_begins_101 (by decide) ?_
              exact zretw_z (q' := true) hx hb hr hlocks dX5_begins_105 hP hS (congrArg (fun z9 => z9.1) hq) (congrArg (fun z9 => zB_X5 (g 0) u z9.2 w) hq)
            · have c_7 : ¬ (code = 120) := c_7
              have hq := hq.trans (if_neg c_7)
              refine lv_iload_n hx hb dX5_begins_94 rfl (lv_at hl 1 rfl) ?_
              refine lv_bipush (v := 100) hx hb dX5_begins_95 (by decide) ?_
              refine lv_icmp_ne (tgt := 104) hx hb dX5_begins_97 (by decide) (fun c_8 => ?_) (fun c_8 => ?_)
              · have c_8 : ¬ (code = 100) := c_8
                have hq := hq.trans (if_neg c_8)
                refine lv_iconst (v := 0) hx hb dX5_begins_104 (by decide) ?_
                exact zretw_z (q' := false) hx hb hr hlocks dX5_begins_105 hP hS (congrArg (fun z9 => z9.1) hq) (congrArg (fun z9 => zB_X5 (g 0) u z9.2 w) hq)
              · have c_8 : code = 100 := c_8
                have hq := hq.trans (if_pos c_8)
                refine lv_iconst (v := 1) hx hb dX5_begins_100 (by decide) ?_
                refine lv_goto (tgt := 105) hx hb dX5_begins_101 (by decide) ?_
                exact zretw_z (q' := true) hx hb hr hlocks dX5_begins_105 hP hS (congrArg (fun z9 => z9.1) hq) (congrArg (fun z9 => zB_X5 (g 0) u z9.2 w) hq)
  · have c_2 : ¬ (code = 43) := c_2
    have hq := hq.trans (if_neg c_2)
    refine lv_iload_n hx hb dX5_begins_24 rfl (lv_at hl 1 rfl) ?_
    refine lv_bipush (v := 45) hx hb dX5_begins_25 (by decide) ?_
    refine lv_icmp_ne (tgt := 34) hx hb dX5_begins_27 (by decide) (fun c_9 => ?_) (fun c_9 => ?_)
    · have c_9 : ¬ (code = 45) := c_9
      have hq := hq.trans (if_neg c_9)
      refine lv_iload_n hx hb dX5_begins_34 rfl (lv_at hl 1 rfl) ?_
      refine lv_bipush (v := 105) hx hb dX5_begins_35 (by decide) ?_
      refine lv_icmp_eq (tgt := 46) hx hb dX5_begins_37 (by decide) (fun c_10 => ?_) (fun c_10 => ?_)
      · have c_10 : code = 105 := c_10
        have hq := hq.trans (if_pos c_10)
        refine lv_iconst (v := 4) hx hb dX5_begins_46 (by decide) ?_
        refine lv_goto (tgt := 61) hx hb dX5_begins_47 (by decide) ?_
        refine va_put (D := D) (ci := 5) (v := .int 4) (ty := .int) (C := RX5) (T := TX5) (N := 13) hx hb hts hinX5 tyX5 tyX5_ok nmX5 hown hK.1 hP hD hS 0 rfl rfl 10 (by decide) (hts (.fieldLink RX5 162 "SaltSharesModel" "due" "I") (List.mem_of_getElem? (i := 4) rfl)) (fun _ h9 => h9) rfl (by decide +kernel) rfl rfl (Nat.le_of_ble_eq_true rfl) dX5_begins_61 (fun H locs hP hD hS => ?_)
        have hP : va_P D vwCl (zB_X5 (g 0) u (zU (zU (zU M 7 (upd (M 7) (3 * (Int32.toNatClampNeg (M 8 0))) code)) 9 (fun _ => (-1))) 10 (fun _ => 4)) w) H := hP
        have hD : va_D (zA (zB_X5 (g 0) u M w)) (zB_X5 (g 0) u (zU (zU (zU M 7 (upd (M 7) (3 * (Int32.toNatClampNeg (M 8 0))) code)) 9 (fun _ => (-1))) 10 (fun _ => 4)) w) := hD
        refine lv_iload_n hx hb dX5_begins_64 rfl (lv_at hl 1 rfl) ?_
        refine lv_bipush (v := 43) hx hb dX5_begins_65 (by decide) ?_
        refine lv_icmp_eq (tgt := 100) hx hb dX5_begins_67 (by decide) (fun c_11 => ?_) (fun c_11 => ?_)
        · have c_11 : code = 43 := c_11
          have hq := hq.trans (if_pos c_11)
          refine lv_iconst (v := 1) hx hb dX5_begins_100 (by decide) ?_
          refine lv_goto (tgt := 105) hx hb dX5_begins_101 (by decide) ?_
          exact zretw_z (q' := true) hx hb hr hlocks dX5_begins_105 hP hS (congrArg (fun z9 => z9.1) hq) (congrArg (fun z9 => zB_X5 (g 0) u z9.2 w) hq)
        · have c_11 : ¬ (code = 43) := c_11
          have hq := hq.trans (if_neg c_11)
          refine lv_iload_n hx hb dX5_begins_70 rfl (lv_at hl 1 rfl) ?_
          refine lv_bipush (v := 45) hx hb dX5_begins_71 (by decide) ?_
          refine lv_icmp_eq (tgt := 100) hx hb dX5_begins_73 (by decide) (fun c_12 => ?_) (fun c_12 => ?_)
          · have c_12 : code = 45 := c_12
            have hq := hq.trans (if_pos c_12)
            refine lv_iconst (v := 1) hx hb dX5_begins_100 (by decide) ?_
            refine lv_goto (tgt := 105) hx hb dX5_begins_101 (by decide) ?_
            exact zretw_z (q' := true) hx hb hr hlocks dX5_begins_105 hP hS (congrArg (fun z9 => z9.1) hq) (congrArg (fun z9 => zB_X5 (g 0) u z9.2 w) hq)
          · have c_12 : ¬ (code = 45) := c_12
            have hq := hq.trans (if_neg c_12)
            refine lv_iload_n hx hb dX5_begins_76 rfl (lv_at hl 1 rfl) ?_
            refine lv_bipush (v := 105) hx hb dX5_begins_77 (by decide) ?_
            refine lv_icmp_eq (tgt := 100) hx hb dX5_begins_79 (by decide) (fun c_13 => ?_) (fun c_13 => ?_)
            · have c_13 : code = 105 := c_13
              have hq := hq.trans (if_pos c_13)
              refine lv_iconst (v := 1) hx hb dX5_begins_100 (by decide) ?_
              refine lv_goto (tgt := 105) hx hb dX5_begins_101 (by decide) ?_
              exact zretw_z (q' := true) hx hb hr hlocks dX5_begins_105 hP hS (congrArg (fun z9 => z9.1) hq) (congrArg (fun z9 => zB_X5 (g 0) u z9.2 w) hq)
            · have c_13 : ¬ (code = 105) := c_13
              have hq := hq.trans (if_neg c_13)
              refine lv_iload_n hx hb dX5_begins_82 rfl (lv_at hl 1 rfl) ?_
              refine lv_bipush (v := 111) hx hb dX5_begins_83 (by decide) ?_
              refine lv_icmp_eq (tgt := 100) hx hb dX5_begins_85 (by decide) (fun c_14 => ?_) (fun c_14 => ?_)
              · have c_14 : code = 111 := c_14
                have hq := hq.trans (if_pos c_14)
                refine lv_iconst (v := 1) hx hb dX5_begins_100 (by decide) ?_
                refine lv_goto (tgt := 105) hx hb dX5_begins_101 (by decide) ?_
                exact zretw_z (q' := true) hx hb hr hlocks dX5_begins_105 hP hS (congrArg (fun z9 => z9.1) hq) (congrArg (fun z9 => zB_X5 (g 0) u z9.2 w) hq)
              · have c_14 : ¬ (code = 111) := c_14
                have hq := hq.trans (if_neg c_14)
                refine lv_iload_n hx hb dX5_begins_88 rfl (lv_at hl 1 rfl) ?_
                refine lv_bipush (v := 120) hx hb dX5_begins_89 (by decide) ?_
                refine lv_icmp_eq (tgt := 100) hx hb dX5_begins_91 (by decide) (fun c_15 => ?_) (fun c_15 => ?_)
                · have c_15 : code = 120 := c_15
                  have hq := hq.trans (if_pos c_15)
                  refine lv_iconst (v := 1) hx hb dX5_begins_100 (by decide) ?_
                  refine lv_goto (tgt := 105) hx hb dX5_begins_101 (by decide) ?_
                  exact zretw_z (q' := true) hx hb hr hlocks dX5_begins_105 hP hS (congrArg (fun z9 => z9.1) hq) (congrArg (fun z9 => zB_X5 (g 0) u z9.2 w) hq)
                · have c_15 : ¬ (code = 120) := c_15
                  have hq := hq.trans (if_neg c_15)
                  refine lv_iload_n hx hb dX5_begins_94 rfl (lv_at hl 1 rfl) ?_
                  refine lv_bipush (v := 100) hx hb dX5_begins_95 (by decide) ?_
                  refine lv_icmp_ne (tgt := 104) hx hb dX5_begins_97 (by decide) (fun c_16 => ?_) (fun c_16 => ?_)
                  · have c_16 : ¬ (code = 100) := c_16
                    have hq := hq.trans (if_neg c_16)
                    refine lv_iconst (v := 0) hx hb dX5_begins_104 (by decide) ?_
                    exact zretw_z (q' := false) hx hb hr hlocks dX5_begins_105 hP hS (congrArg (fun z9 => z9.1) hq) (congrArg (fun z9 => zB_X5 (g 0) u z9.2 w) hq)
                  · have c_16 : code = 100 := c_16
                    have hq := hq.trans (if_pos c_16)
                    refine lv_iconst (v := 1) hx hb dX5_begins_100 (by decide) ?_
                    refine lv_goto (tgt := 105) hx hb dX5_begins_101 (by decide) ?_
                    exact zretw_z (q' := true) hx hb hr hlocks dX5_begins_105 hP hS (congrArg (fun z9 => z9.1) hq) (congrArg (fun z9 => zB_X5 (g 0) u z9.2 w) hq)
      · have c_10 : ¬ (code = 105) := c_10
        have hq := hq.trans (if_neg c_10)
        refine lv_iload_n hx hb dX5_begins_40 rfl (lv_at hl 1 rfl) ?_
        refine lv_bipush (v := 111) hx hb dX5_begins_41 (by decide) ?_
        refine lv_icmp_ne (tgt := 50) hx hb dX5_begins_43 (by decide) (fun c_17 => ?_) (fun c_17 => ?_)
        · have c_17 : ¬ (code = 111) := c_17
          have hq := hq.trans (if_neg c_17)
          refine lv_iload_n hx hb dX5_begins_50 rfl (lv_at hl 1 rfl) ?_
          refine lv_bipush (v := 120) hx hb dX5_begins_51 (by decide) ?_
          refine lv_icmp_ne (tgt := 60) hx hb dX5_begins_53 (by decide) (fun c_18 => ?_) (fun c_18 => ?_)
          · have c_18 : ¬ (code = 120) := c_18
            have hq := hq.trans (if_neg c_18)
            refine lv_iconst (v := 3) hx hb dX5_begins_60 (by decide) ?_
            refine va_put (D := D) (ci := 5) (v := .int 3) (ty := .int) (C := RX5) (T := TX5) (N := 13) hx hb hts hinX5 tyX5 tyX5_ok nmX5 hown hK.1 hP hD hS 0 rfl rfl 10 (by decide) (hts (.fieldLink RX5 162 "SaltSharesModel" "due" "I") (List.mem_of_getElem? (i := 4) rfl)) (fun _ h9 => h9) rfl (by decide +kernel) rfl rfl (Nat.le_of_ble_eq_true rfl) dX5_begins_61 (fun H locs hP hD hS => ?_)
            have hP : va_P D vwCl (zB_X5 (g 0) u (zU (zU (zU M 7 (upd (M 7) (3 * (Int32.toNatClampNeg (M 8 0))) code)) 9 (fun _ => (-1))) 10 (fun _ => 3)) w) H := hP
            have hD : va_D (zA (zB_X5 (g 0) u M w)) (zB_X5 (g 0) u (zU (zU (zU M 7 (upd (M 7) (3 * (Int32.toNatClampNeg (M 8 0))) code)) 9 (fun _ => (-1))) 10 (fun _ => 3)) w) := hD
            refine lv_iload_n hx hb dX5_begins_64 rfl (lv_at hl 1 rfl) ?_
            refine lv_bipush (v := 43) hx hb dX5_begins_65 (by decide) ?_
            refine lv_icmp_eq (tgt := 100) hx hb dX5_begins_67 (by decide) (fun c_19 => ?_) (fun c_19 => ?_)
            · have c_19 : code = 43 := c_19
              have hq := hq.trans (if_pos c_19)
              refine lv_iconst (v := 1) hx hb dX5_begins_100 (by decide) ?_
              refine lv_goto (tgt := 105) hx hb dX5_begins_101 (by decide) ?_
              exact zretw_z (q' := true) hx hb hr hlocks dX5_begins_105 hP hS (congrArg (fun z9 => z9.1) hq) (congrArg (fun z9 => zB_X5 (g 0) u z9.2 w) hq)
            · have c_19 : ¬ (code = 43) := c_19
              have hq := hq.trans (if_neg c_19)
              refine lv_iload_n hx hb dX5_begins_70 rfl (lv_at hl 1 rfl) ?_
              refine lv_bipush (v := 45) hx hb dX5_begins_71 (by decide) ?_
              refine lv_icmp_eq (tgt := 100) hx hb dX5_begins_73 (by decide) (fun c_20 => ?_) (fun c_20 => ?_)
              · have c_20 : code = 45 := c_20
                have hq := hq.trans (if_pos c_20)
                refine lv_iconst (v := 1) hx hb dX5_begins_100 (by decide) ?_
                refine lv_goto (tgt := 105) hx hb dX5_begins_101 (by decide) ?_
                exact zretw_z (q' := true) hx hb hr hlocks dX5_begins_105 hP hS (congrArg (fun z9 => z9.1) hq) (congrArg (fun z9 => zB_X5 (g 0) u z9.2 w) hq)
              · have c_20 : ¬ (code = 45) := c_20
                have hq := hq.trans (if_neg c_20)
                refine lv_iload_n hx hb dX5_begins_76 rfl (lv_at hl 1 rfl) ?_
                refine lv_bipush (v := 105) hx hb dX5_begins_77 (by decide) ?_
                refine lv_icmp_eq (tgt := 100) hx hb dX5_begins_79 (by decide) (fun c_21 => ?_) (fun c_21 => ?_)
                · have c_21 : code = 105 := c_21
                  have hq := hq.trans (if_pos c_21)
                  refine lv_iconst (v := 1) hx hb dX5_begins_100 (by decide) ?_
                  refine lv_goto (tgt := 105) hx hb dX5_begins_101 (by decide) ?_
                  exact zretw_z (q' := true) hx hb hr hlocks dX5_begins_105 hP hS (congrArg (fun z9 => z9.1) hq) (congrArg (fun z9 => zB_X5 (g 0) u z9.2 w) hq)
                · have c_21 : ¬ (code = 105) := c_21
                  have hq := hq.trans (if_neg c_21)
                  refine lv_iload_n hx hb dX5_begins_82 rfl (lv_at hl 1 rfl) ?_
                  refine lv_bipush (v := 111) hx hb dX5_begins_83 (by decide) ?_
                  refine lv_icmp_eq (tgt := 100) hx hb dX5_begins_85 (by decide) (fun c_22 => ?_) (fun c_22 => ?_)
                  · have c_22 : code = 111 := c_22
                    have hq := hq.trans (if_pos c_22)
                    refine lv_iconst (v := 1) hx hb dX5_begins_100 (by decide) ?_
                    refine lv_goto (tgt := 105) hx hb dX5_begins_101 (by decide) ?_
                    exact zretw_z (q' := true) hx hb hr hlocks dX5_begins_105 hP hS (congrArg (fun z9 => z9.1) hq) (congrArg (fun z9 => zB_X5 (g 0) u z9.2 w) hq)
                  · have c_22 : ¬ (code = 111) := c_22
                    have hq := hq.trans (if_neg c_22)
                    refine lv_iload_n hx hb dX5_begins_88 rfl (lv_at hl 1 rfl) ?_
                    refine lv_bipush (v := 120) hx hb dX5_begins_89 (by decide) ?_
                    refine lv_icmp_eq (tgt := 100) hx hb dX5_begins_91 (by decide) (fun c_23 => ?_) (fun c_23 => ?_)
                    · have c_23 : code = 120 := c_23
                      have hq := hq.trans (if_pos c_23)
                      refine lv_iconst (v := 1) hx hb dX5_begins_100 (by decide) ?_
                      refine lv_goto (tgt := 105) hx hb dX5_begins_101 (by decide) ?_
                      exact zretw_z (q' := true) hx hb hr hlocks dX5_begins_105 hP hS (congrArg (fun z9 => z9.1) hq) (congrArg (fun z9 => zB_X5 (g 0) u z9.2 w) hq)
                    · have c_23 : ¬ (code = 120) := c_23
                      have hq := hq.trans (if_neg c_23)
                      refine lv_iload_n hx hb dX5_begins_94 rfl (lv_at hl 1 rfl) ?_
                      refine lv_bipush (v := 100) hx hb dX5_begins_95 (by decide) ?_
                      refine lv_icmp_ne (tgt := 104) hx hb dX5_begins_97 (by decide) (fun c_24 => ?_) (fun c_24 => ?_)
                      · have c_24 : ¬ (code = 100) := c_24
                        have hq := hq.trans (if_neg c_24)
                        refine lv_iconst (v := 0) hx hb dX5_begins_104 (by decide) ?_
                        exact zretw_z (q' := false) hx hb hr hlocks dX5_begins_105 hP hS (congrArg (fun z9 => z9.1) hq) (congrArg (fun z9 => zB_X5 (g 0) u z9.2 w) hq)
                      · have c_24 : code = 100 := c_24
                        have hq := hq.trans (if_pos c_24)
                        refine lv_iconst (v := 1) hx hb dX5_begins_100 (by decide) ?_
                        refine lv_goto (tgt := 105) hx hb dX5_begins_101 (by decide) ?_
                        exact zretw_z (q' := true) hx hb hr hlocks dX5_begins_105 hP hS (congrArg (fun z9 => z9.1) hq) (congrArg (fun z9 => zB_X5 (g 0) u z9.2 w) hq)
          · have c_18 : code = 120 := c_18
            have hq := hq.trans (if_pos c_18)
            refine lv_iconst (v := 5) hx hb dX5_begins_56 (by decide) ?_
            refine lv_goto (tgt := 61) hx hb dX5_begins_57 (by decide) ?_
            refine va_put (D := D) (ci := 5) (v := .int 5) (ty := .int) (C := RX5) (T := TX5) (N := 13) hx hb hts hinX5 tyX5 tyX5_ok nmX5 hown hK.1 hP hD hS 0 rfl rfl 10 (by decide) (hts (.fieldLink RX5 162 "SaltSharesModel" "due" "I") (List.mem_of_getElem? (i := 4) rfl)) (fun _ h9 => h9) rfl (by decide +kernel) rfl rfl (Nat.le_of_ble_eq_true rfl) dX5_begins_61 (fun H locs hP hD hS => ?_)
            have hP : va_P D vwCl (zB_X5 (g 0) u (zU (zU (zU M 7 (upd (M 7) (3 * (Int32.toNatClampNeg (M 8 0))) code)) 9 (fun _ => (-1))) 10 (fun _ => 5)) w) H := hP
            have hD : va_D (zA (zB_X5 (g 0) u M w)) (zB_X5 (g 0) u (zU (zU (zU M 7 (upd (M 7) (3 * (Int32.toNatClampNeg (M 8 0))) code)) 9 (fun _ => (-1))) 10 (fun _ => 5)) w) := hD
            refine lv_iload_n hx hb dX5_begins_64 rfl (lv_at hl 1 rfl) ?_
            refine lv_bipush (v := 43) hx hb dX5_begins_65 (by decide) ?_
            refine lv_icmp_eq (tgt := 100) hx hb dX5_begins_67 (by decide) (fun c_25 => ?_) (fun c_25 => ?_)
            · have c_25 : code = 43 := c_25
              have hq := hq.trans (if_pos c_25)
              refine lv_iconst (v := 1) hx hb dX5_begins_100 (by decide) ?_
              refine lv_goto (tgt := 105) hx hb dX5_begins_101 (by decide) ?_
              exact zretw_z (q' := true) hx hb hr hlocks dX5_begins_105 hP hS (congrArg (fun z9 => z9.1) hq) (congrArg (fun z9 => zB_X5 (g 0) u z9.2 w) hq)
            · have c_25 : ¬ (code = 43) := c_25
              have hq := hq.trans (if_neg c_25)
              refine lv_iload_n hx hb dX5_begins_70 rfl (lv_at hl 1 rfl) ?_
              refine lv_bipush (v := 45) hx hb dX5_begins_71 (by decide) ?_
              refine lv_icmp_eq (tgt := 100) hx hb dX5_begins_73 (by decide) (fun c_26 => ?_) (fun c_26 => ?_)
              · have c_26 : code = 45 := c_26
                have hq := hq.trans (if_pos c_26)
                refine lv_iconst (v := 1) hx hb dX5_begins_100 (by decide) ?_
                refine lv_goto (tgt := 105) hx hb dX5_begins_101 (by decide) ?_
                exact zretw_z (q' := true) hx hb hr hlocks dX5_begins_105 hP hS (congrArg (fun z9 => z9.1) hq) (congrArg (fun z9 => zB_X5 (g 0) u z9.2 w) hq)
              · have c_26 : ¬ (code = 45) := c_26
                have hq := hq.trans (if_neg c_26)
                refine lv_iload_n hx hb dX5_begins_76 rfl (lv_at hl 1 rfl) ?_
                refine lv_bipush (v := 105) hx hb dX5_begins_77 (by decide) ?_
                refine lv_icmp_eq (tgt := 100) hx hb dX5_begins_79 (by decide) (fun c_27 => ?_) (fun c_27 => ?_)
                · have c_27 : code = 105 := c_27
                  have hq := hq.trans (if_pos c_27)
                  refine lv_iconst (v := 1) hx hb dX5_begins_100 (by decide) ?_
                  refine lv_goto (tgt := 105) hx hb dX5_begins_101 (by decide) ?_
                  exact zretw_z (q' := true) hx hb hr hlocks dX5_begins_105 hP hS (congrArg (fun z9 => z9.1) hq) (congrArg (fun z9 => zB_X5 (g 0) u z9.2 w) hq)
                · have c_27 : ¬ (code = 105) := c_27
                  have hq := hq.trans (if_neg c_27)
                  refine lv_iload_n hx hb dX5_begins_82 rfl (lv_at hl 1 rfl) ?_
                  refine lv_bipush (v := 111) hx hb dX5_begins_83 (by decide) ?_
                  refine lv_icmp_eq (tgt := 100) hx hb dX5_begins_85 (by decide) (fun c_28 => ?_) (fun c_28 => ?_)
                  · have c_28 : code = 111 := c_28
                    have hq := hq.trans (if_pos c_28)
                    refine lv_iconst (v := 1) hx hb dX5_begins_100 (by decide) ?_
                    refine lv_goto (tgt := 105) hx hb dX5_begins_101 (by decide) ?_
                    exact zretw_z (q' := true) hx hb hr hlocks dX5_begins_105 hP hS (congrArg (fun z9 => z9.1) hq) (congrArg (fun z9 => zB_X5 (g 0) u z9.2 w) hq)
                  · have c_28 : ¬ (code = 111) := c_28
                    have hq := hq.trans (if_neg c_28)
                    refine lv_iload_n hx hb dX5_begins_88 rfl (lv_at hl 1 rfl) ?_
                    refine lv_bipush (v := 120) hx hb dX5_begins_89 (by decide) ?_
                    refine lv_icmp_eq (tgt := 100) hx hb dX5_begins_91 (by decide) (fun c_29 => ?_) (fun c_29 => ?_)
                    · have c_29 : code = 120 := c_29
                      have hq := hq.trans (if_pos c_29)
                      refine lv_iconst (v := 1) hx hb dX5_begins_100 (by decide) ?_
                      refine lv_goto (tgt := 105) hx hb dX5_begins_101 (by decide) ?_
                      exact zretw_z (q' := true) hx hb hr hlocks dX5_begins_105 hP hS (congrArg (fun z9 => z9.1) hq) (congrArg (fun z9 => zB_X5 (g 0) u z9.2 w) hq)
                    · have c_29 : ¬ (code = 120) := c_29
                      have hq := hq.trans (if_neg c_29)
                      refine lv_iload_n hx hb dX5_begins_94 rfl (lv_at hl 1 rfl) ?_
                      refine lv_bipush (v := 100) hx hb dX5_begins_95 (by decide) ?_
                      refine lv_icmp_ne (tgt := 104) hx hb dX5_begins_97 (by decide) (fun c_30 => ?_) (fun c_30 => ?_)
                      · have c_30 : ¬ (code = 100) := c_30
                        have hq := hq.trans (if_neg c_30)
                        refine lv_iconst (v := 0) hx hb dX5_begins_104 (by decide) ?_
                        exact zretw_z (q' := false) hx hb hr hlocks dX5_begins_105 hP hS (congrArg (fun z9 => z9.1) hq) (congrArg (fun z9 => zB_X5 (g 0) u z9.2 w) hq)
                      · have c_30 : code = 100 := c_30
                        have hq := hq.trans (if_pos c_30)
                        refine lv_iconst (v := 1) hx hb dX5_begins_100 (by decide) ?_
                        refine lv_goto (tgt := 105) hx hb dX5_begins_101 (by decide) ?_
                        exact zretw_z (q' := true) hx hb hr hlocks dX5_begins_105 hP hS (congrArg (fun z9 => z9.1) hq) (congrArg (fun z9 => zB_X5 (g 0) u z9.2 w) hq)
        · have c_17 : code = 111 := c_17
          have hq := hq.trans (if_pos c_17)
          refine lv_iconst (v := 4) hx hb dX5_begins_46 (by decide) ?_
          refine lv_goto (tgt := 61) hx hb dX5_begins_47 (by decide) ?_
          refine va_put (D := D) (ci := 5) (v := .int 4) (ty := .int) (C := RX5) (T := TX5) (N := 13) hx hb hts hinX5 tyX5 tyX5_ok nmX5 hown hK.1 hP hD hS 0 rfl rfl 10 (by decide) (hts (.fieldLink RX5 162 "SaltSharesModel" "due" "I") (List.mem_of_getElem? (i := 4) rfl)) (fun _ h9 => h9) rfl (by decide +kernel) rfl rfl (Nat.le_of_ble_eq_true rfl) dX5_begins_61 (fun H locs hP hD hS => ?_)
          have hP : va_P D vwCl (zB_X5 (g 0) u (zU (zU (zU M 7 (upd (M 7) (3 * (Int32.toNatClampNeg (M 8 0))) code)) 9 (fun _ => (-1))) 10 (fun _ => 4)) w) H := hP
          have hD : va_D (zA (zB_X5 (g 0) u M w)) (zB_X5 (g 0) u (zU (zU (zU M 7 (upd (M 7) (3 * (Int32.toNatClampNeg (M 8 0))) code)) 9 (fun _ => (-1))) 10 (fun _ => 4)) w) := hD
          refine lv_iload_n hx hb dX5_begins_64 rfl (lv_at hl 1 rfl) ?_
          refine lv_bipush (v := 43) hx hb dX5_begins_65 (by decide) ?_
          refine lv_icmp_eq (tgt := 100) hx hb dX5_begins_67 (by decide) (fun c_31 => ?_) (fun c_31 => ?_)
          · have c_31 : code = 43 := c_31
            have hq := hq.trans (if_pos c_31)
            refine lv_iconst (v := 1) hx hb dX5_begins_100 (by decide) ?_
            refine lv_goto (tgt := 105) hx hb dX5_begins_101 (by decide) ?_
            exact zretw_z (q' := true) hx hb hr hlocks dX5_begins_105 hP hS (congrArg (fun z9 => z9.1) hq) (congrArg (fun z9 => zB_X5 (g 0) u z9.2 w) hq)
          · have c_31 : ¬ (code = 43) := c_31
            have hq := hq.trans (if_neg c_31)
            refine lv_iload_n hx hb dX5_begins_70 rfl (lv_at hl 1 rfl) ?_
            refine lv_bipush (v := 45) hx hb dX5_begins_71 (by decide) ?_
            refine lv_icmp_eq (tgt := 100) hx hb dX5_begins_73 (by decide) (fun c_32 => ?_) (fun c_32 => ?_)
            · have c_32 : code = 45 := c_32
              have hq := hq.trans (if_pos c_32)
              refine lv_iconst (v := 1) hx hb dX5_begins_100 (by decide) ?_
              refine lv_goto (tgt := 105) hx hb dX5_begins_101 (by decide) ?_
              exact zretw_z (q' := true) hx hb hr hlocks dX5_begins_105 hP hS (congrArg (fun z9 => z9.1) hq) (congrArg (fun z9 => zB_X5 (g 0) u z9.2 w) hq)
            · have c_32 : ¬ (code = 45) := c_32
              have hq := hq.trans (if_neg c_32)
              refine lv_iload_n hx hb dX5_begins_76 rfl (lv_at hl 1 rfl) ?_
              refine lv_bipush (v := 105) hx hb dX5_begins_77 (by decide) ?_
              refine lv_icmp_eq (tgt := 100) hx hb dX5_begins_79 (by decide) (fun c_33 => ?_) (fun c_33 => ?_)
              · have c_33 : code = 105 := c_33
                have hq := hq.trans (if_pos c_33)
                refine lv_iconst (v := 1) hx hb dX5_begins_100 (by decide) ?_
                refine lv_goto (tgt := 105) hx hb dX5_begins_101 (by decide) ?_
                exact zretw_z (q' := true) hx hb hr hlocks dX5_begins_105 hP hS (congrArg (fun z9 => z9.1) hq) (congrArg (fun z9 => zB_X5 (g 0) u z9.2 w) hq)
              · have c_33 : ¬ (code = 105) := c_33
                have hq := hq.trans (if_neg c_33)
                refine lv_iload_n hx hb dX5_begins_82 rfl (lv_at hl 1 rfl) ?_
                refine lv_bipush (v := 111) hx hb dX5_begins_83 (by decide) ?_
                refine lv_icmp_eq (tgt := 100) hx hb dX5_begins_85 (by decide) (fun c_34 => ?_) (fun c_34 => ?_)
                · have c_34 : code = 111 := c_34
                  have hq := hq.trans (if_pos c_34)
                  refine lv_iconst (v := 1) hx hb dX5_begins_100 (by decide) ?_
                  refine lv_goto (tgt := 105) hx hb dX5_begins_101 (by decide) ?_
                  exact zretw_z (q' := true) hx hb hr hlocks dX5_begins_105 hP hS (congrArg (fun z9 => z9.1) hq) (congrArg (fun z9 => zB_X5 (g 0) u z9.2 w) hq)
                · have c_34 : ¬ (code = 111) := c_34
                  have hq := hq.trans (if_neg c_34)
                  refine lv_iload_n hx hb dX5_begins_88 rfl (lv_at hl 1 rfl) ?_
                  refine lv_bipush (v := 120) hx hb dX5_begins_89 (by decide) ?_
                  refine lv_icmp_eq (tgt := 100) hx hb dX5_begins_91 (by decide) (fun c_35 => ?_) (fun c_35 => ?_)
                  · have c_35 : code = 120 := c_35
                    have hq := hq.trans (if_pos c_35)
                    refine lv_iconst (v := 1) hx hb dX5_begins_100 (by decide) ?_
                    refine lv_goto (tgt := 105) hx hb dX5_begins_101 (by decide) ?_
                    exact zretw_z (q' := true) hx hb hr hlocks dX5_begins_105 hP hS (congrArg (fun z9 => z9.1) hq) (congrArg (fun z9 => zB_X5 (g 0) u z9.2 w) hq)
                  · have c_35 : ¬ (code = 120) := c_35
                    have hq := hq.trans (if_neg c_35)
                    refine lv_iload_n hx hb dX5_begins_94 rfl (lv_at hl 1 rfl) ?_
                    refine lv_bipush (v := 100) hx hb dX5_begins_95 (by decide) ?_
                    refine lv_icmp_ne (tgt := 104) hx hb dX5_begins_97 (by decide) (fun c_36 => ?_) (fun c_36 => ?_)
                    · have c_36 : ¬ (code = 100) := c_36
                      have hq := hq.trans (if_neg c_36)
                      refine lv_iconst (v := 0) hx hb dX5_begins_104 (by decide) ?_
                      exact zretw_z (q' := false) hx hb hr hlocks dX5_begins_105 hP hS (congrArg (fun z9 => z9.1) hq) (congrArg (fun z9 => zB_X5 (g 0) u z9.2 w) hq)
                    · have c_36 : code = 100 := c_36
                      have hq := hq.trans (if_pos c_36)
                      refine lv_iconst (v := 1) hx hb dX5_begins_100 (by decide) ?_
                      refine lv_goto (tgt := 105) hx hb dX5_begins_101 (by decide) ?_
                      exact zretw_z (q' := true) hx hb hr hlocks dX5_begins_105 hP hS (congrArg (fun z9 => z9.1) hq) (congrArg (fun z9 => zB_X5 (g 0) u z9.2 w) hq)
    · have c_9 : code = 45 := c_9
      have hq := hq.trans (if_pos c_9)
      refine lv_iconst (v := 1) hx hb dX5_begins_30 (by decide) ?_
      refine lv_goto (tgt := 61) hx hb dX5_begins_31 (by decide) ?_
      refine va_put (D := D) (ci := 5) (v := .int 1) (ty := .int) (C := RX5) (T := TX5) (N := 13) hx hb hts hinX5 tyX5 tyX5_ok nmX5 hown hK.1 hP hD hS 0 rfl rfl 10 (by decide) (hts (.fieldLink RX5 162 "SaltSharesModel" "due" "I") (List.mem_of_getElem? (i := 4) rfl)) (fun _ h9 => h9) rfl (by decide +kernel) rfl rfl (Nat.le_of_ble_eq_true rfl) dX5_begins_61 (fun H locs hP hD hS => ?_)
      have hP : va_P D vwCl (zB_X5 (g 0) u (zU (zU (zU M 7 (upd (M 7) (3 * (Int32.toNatClampNeg (M 8 0))) code)) 9 (fun _ => (-1))) 10 (fun _ => 1)) w) H := hP
      have hD : va_D (zA (zB_X5 (g 0) u M w)) (zB_X5 (g 0) u (zU (zU (zU M 7 (upd (M 7) (3 * (Int32.toNatClampNeg (M 8 0))) code)) 9 (fun _ => (-1))) 10 (fun _ => 1)) w) := hD
      refine lv_iload_n hx hb dX5_begins_64 rfl (lv_at hl 1 rfl) ?_
      refine lv_bipush (v := 43) hx hb dX5_begins_65 (by decide) ?_
      refine lv_icmp_eq (tgt := 100) hx hb dX5_begins_67 (by decide) (fun c_37 => ?_) (fun c_37 => ?_)
      · have c_37 : code = 43 := c_37
        have hq := hq.trans (if_pos c_37)
        refine lv_iconst (v := 1) hx hb dX5_begins_100 (by decide) ?_
        refine lv_goto (tgt := 105) hx hb dX5_begins_101 (by decide) ?_
        exact zretw_z (q' := true) hx hb hr hlocks dX5_begins_105 hP hS (congrArg (fun z9 => z9.1) hq) (congrArg (fun z9 => zB_X5 (g 0) u z9.2 w) hq)
      · have c_37 : ¬ (code = 43) := c_37
        have hq := hq.trans (if_neg c_37)
        refine lv_iload_n hx hb dX5_begins_70 rfl (lv_at hl 1 rfl) ?_
        refine lv_bipush (v := 45) hx hb dX5_begins_71 (by decide) ?_
        refine lv_icmp_eq (tgt := 100) hx hb dX5_begins_73 (by decide) (fun c_38 => ?_) (fun c_38 => ?_)
        · have c_38 : code = 45 := c_38
          have hq := hq.trans (if_pos c_38)
          refine lv_iconst (v := 1) hx hb dX5_begins_100 (by decide) ?_
          refine lv_goto (tgt := 105) hx hb dX5_begins_101 (by decide) ?_
          exact zretw_z (q' := true) hx hb hr hlocks dX5_begins_105 hP hS (congrArg (fun z9 => z9.1) hq) (congrArg (fun z9 => zB_X5 (g 0) u z9.2 w) hq)
        · have c_38 : ¬ (code = 45) := c_38
          have hq := hq.trans (if_neg c_38)
          refine lv_iload_n hx hb dX5_begins_76 rfl (lv_at hl 1 rfl) ?_
          refine lv_bipush (v := 105) hx hb dX5_begins_77 (by decide) ?_
          refine lv_icmp_eq (tgt := 100) hx hb dX5_begins_79 (by decide) (fun c_39 => ?_) (fun c_39 => ?_)
          · have c_39 : code = 105 := c_39
            have hq := hq.trans (if_pos c_39)
            refine lv_iconst (v := 1) hx hb dX5_begins_100 (by decide) ?_
            refine lv_goto (tgt := 105) hx hb dX5_begins_101 (by decide) ?_
            exact zretw_z (q' := true) hx hb hr hlocks dX5_begins_105 hP hS (congrArg (fun z9 => z9.1) hq) (congrArg (fun z9 => zB_X5 (g 0) u z9.2 w) hq)
          · have c_39 : ¬ (code = 105) := c_39
            have hq := hq.trans (if_neg c_39)
            refine lv_iload_n hx hb dX5_begins_82 rfl (lv_at hl 1 rfl) ?_
            refine lv_bipush (v := 111) hx hb dX5_begins_83 (by decide) ?_
            refine lv_icmp_eq (tgt := 100) hx hb dX5_begins_85 (by decide) (fun c_40 => ?_) (fun c_40 => ?_)
            · have c_40 : code = 111 := c_40
              have hq := hq.trans (if_pos c_40)
              refine lv_iconst (v := 1) hx hb dX5_begins_100 (by decide) ?_
              refine lv_goto (tgt := 105) hx hb dX5_begins_101 (by decide) ?_
              exact zretw_z (q' := true) hx hb hr hlocks dX5_begins_105 hP hS (congrArg (fun z9 => z9.1) hq) (congrArg (fun z9 => zB_X5 (g 0) u z9.2 w) hq)
            · have c_40 : ¬ (code = 111) := c_40
              have hq := hq.trans (if_neg c_40)
              refine lv_iload_n hx hb dX5_begins_88 rfl (lv_at hl 1 rfl) ?_
              refine lv_bipush (v := 120) hx hb dX5_begins_89 (by decide) ?_
              refine lv_icmp_eq (tgt := 100) hx hb dX5_begins_91 (by decide) (fun c_41 => ?_) (fun c_41 => ?_)
              · have c_41 : code = 120 := c_41
                have hq := hq.trans (if_pos c_41)
                refine lv_iconst (v := 1) hx hb dX5_begins_100 (by decide) ?_
                refine lv_goto (tgt := 105) hx hb dX5_begins_101 (by decide) ?_
                exact zretw_z (q' := true) hx hb hr hlocks dX5_begins_105 hP hS (congrArg (fun z9 => z9.1) hq) (congrArg (fun z9 => zB_X5 (g 0) u z9.2 w) hq)
              · have c_41 : ¬ (code = 120) := c_41
                have hq := hq.trans (if_neg c_41)
                refine lv_iload_n hx hb dX5_begins_94 rfl (lv_at hl 1 rfl) ?_
                refine lv_bipush (v := 100) hx hb dX5_begins_95 (by decide) ?_
                refine lv_icmp_ne (tgt := 104) hx hb dX5_begins_97 (by decide) (fun c_42 => ?_) (fun c_42 => ?_)
                · have c_42 : ¬ (code = 100) := c_42
                  have hq := hq.trans (if_neg c_42)
                  refine lv_iconst (v := 0) hx hb dX5_begins_104 (by decide) ?_
                  exact zretw_z (q' := false) hx hb hr hlocks dX5_begins_105 hP hS (congrArg (fun z9 => z9.1) hq) (congrArg (fun z9 => zB_X5 (g 0) u z9.2 w) hq)
                · have c_42 : code = 100 := c_42
                  have hq := hq.trans (if_pos c_42)
                  refine lv_iconst (v := 1) hx hb dX5_begins_100 (by decide) ?_
                  refine lv_goto (tgt := 105) hx hb dX5_begins_101 (by decide) ?_
                  exact zretw_z (q' := true) hx hb hr hlocks dX5_begins_105 hP hS (congrArg (fun z9 => z9.1) hq) (congrArg (fun z9 => zB_X5 (g 0) u z9.2 w) hq)
def v_X5_takesBread (M : Nat → Nat → Int32) (code : Int32) (nx : Int32) : Bool × (Nat → Nat → Int32) := (v_X5_within code 48 55, zU (zU M 7 (upd (M 7) (3 * (Int32.toNatClampNeg (M 8 0)) + 1) (code - 48))) 10 (fun _ => nx))
set_option maxHeartbeats 400000 in
set_option maxRecDepth 100000 in
theorem c_X5_takesBread (l : Launch) (D : va_G) (g : Nat → ClassId) (u : Nat → Nat) (M : Nat → Nat → Int32) (w : Int64) (code : Int32) (nx : Int32) (z0 : vp_in (M 8 0) 24) : Wr l D (zT g) yX5_takesBread wsX5_takesBread (rmOf 1 22) [.ref (u 0), .int code, .int nx] (zB_X5 (g 0) u M w) (some (.int (bI ((v_X5_takesBread M code nx).1)))) (zB_X5 (g 0) u ((v_X5_takesBread M code nx).2) w) := by
  refine Wr.of (cc := cX5_takesBread) (maxL := 3) (ret := (some .boolean)) (by decide) rfl (Nat.le_of_ble_eq_true rfl) ?_
  intro p e s m below meth c ls hx hb hr hml hown hts hlocks hP hD hS hK hl
  have hown : s.vm.findClass RX5 = some m.cls := hown
  have hinX5 : ∀ w ∈ u_ws RX5 TX5 13, w ∈ wsX5_takesBread := fun _ h9 => (List.mem_cons_of_mem _ (List.mem_append_right _ h9))
  obtain ⟨q, hq⟩ : ∃ q : Bool × (Nat → Nat → Int32), q = v_X5_takesBread M code nx := ⟨_, rfl⟩
  rw [← hq]
  unfold v_X5_takesBread at hq
  have hl : lv_has ls 3 [(0, .ref (u 0)), (1, .int code), (2, .int nx)] := hl
  refine lv_aload_n hx hb dX5_takesBread_0 rfl (lv_at hl 0 rfl) ?_
  refine va_get (D := D) (ci := 5) (v := .ref (u 8)) (C := RX5) (T := TX5) (N := 13) hx hb hts hinX5 hown hK.1 hP 0 rfl rfl 7 (by decide) (hts (.fieldLink RX5 22 "SaltSharesModel" "parts" "[I") (List.mem_of_getElem? (i := 1) rfl)) (fun _ h9 => h9) rfl dX5_takesBread_1 ?_
  refine lv_iconst (v := 3) hx hb dX5_takesBread_4 (by decide) ?_
  refine lv_aload_n hx hb dX5_takesBread_5 rfl (lv_at hl 0 rfl) ?_
  refine va_get (D := D) (ci := 5) (v := .int (M 8 0)) (C := RX5) (T := TX5) (N := 13) hx hb hts hinX5 hown hK.1 hP 0 rfl rfl 8 (by decide) (hts (.fieldLink RX5 156 "SaltSharesModel" "read" "I") (List.mem_of_getElem? (i := 2) rfl)) (fun _ h9 => h9) rfl dX5_takesBread_6 ?_
  have w_1 := znat z0
  have w_1b := w_1.2
  refine lv_is w_1.1 ?_
  refine lv_imul hx hb dX5_takesBread_9 ?_
  refine lv_is (show (3 : Int32) * (nI (Int32.toNatClampNeg (M 8 0))) = (nI (3 * (Int32.toNatClampNeg (M 8 0)))) from pk_mul 3 (Int32.toNatClampNeg (M 8 0))) ?_
  refine lv_iconst (v := 1) hx hb dX5_takesBread_10 (by decide) ?_
  refine lv_iadd hx hb dX5_takesBread_11 ?_
  refine lv_is (show (nI (3 * (Int32.toNatClampNeg (M 8 0)))) + 1 = (nI (3 * (Int32.toNatClampNeg (M 8 0)) + 1)) from nI_add (3 * (Int32.toNatClampNeg (M 8 0))) 1) ?_
  refine lv_iload_n hx hb dX5_takesBread_12 rfl (lv_at hl 1 rfl) ?_
  refine lv_bipush (v := 48) hx hb dX5_takesBread_13 (by decide) ?_
  refine lv_isub hx hb dX5_takesBread_15 ?_
  refine z_iast (i := 3 * (Int32.toNatClampNeg (M 8 0)) + 1) (x := (code - 48)) hx hb hK hP hD hS 5 0 rfl rfl (by omega) (by decide) dX5_takesBread_16 (fun H locs hP hD hS => ?_)
  have hP : va_P D vwCl (zB_X5 (g 0) u (zU M 7 (upd (M 7) (3 * (Int32.toNatClampNeg (M 8 0)) + 1) (code - 48))) w) H := hP
  have hD : va_D (zA (zB_X5 (g 0) u M w)) (zB_X5 (g 0) u (zU M 7 (upd (M 7) (3 * (Int32.toNatClampNeg (M 8 0)) + 1) (code - 48))) w) := hD
  refine lv_aload_n hx hb dX5_takesBread_17 rfl (lv_at hl 0 rfl) ?_
  refine lv_iload_n hx hb dX5_takesBread_18 rfl (lv_at hl 2 rfl) ?_
  refine va_put (D := D) (ci := 5) (v := .int nx) (ty := .int) (C := RX5) (T := TX5) (N := 13) hx hb hts hinX5 tyX5 tyX5_ok nmX5 hown hK.1 hP hD hS 0 rfl rfl 10 (by decide) (hts (.fieldLink RX5 162 "SaltSharesModel" "due" "I") (List.mem_of_getElem? (i := 3) rfl)) (fun _ h9 => h9) rfl (by decide +kernel) rfl rfl (Nat.le_of_ble_eq_true rfl) dX5_takesBread_19 (fun H locs hP hD hS => ?_)
  have hP : va_P D vwCl (zB_X5 (g 0) u (zU (zU M 7 (upd (M 7) (3 * (Int32.toNatClampNeg (M 8 0)) + 1) (code - 48))) 10 (fun _ => nx)) w) H := hP
  have hD : va_D (zA (zB_X5 (g 0) u M w)) (zB_X5 (g 0) u (zU (zU M 7 (upd (M 7) (3 * (Int32.toNatClampNeg (M 8 0)) + 1) (code - 48))) 10 (fun _ => nx)) w) := hD
  refine lv_iload_n hx hb dX5_takesBread_22 rfl (lv_at hl 1 rfl) ?_
  refine lv_bipush (v := 48) hx hb dX5_takesBread_23 (by decide) ?_
  refine lv_bipush (v := 55) hx hb dX5_takesBread_25 (by decide) ?_
  refine zcSO (n := 3) (c_X5_within l D g code 48 55) hx hb hml hown hts gX5_takesBread_X5_within rfl ⟨by decide, by decide, by decide⟩ ⟨Nat.le_of_ble_eq_true rfl, Nat.le_of_ble_eq_true rfl⟩ ⟨rfl, rfl⟩ hK (hP.sub [] rfl) hl.1 rfl rfl (Nat.le_of_ble_eq_true rfl) ⟨Nat.zero_le _, Nat.zero_le _⟩ dX5_takesBread_27 ?_
  exact zretw_z (q' := (v_X5_within code 48 55)) hx hb hr hlocks dX5_takesBread_30 hP hS (congrArg (fun z9 => z9.1) hq) (congrArg (fun z9 => zB_X5 (g 0) u z9.2 w) hq)
def v_X5_takesDigit (M : Nat → Nat → Int32) (dg : Int32) : Bool × (Nat → Nat → Int32) := (if (M 7 (3 * (Int32.toNatClampNeg (M 8 0)))) = 100 then (if (M 10 0) = 4 then (if (M 9 0) = (-1) then (if (v_X5_within dg 0 9) = true then (if (M 9 0) = 0 then (false, zU (zU M 9 (fun _ => (M 9 0))) 7 (upd (M 7) (3 * (Int32.toNatClampNeg (M 8 0)) + 2) (M 9 0))) else (if (v_X5_within dg 1 149) = true then (true, zU (zU M 9 (fun _ => dg)) 7 (upd (M 7) (3 * (Int32.toNatClampNeg (M 8 0)) + 2) dg)) else (false, zU (zU M 9 (fun _ => (M 9 0))) 7 (upd (M 7) (3 * (Int32.toNatClampNeg (M 8 0)) + 2) (M 9 0))))) else (false, zU (zU M 9 (fun _ => (M 9 0))) 7 (upd (M 7) (3 * (Int32.toNatClampNeg (M 8 0)) + 2) (M 9 0)))) else (if (v_X5_within dg 0 9) = true then (if (M 9 0) = 0 then (false, zU (zU M 9 (fun _ => (M 9 0))) 7 (upd (M 7) (3 * (Int32.toNatClampNeg (M 8 0)) + 2) (M 9 0))) else (if (v_X5_within (((10 : Int32) * (M 9 0)) + dg) 1 149) = true then (true, zU (zU M 9 (fun _ => (((10 : Int32) * (M 9 0)) + dg))) 7 (upd (M 7) (3 * (Int32.toNatClampNeg (M 8 0)) + 2) (((10 : Int32) * (M 9 0)) + dg))) else (false, zU (zU M 9 (fun _ => (M 9 0))) 7 (upd (M 7) (3 * (Int32.toNatClampNeg (M 8 0)) + 2) (M 9 0))))) else (false, zU (zU M 9 (fun _ => (M 9 0))) 7 (upd (M 7) (3 * (Int32.toNatClampNeg (M 8 0)) + 2) (M 9 0))))) else (if (M 9 0) = (-1) then (if (v_X5_within dg 0 9) = true then (if (M 9 0) = 0 then (false, zU (zU M 9 (fun _ => (M 9 0))) 7 (upd (M 7) (3 * (Int32.toNatClampNeg (M 8 0)) + 2) (M 9 0))) else (if (v_X5_within dg 1 50) = true then (true, zU (zU M 9 (fun _ => dg)) 7 (upd (M 7) (3 * (Int32.toNatClampNeg (M 8 0)) + 2) dg)) else (false, zU (zU M 9 (fun _ => (M 9 0))) 7 (upd (M 7) (3 * (Int32.toNatClampNeg (M 8 0)) + 2) (M 9 0))))) else (false, zU (zU M 9 (fun _ => (M 9 0))) 7 (upd (M 7) (3 * (Int32.toNatClampNeg (M 8 0)) + 2) (M 9 0)))) else (if (v_X5_within dg 0 9) = true then (if (M 9 0) = 0 then (false, zU (zU M 9 (fun _ => (M 9 0))) 7 (upd (M 7) (3 * (Int32.toNatClampNeg (M 8 0)) + 2) (M 9 0))) else (if (v_X5_within (((10 : Int32) * (M 9 0)) + dg) 1 50) = true then (true, zU (zU M 9 (fun _ => (((10 : Int32) * (M 9 0)) + dg))) 7 (upd (M 7) (3 * (Int32.toNatClampNeg (M 8 0)) + 2) (((10 : Int32) * (M 9 0)) + dg))) else (false, zU (zU M 9 (fun _ => (M 9 0))) 7 (upd (M 7) (3 * (Int32.toNatClampNeg (M 8 0)) + 2) (M 9 0))))) else (false, zU (zU M 9 (fun _ => (M 9 0))) 7 (upd (M 7) (3 * (Int32.toNatClampNeg (M 8 0)) + 2) (M 9 0)))))) else (if (M 10 0) = 4 then (if (M 9 0) = (-1) then (if (v_X5_within dg 0 9) = true then (if (M 9 0) = 0 then (false, zU (zU M 9 (fun _ => (M 9 0))) 7 (upd (M 7) (3 * (Int32.toNatClampNeg (M 8 0)) + 2) (M 9 0))) else (if (v_X5_within dg 0 149) = true then (true, zU (zU M 9 (fun _ => dg)) 7 (upd (M 7) (3 * (Int32.toNatClampNeg (M 8 0)) + 2) dg)) else (false, zU (zU M 9 (fun _ => (M 9 0))) 7 (upd (M 7) (3 * (Int32.toNatClampNeg (M 8 0)) + 2) (M 9 0))))) else (false, zU (zU M 9 (fun _ => (M 9 0))) 7 (upd (M 7) (3 * (Int32.toNatClampNeg (M 8 0)) + 2) (M 9 0)))) else (if (v_X5_within dg 0 9) = true then (if (M 9 0) = 0 then (false, zU (zU M 9 (fun _ => (M 9 0))) 7 (upd (M 7) (3 * (Int32.toNatClampNeg (M 8 0)) + 2) (M 9 0))) else (if (v_X5_within (((10 : Int32) * (M 9 0)) + dg) 0 149) = true then (true, zU (zU M 9 (fun _ => (((10 : Int32) * (M 9 0)) + dg))) 7 (upd (M 7) (3 * (Int32.toNatClampNeg (M 8 0)) + 2) (((10 : Int32) * (M 9 0)) + dg))) else (false, zU (zU M 9 (fun _ => (M 9 0))) 7 (upd (M 7) (3 * (Int32.toNatClampNeg (M 8 0)) + 2) (M 9 0))))) else (false, zU (zU M 9 (fun _ => (M 9 0))) 7 (upd (M 7) (3 * (Int32.toNatClampNeg (M 8 0)) + 2) (M 9 0))))) else (if (M 9 0) = (-1) then (if (v_X5_within dg 0 9) = true then (if (M 9 0) = 0 then (false, zU (zU M 9 (fun _ => (M 9 0))) 7 (upd (M 7) (3 * (Int32.toNatClampNeg (M 8 0)) + 2) (M 9 0))) else (if (v_X5_within dg 0 100) = true then (true, zU (zU M 9 (fun _ => dg)) 7 (upd (M 7) (3 * (Int32.toNatClampNeg (M 8 0)) + 2) dg)) else (false, zU (zU M 9 (fun _ => (M 9 0))) 7 (upd (M 7) (3 * (Int32.toNatClampNeg (M 8 0)) + 2) (M 9 0))))) else (false, zU (zU M 9 (fun _ => (M 9 0))) 7 (upd (M 7) (3 * (Int32.toNatClampNeg (M 8 0)) + 2) (M 9 0)))) else (if (v_X5_within dg 0 9) = true then (if (M 9 0) = 0 then (false, zU (zU M 9 (fun _ => (M 9 0))) 7 (upd (M 7) (3 * (Int32.toNatClampNeg (M 8 0)) + 2) (M 9 0))) else (if (v_X5_within (((10 : Int32) * (M 9 0)) + dg) 0 100) = true then (true, zU (zU M 9 (fun _ => (((10 : Int32) * (M 9 0)) + dg))) 7 (upd (M 7) (3 * (Int32.toNatClampNeg (M 8 0)) + 2) (((10 : Int32) * (M 9 0)) + dg))) else (false, zU (zU M 9 (fun _ => (M 9 0))) 7 (upd (M 7) (3 * (Int32.toNatClampNeg (M 8 0)) + 2) (M 9 0))))) else (false, zU (zU M 9 (fun _ => (M 9 0))) 7 (upd (M 7) (3 * (Int32.toNatClampNeg (M 8 0)) + 2) (M 9 0)))))))
set_option maxHeartbeats 400000 in
set_option maxRecDepth 100000 in
theorem c_X5_takesDigit (l : Launch) (D : va_G) (g : Nat → ClassId) (u : Nat → Nat) (M : Nat → Nat → Int32) (w : Int64) (dg : Int32) (z0 : vp_in (M 8 0) 24) : Wr l D (zT g) yX5_takesDigit wsX5_takesDigit (rmOf 1 22) [.ref (u 0), .int dg] (zB_X5 (g 0) u M w) (some (.int (bI ((v_X5_takesDigit M dg).1)))) (zB_X5 (g 0) u ((v_X5_takesDigit M dg).2) w) := by
  refine Wr.of (cc := cX5_takesDigit) (maxL := 6) (ret := (some .boolean)) (by decide) rfl (Nat.le_of_ble_eq_true rfl) ?_
  intro p e s m below meth c ls hx hb hr hml hown hts hlocks hP hD hS hK hl
  have hown : s.vm.findClass RX5 = some m.cls := hown
  have hinX5 : ∀ w ∈ u_ws RX5 TX5 13, w ∈ wsX5_takesDigit := fun _ h9 => (List.mem_cons_of_mem _ (List.mem_append_right _ h9))
  obtain ⟨q, hq⟩ : ∃ q : Bool × (Nat → Nat → Int32), q = v_X5_takesDigit M dg := ⟨_, rfl⟩
  rw [← hq]
  unfold v_X5_takesDigit at hq
  have hl : lv_has ls 6 [(0, .ref (u 0)), (1, .int dg)] := hl
  refine lv_aload_n hx hb dX5_takesDigit_0 rfl (lv_at hl 0 rfl) ?_
  refine va_get (D := D) (ci := 5) (v := .ref (u 8)) (C := RX5) (T := TX5) (N := 13) hx hb hts hinX5 hown hK.1 hP 0 rfl rfl 7 (by decide) (hts (.fieldLink RX5 22 "SaltSharesModel" "parts" "[I") (List.mem_of_getElem? (i := 1) rfl)) (fun _ h9 => h9) rfl dX5_takesDigit_1 ?_
  refine lv_iconst (v := 3) hx hb dX5_takesDigit_4 (by decide) ?_
  refine lv_aload_n hx hb dX5_takesDigit_5 rfl (lv_at hl 0 rfl) ?_
  refine va_get (D := D) (ci := 5) (v := .int (M 8 0)) (C := RX5) (T := TX5) (N := 13) hx hb hts hinX5 hown hK.1 hP 0 rfl rfl 8 (by decide) (hts (.fieldLink RX5 156 "SaltSharesModel" "read" "I") (List.mem_of_getElem? (i := 2) rfl)) (fun _ h9 => h9) rfl dX5_takesDigit_6 ?_
  have w_1 := znat z0
  have w_1b := w_1.2
  refine lv_is w_1.1 ?_
  refine lv_imul hx hb dX5_takesDigit_9 ?_
  refine lv_is (show (3 : Int32) * (nI (Int32.toNatClampNeg (M 8 0))) = (nI (3 * (Int32.toNatClampNeg (M 8 0)))) from pk_mul 3 (Int32.toNatClampNeg (M 8 0))) ?_
  refine z_iald (i := 3 * (Int32.toNatClampNeg (M 8 0))) hx hb hK hP 5 0 rfl rfl (by omega) (by decide) dX5_takesDigit_10 ?_
  refine lv_bipush (v := 100) hx hb dX5_takesDigit_11 (by decide) ?_
  refine lv_icmp_ne (tgt := 20) hx hb dX5_takesDigit_13 (by decide) (fun c_2 => ?_) (fun c_2 => ?_)
  · have c_2 : ¬ ((M 7 (3 * (Int32.toNatClampNeg (M 8 0)))) = 100) := c_2
    have hq := hq.trans (if_neg c_2)
    refine lv_iconst (v := 0) hx hb dX5_takesDigit_20 (by decide) ?_
    refine lv_is (show (0 : Int32) = bI false from rfl) ?_
    refine lv_istore_n (lv' := [(2, .int (bI false)), (0, .ref (u 0)), (1, .int dg)]) hx hb dX5_takesDigit_21 rfl hl (by decide) rfl (fun ls hl => ?_)
    refine lv_aload_n hx hb dX5_takesDigit_22 rfl (lv_at hl 1 rfl) ?_
    refine va_get (D := D) (ci := 5) (v := .int (M 10 0)) (C := RX5) (T := TX5) (N := 13) hx hb hts hinX5 hown hK.1 hP 0 rfl rfl 10 (by decide) (hts (.fieldLink RX5 162 "SaltSharesModel" "due" "I") (List.mem_of_getElem? (i := 3) rfl)) (fun _ h9 => h9) rfl dX5_takesDigit_23 ?_
    refine lv_iconst (v := 4) hx hb dX5_takesDigit_26 (by decide) ?_
    refine lv_icmp_ne (tgt := 36) hx hb dX5_takesDigit_27 (by decide) (fun c_3 => ?_) (fun c_3 => ?_)
    · have c_3 : ¬ ((M 10 0) = 4) := c_3
      have hq := hq.trans (if_neg c_3)
      refine lv_iload_n hx hb dX5_takesDigit_36 rfl (lv_at hl 0 rfl) ?_
      refine zif_eq (tgt := 45) hx hb dX5_takesDigit_37 (by decide) (fun c_4 => ?_) (fun c_4 => ?_)
      rotate_left
      · cases c_4
      refine lv_bipush (v := 100) hx hb dX5_takesDigit_45 (by decide) ?_
      refine lv_istore_n (lv' := [(3, .int 100), (2, .int (bI false)), (0, .ref (u 0)), (1, .int dg)]) hx hb dX5_takesDigit_47 rfl hl (by decide) rfl (fun ls hl => ?_)
      refine lv_aload_n hx hb dX5_takesDigit_48 rfl (lv_at hl 2 rfl) ?_
      refine va_get (D := D) (ci := 5) (v := .int (M 9 0)) (C := RX5) (T := TX5) (N := 13) hx hb hts hinX5 hown hK.1 hP 0 rfl rfl 9 (by decide) (hts (.fieldLink RX5 159 "SaltSharesModel" "number" "I") (List.mem_of_getElem? (i := 4) rfl)) (fun _ h9 => h9) rfl dX5_takesDigit_49 ?_
      refine lv_iconst (v := (-1)) hx hb dX5_takesDigit_52 (by decide) ?_
      refine lv_icmp_ne (tgt := 60) hx hb dX5_takesDigit_53 (by decide) (fun c_5 => ?_) (fun c_5 => ?_)
      · have c_5 : ¬ ((M 9 0) = (-1)) := c_5
        have hq := hq.trans (if_neg c_5)
        refine lv_bipush (v := 10) hx hb dX5_takesDigit_60 (by decide) ?_
        refine lv_aload_n hx hb dX5_takesDigit_62 rfl (lv_at hl 2 rfl) ?_
        refine va_get (D := D) (ci := 5) (v := .int (M 9 0)) (C := RX5) (T := TX5) (N := 13) hx hb hts hinX5 hown hK.1 hP 0 rfl rfl 9 (by decide) (hts (.fieldLink RX5 159 "SaltSharesModel" "number" "I") (List.mem_of_getElem? (i := 4) rfl)) (fun _ h9 => h9) rfl dX5_takesDigit_63 ?_
        refine lv_imul hx hb dX5_takesDigit_66 ?_
        refine lv_iload_n hx hb dX5_takesDigit_67 rfl (lv_at hl 3 rfl) ?_
        refine lv_iadd hx hb dX5_takesDigit_68 ?_
        refine lv_istore (lv' := [(4, .int (((10 : Int32) * (M 9 0)) + dg)), (3, .int 100), (2, .int (bI false)), (0, .ref (u 0)), (1, .int dg)]) hx hb dX5_takesDigit_69 hl (by decide) rfl (fun ls hl => ?_)
        refine lv_iload_n hx hb dX5_takesDigit_71 rfl (lv_at hl 4 rfl) ?_
        refine lv_iconst (v := 0) hx hb dX5_takesDigit_72 (by decide) ?_
        refine lv_bipush (v := 9) hx hb dX5_takesDigit_73 (by decide) ?_
        refine zcSO (n := 3) (c_X5_within l D g dg 0 9) hx hb hml hown hts gX5_takesDigit_X5_within rfl ⟨by decide, by decide, by decide⟩ ⟨Nat.le_of_ble_eq_true rfl, Nat.le_of_ble_eq_true rfl⟩ ⟨rfl, rfl⟩ hK (hP.sub [] rfl) hl.1 rfl rfl (Nat.le_of_ble_eq_true rfl) ⟨Nat.zero_le _, Nat.zero_le _⟩ dX5_takesDigit_75 ?_
        refine zif_eq (tgt := 110) hx hb dX5_takesDigit_78 (by decide) (fun c_7 => ?_) (fun c_7 => ?_)
        · have hq := hq.trans (zif_f c_7)
          refine lv_iconst (v := 0) hx hb dX5_takesDigit_110 (by decide) ?_
          refine lv_is (show (0 : Int32) = bI false from rfl) ?_
          refine lv_istore (lv' := [(5, .int (bI false)), (4, .int (((10 : Int32) * (M 9 0)) + dg)), (3, .int 100), (2, .int (bI false)), (0, .ref (u 0)), (1, .int dg)]) hx hb dX5_takesDigit_111 hl (by decide) rfl (fun ls hl => ?_)
          refine lv_aload_n hx hb dX5_takesDigit_113 rfl (lv_at hl 4 rfl) ?_
          refine lv_iload hx hb dX5_takesDigit_114 (lv_at hl 0 rfl) ?_
          refine zif_eq (tgt := 124) hx hb dX5_takesDigit_116 (by decide) (fun c_8 => ?_) (fun c_8 => ?_)
          rotate_left
          · cases c_8
          refine lv_aload_n hx hb dX5_takesDigit_124 rfl (lv_at hl 4 rfl) ?_
          refine va_get (D := D) (ci := 5) (v := .int (M 9 0)) (C := RX5) (T := TX5) (N := 13) hx hb hts hinX5 hown hK.1 hP 0 rfl rfl 9 (by decide) (hts (.fieldLink RX5 159 "SaltSharesModel" "number" "I") (List.mem_of_getElem? (i := 4) rfl)) (fun _ h9 => h9) rfl dX5_takesDigit_125 ?_
          refine va_put (D := D) (ci := 5) (v := .int (M 9 0)) (ty := .int) (C := RX5) (T := TX5) (N := 13) hx hb hts hinX5 tyX5 tyX5_ok nmX5 hown hK.1 hP hD hS 0 rfl rfl 9 (by decide) (hts (.fieldLink RX5 159 "SaltSharesModel" "number" "I") (List.mem_of_getElem? (i := 4) rfl)) (fun _ h9 => h9) rfl (by decide +kernel) rfl rfl (Nat.le_of_ble_eq_true rfl) dX5_takesDigit_128 (fun H locs hP hD hS => ?_)
          have hP : va_P D vwCl (zB_X5 (g 0) u (zU M 9 (fun _ => (M 9 0))) w) H := hP
          have hD : va_D (zA (zB_X5 (g 0) u M w)) (zB_X5 (g 0) u (zU M 9 (fun _ => (M 9 0))) w) := hD
          refine lv_aload_n hx hb dX5_takesDigit_131 rfl (lv_at hl 4 rfl) ?_
          refine va_get (D := D) (ci := 5) (v := .ref (u 8)) (C := RX5) (T := TX5) (N := 13) hx hb hts hinX5 hown hK.1 hP 0 rfl rfl 7 (by decide) (hts (.fieldLink RX5 22 "SaltSharesModel" "parts" "[I") (List.mem_of_getElem? (i := 1) rfl)) (fun _ h9 => h9) rfl dX5_takesDigit_132 ?_
          refine lv_iconst (v := 3) hx hb dX5_takesDigit_135 (by decide) ?_
          refine lv_aload_n hx hb dX5_takesDigit_136 rfl (lv_at hl 4 rfl) ?_
          refine va_get (D := D) (ci := 5) (v := .int (M 8 0)) (C := RX5) (T := TX5) (N := 13) hx hb hts hinX5 hown hK.1 hP 0 rfl rfl 8 (by decide) (hts (.fieldLink RX5 156 "SaltSharesModel" "read" "I") (List.mem_of_getElem? (i := 2) rfl)) (fun _ h9 => h9) rfl dX5_takesDigit_137 ?_
          have w_9 := znat z0
          have w_9b := w_9.2
          refine lv_is w_9.1 ?_
          refine lv_imul hx hb dX5_takesDigit_140 ?_
          refine lv_is (show (3 : Int32) * (nI (Int32.toNatClampNeg (M 8 0))) = (nI (3 * (Int32.toNatClampNeg (M 8 0)))) from pk_mul 3 (Int32.toNatClampNeg (M 8 0))) ?_
          refine lv_iconst (v := 2) hx hb dX5_takesDigit_141 (by decide) ?_
          refine lv_iadd hx hb dX5_takesDigit_142 ?_
          refine lv_is (show (nI (3 * (Int32.toNatClampNeg (M 8 0)))) + 2 = (nI (3 * (Int32.toNatClampNeg (M 8 0)) + 2)) from nI_add (3 * (Int32.toNatClampNeg (M 8 0))) 2) ?_
          refine lv_aload_n hx hb dX5_takesDigit_143 rfl (lv_at hl 4 rfl) ?_
          refine va_get (D := D) (ci := 5) (v := .int (M 9 0)) (C := RX5) (T := TX5) (N := 13) hx hb hts hinX5 hown hK.1 hP 0 rfl rfl 9 (by decide) (hts (.fieldLink RX5 159 "SaltSharesModel" "number" "I") (List.mem_of_getElem? (i := 4) rfl)) (fun _ h9 => h9) rfl dX5_takesDigit_144 ?_
          refine z_iast (i := 3 * (Int32.toNatClampNeg (M 8 0)) + 2) (x := (M 9 0)) hx hb hK hP hD hS 5 0 rfl rfl (by omega) (by decide) dX5_takesDigit_147 (fun H locs hP hD hS => ?_)
          have hP : va_P D vwCl (zB_X5 (g 0) u (zU (zU M 9 (fun _ => (M 9 0))) 7 (upd (M 7) (3 * (Int32.toNatClampNeg (M 8 0)) + 2) (M 9 0))) w) H := hP
          have hD : va_D (zA (zB_X5 (g 0) u M w)) (zB_X5 (g 0) u (zU (zU M 9 (fun _ => (M 9 0))) 7 (upd (M 7) (3 * (Int32.toNatClampNeg (M 8 0)) + 2) (M 9 0))) w) := hD
          refine lv_iload hx hb dX5_takesDigit_148 (lv_at hl 0 rfl) ?_
          exact zretw_z (q' := false) hx hb hr hlocks dX5_takesDigit_150 hP hS (congrArg (fun z9 => z9.1) hq) (congrArg (fun z9 => zB_X5 (g 0) u z9.2 w) hq)
        · have hq := hq.trans (zif_t c_7)
          refine lv_aload_n hx hb dX5_takesDigit_81 rfl (lv_at hl 3 rfl) ?_
          refine va_get (D := D) (ci := 5) (v := .int (M 9 0)) (C := RX5) (T := TX5) (N := 13) hx hb hts hinX5 hown hK.1 hP 0 rfl rfl 9 (by decide) (hts (.fieldLink RX5 159 "SaltSharesModel" "number" "I") (List.mem_of_getElem? (i := 4) rfl)) (fun _ h9 => h9) rfl dX5_takesDigit_82 ?_
          refine lv_if_eq (tgt := 110) hx hb dX5_takesDigit_85 (by decide) (fun c_10 => ?_) (fun c_10 => ?_)
          · have c_10 : (M 9 0) = 0 := c_10
            have hq := hq.trans (if_pos c_10)
            refine lv_iconst (v := 0) hx hb dX5_takesDigit_110 (by decide) ?_
            refine lv_is (show (0 : Int32) = bI false from rfl) ?_
            refine lv_istore (lv' := [(5, .int (bI false)), (4, .int (((10 : Int32) * (M 9 0)) + dg)), (3, .int 100), (2, .int (bI false)), (0, .ref (u 0)), (1, .int dg)]) hx hb dX5_takesDigit_111 hl (by decide) rfl (fun ls hl => ?_)
            refine lv_aload_n hx hb dX5_takesDigit_113 rfl (lv_at hl 4 rfl) ?_
            refine lv_iload hx hb dX5_takesDigit_114 (lv_at hl 0 rfl) ?_
            refine zif_eq (tgt := 124) hx hb dX5_takesDigit_116 (by decide) (fun c_11 => ?_) (fun c_11 => ?_)
            rotate_left
            · cases c_11
            refine lv_aload_n hx hb dX5_takesDigit_124 rfl (lv_at hl 4 rfl) ?_
            refine va_get (D := D) (ci := 5) (v := .int (M 9 0)) (C := RX5) (T := TX5) (N := 13) hx hb hts hinX5 hown hK.1 hP 0 rfl rfl 9 (by decide) (hts (.fieldLink RX5 159 "SaltSharesModel" "number" "I") (List.mem_of_getElem? (i := 4) rfl)) (fun _ h9 => h9) rfl dX5_takesDigit_125 ?_
            refine va_put (D := D) (ci := 5) (v := .int (M 9 0)) (ty := .int) (C := RX5) (T := TX5) (N := 13) hx hb hts hinX5 tyX5 tyX5_ok nmX5 hown hK.1 hP hD hS 0 rfl rfl 9 (by decide) (hts (.fieldLink RX5 159 "SaltSharesModel" "number" "I") (List.mem_of_getElem? (i := 4) rfl)) (fun _ h9 => h9) rfl (by decide +kernel) rfl rfl (Nat.le_of_ble_eq_true rfl) dX5_takesDigit_128 (fun H locs hP hD hS => ?_)
            have hP : va_P D vwCl (zB_X5 (g 0) u (zU M 9 (fun _ => (M 9 0))) w) H := hP
            have hD : va_D (zA (zB_X5 (g 0) u M w)) (zB_X5 (g 0) u (zU M 9 (fun _ => (M 9 0))) w) := hD
            refine lv_aload_n hx hb dX5_takesDigit_131 rfl (lv_at hl 4 rfl) ?_
            refine va_get (D := D) (ci := 5) (v := .ref (u 8)) (C := RX5) (T := TX5) (N := 13) hx hb hts hinX5 hown hK.1 hP 0 rfl rfl 7 (by decide) (hts (.fieldLink RX5 22 "SaltSharesModel" "parts" "[I") (List.mem_of_getElem? (i := 1) rfl)) (fun _ h9 => h9) rfl dX5_takesDigit_132 ?_
            refine lv_iconst (v := 3) hx hb dX5_takesDigit_135 (by decide) ?_
            refine lv_aload_n hx hb dX5_takesDigit_136 rfl (lv_at hl 4 rfl) ?_
            refine va_get (D := D) (ci := 5) (v := .int (M 8 0)) (C := RX5) (T := TX5) (N := 13) hx hb hts hinX5 hown hK.1 hP 0 rfl rfl 8 (by decide) (hts (.fieldLink RX5 156 "SaltSharesModel" "read" "I") (List.mem_of_getElem? (i := 2) rfl)) (fun _ h9 => h9) rfl dX5_takesDigit_137 ?_
            have w_12 := znat z0
            have w_12b := w_12.2
            refine lv_is w_12.1 ?_
            refine lv_imul hx hb dX5_takesDigit_140 ?_
            refine lv_is (show (3 : Int32) * (nI (Int32.toNatClampNeg (M 8 0))) = (nI (3 * (Int32.toNatClampNeg (M 8 0)))) from pk_mul 3 (Int32.toNatClampNeg (M 8 0))) ?_
            refine lv_iconst (v := 2) hx hb dX5_takesDigit_141 (by decide) ?_
            refine lv_iadd hx hb dX5_takesDigit_142 ?_
            refine lv_is (show (nI (3 * (Int32.toNatClampNeg (M 8 0)))) + 2 = (nI (3 * (Int32.toNatClampNeg (M 8 0)) + 2)) from nI_add (3 * (Int32.toNatClampNeg (M 8 0))) 2) ?_
            refine lv_aload_n hx hb dX5_takesDigit_143 rfl (lv_at hl 4 rfl) ?_
            refine va_get (D := D) (ci := 5) (v := .int (M 9 0)) (C := RX5) (T := TX5) (N := 13) hx hb hts hinX5 hown hK.1 hP 0 rfl rfl 9 (by decide) (hts (.fieldLink RX5 159 "SaltSharesModel" "number" "I") (List.mem_of_getElem? (i := 4) rfl)) (fun _ h9 => h9) rfl dX5_takesDigit_144 ?_
            refine z_iast (i := 3 * (Int32.toNatClampNeg (M 8 0)) + 2) (x := (M 9 0)) hx hb hK hP hD hS 5 0 rfl rfl (by omega) (by decide) dX5_takesDigit_147 (fun H locs hP hD hS => ?_)
            have hP : va_P D vwCl (zB_X5 (g 0) u (zU (zU M 9 (fun _ => (M 9 0))) 7 (upd (M 7) (3 * (Int32.toNatClampNeg (M 8 0)) + 2) (M 9 0))) w) H := hP
            have hD : va_D (zA (zB_X5 (g 0) u M w)) (zB_X5 (g 0) u (zU (zU M 9 (fun _ => (M 9 0))) 7 (upd (M 7) (3 * (Int32.toNatClampNeg (M 8 0)) + 2) (M 9 0))) w) := hD
            refine lv_iload hx hb dX5_takesDigit_148 (lv_at hl 0 rfl) ?_
            exact zretw_z (q' := false) hx hb hr hlocks dX5_takesDigit_150 hP hS (congrArg (fun z9 => z9.1) hq) (congrArg (fun z9 => zB_X5 (g 0) u z9.2 w) hq)
          · have c_10 : ¬ ((M 9 0) = 0) := c_10
            have hq := hq.trans (if_neg c_10)
            refine lv_iload hx hb dX5_takesDigit_88 (lv_at hl 0 rfl) ?_
            refine lv_iload_n hx hb dX5_takesDigit_90 rfl (lv_at hl 2 rfl) ?_
            refine zif_eq (tgt := 98) hx hb dX5_takesDigit_91 (by decide) (fun c_13 => ?_) (fun c_13 => ?_)
            rotate_left
            · cases c_13
            refine lv_iconst (v := 0) hx hb dX5_takesDigit_98 (by decide) ?_
            refine lv_iload_n hx hb dX5_takesDigit_99 rfl (lv_at hl 1 rfl) ?_
            refine zcSO (n := 3) (c_X5_within l D g (((10 : Int32) * (M 9 0)) + dg) 0 100) hx hb hml hown hts gX5_takesDigit_X5_within rfl ⟨by decide, by decide, by decide⟩ ⟨Nat.le_of_ble_eq_true rfl, Nat.le_of_ble_eq_true rfl⟩ ⟨rfl, rfl⟩ hK (hP.sub [] rfl) hl.1 rfl rfl (Nat.le_of_ble_eq_true rfl) ⟨Nat.zero_le _, Nat.zero_le _⟩ dX5_takesDigit_100 ?_
            refine zif_eq (tgt := 110) hx hb dX5_takesDigit_103 (by decide) (fun c_15 => ?_) (fun c_15 => ?_)
            · have hq := hq.trans (zif_f c_15)
              refine lv_iconst (v := 0) hx hb dX5_takesDigit_110 (by decide) ?_
              refine lv_is (show (0 : Int32) = bI false from rfl) ?_
              refine lv_istore (lv' := [(5, .int (bI false)), (4, .int (((10 : Int32) * (M 9 0)) + dg)), (3, .int 100), (2, .int (bI false)), (0, .ref (u 0)), (1, .int dg)]) hx hb dX5_takesDigit_111 hl (by decide) rfl (fun ls hl => ?_)
              refine lv_aload_n hx hb dX5_takesDigit_113 rfl (lv_at hl 4 rfl) ?_
              refine lv_iload hx hb dX5_takesDigit_114 (lv_at hl 0 rfl) ?_
              refine zif_eq (tgt := 124) hx hb dX5_takesDigit_116 (by decide) (fun c_16 => ?_) (fun c_16 => ?_)
              rotate_left
              · cases c_16
              refine lv_aload_n hx hb dX5_takesDigit_124 rfl (lv_at hl 4 rfl) ?_
              refine va_get (D := D) (ci := 5) (v := .int (M 9 0)) (C := RX5) (T := TX5) (N := 13) hx hb hts hinX5 hown hK.1 hP 0 rfl rfl 9 (by decide) (hts (.fieldLink RX5 159 "SaltSharesModel" "number" "I") (List.mem_of_getElem? (i := 4) rfl)) (fun _ h9 => h9) rfl dX5_takesDigit_125 ?_
              refine va_put (D := D) (ci := 5) (v := .int (M 9 0)) (ty := .int) (C := RX5) (T := TX5) (N := 13) hx hb hts hinX5 tyX5 tyX5_ok nmX5 hown hK.1 hP hD hS 0 rfl rfl 9 (by decide) (hts (.fieldLink RX5 159 "SaltSharesModel" "number" "I") (List.mem_of_getElem? (i := 4) rfl)) (fun _ h9 => h9) rfl (by decide +kernel) rfl rfl (Nat.le_of_ble_eq_true rfl) dX5_takesDigit_128 (fun H locs hP hD hS => ?_)
              have hP : va_P D vwCl (zB_X5 (g 0) u (zU M 9 (fun _ => (M 9 0))) w) H := hP
              have hD : va_D (zA (zB_X5 (g 0) u M w)) (zB_X5 (g 0) u (zU M 9 (fun _ => (M 9 0))) w) := hD
              refine lv_aload_n hx hb dX5_takesDigit_131 rfl (lv_at hl 4 rfl) ?_
              refine va_get (D := D) (ci := 5) (v := .ref (u 8)) (C := RX5) (T := TX5) (N := 13) hx hb hts hinX5 hown hK.1 hP 0 rfl rfl 7 (by decide) (hts (.fieldLink RX5 22 "SaltSharesModel" "parts" "[I") (List.mem_of_getElem? (i := 1) rfl)) (fun _ h9 => h9) rfl dX5_takesDigit_132 ?_
              refine lv_iconst (v := 3) hx hb dX5_takesDigit_135 (by decide) ?_
              refine lv_aload_n hx hb dX5_takesDigit_136 rfl (lv_at hl 4 rfl) ?_
              refine va_get (D := D) (ci := 5) (v := .int (M 8 0)) (C := RX5) (T := TX5) (N := 13) hx hb hts hinX5 hown hK.1 hP 0 rfl rfl 8 (by decide) (hts (.fieldLink RX5 156 "SaltSharesModel" "read" "I") (List.mem_of_getElem? (i := 2) rfl)) (fun _ h9 => h9) rfl dX5_takesDigit_137 ?_
              have w_17 := znat z0
              have w_17b := w_17.2
              refine lv_is w_17.1 ?_
              refine lv_imul hx hb dX5_takesDigit_140 ?_
              refine lv_is (show (3 : Int32) * (nI (Int32.toNatClampNeg (M 8 0))) = (nI (3 * (Int32.toNatClampNeg (M 8 0)))) from pk_mul 3 (Int32.toNatClampNeg (M 8 0))) ?_
              refine lv_iconst (v := 2) hx hb dX5_takesDigit_141 (by decide) ?_
              refine lv_iadd hx hb dX5_takesDigit_142 ?_
              refine lv_is (show (nI (3 * (Int32.toNatClampNeg (M 8 0)))) + 2 = (nI (3 * (Int32.toNatClampNeg (M 8 0)) + 2)) from nI_add (3 * (Int32.toNatClampNeg (M 8 0))) 2) ?_
              refine lv_aload_n hx hb dX5_takesDigit_143 rfl (lv_at hl 4 rfl) ?_
              refine va_get (D := D) (ci := 5) (v := .int (M 9 0)) (C := RX5) (T := TX5) (N := 13) hx hb hts hinX5 hown hK.1 hP 0 rfl rfl 9 (by decide) (hts (.fieldLink RX5 159 "SaltSharesModel" "number" "I") (List.mem_of_getElem? (i := 4) rfl)) (fun _ h9 => h9) rfl dX5_takesDigit_144 ?_
              refine z_iast (i := 3 * (Int32.toNatClampNeg (M 8 0)) + 2) (x := (M 9 0)) hx hb hK hP hD hS 5 0 rfl rfl (by omega) (by decide) dX5_takesDigit_147 (fun H locs hP hD hS => ?_)
              have hP : va_P D vwCl (zB_X5 (g 0) u (zU (zU M 9 (fun _ => (M 9 0))) 7 (upd (M 7) (3 * (Int32.toNatClampNeg (M 8 0)) + 2) (M 9 0))) w) H := hP
              have hD : va_D (zA (zB_X5 (g 0) u M w)) (zB_X5 (g 0) u (zU (zU M 9 (fun _ => (M 9 0))) 7 (upd (M 7) (3 * (Int32.toNatClampNeg (M 8 0)) + 2) (M 9 0))) w) := hD
              refine lv_iload hx hb dX5_takesDigit_148 (lv_at hl 0 rfl) ?_
              exact zretw_z (q' := false) hx hb hr hlocks dX5_takesDigit_150 hP hS (congrArg (fun z9 => z9.1) hq) (congrArg (fun z9 => zB_X5 (g 0) u z9.2 w) hq)
            · have hq := hq.trans (zif_t c_15)
              refine lv_iconst (v := 1) hx hb dX5_takesDigit_106 (by decide) ?_
              refine lv_goto (tgt := 111) hx hb dX5_takesDigit_107 (by decide) ?_
              refine lv_is (show (1 : Int32) = bI true from rfl) ?_
              refine lv_istore (lv' := [(5, .int (bI true)), (4, .int (((10 : Int32) * (M 9 0)) + dg)), (3, .int 100), (2, .int (bI false)), (0, .ref (u 0)), (1, .int dg)]) hx hb dX5_takesDigit_111 hl (by decide) rfl (fun ls hl => ?_)
              refine lv_aload_n hx hb dX5_takesDigit_113 rfl (lv_at hl 4 rfl) ?_
              refine lv_iload hx hb dX5_takesDigit_114 (lv_at hl 0 rfl) ?_
              refine zif_eq (tgt := 124) hx hb dX5_takesDigit_116 (by decide) (fun c_18 => ?_) (fun c_18 => ?_)
              · cases c_18
              refine lv_iload hx hb dX5_takesDigit_119 (lv_at hl 1 rfl) ?_
              refine lv_goto (tgt := 128) hx hb dX5_takesDigit_121 (by decide) ?_
              refine va_put (D := D) (ci := 5) (v := .int (((10 : Int32) * (M 9 0)) + dg)) (ty := .int) (C := RX5) (T := TX5) (N := 13) hx hb hts hinX5 tyX5 tyX5_ok nmX5 hown hK.1 hP hD hS 0 rfl rfl 9 (by decide) (hts (.fieldLink RX5 159 "SaltSharesModel" "number" "I") (List.mem_of_getElem? (i := 4) rfl)) (fun _ h9 => h9) rfl (by decide +kernel) rfl rfl (Nat.le_of_ble_eq_true rfl) dX5_takesDigit_128 (fun H locs hP hD hS => ?_)
              have hP : va_P D vwCl (zB_X5 (g 0) u (zU M 9 (fun _ => (((10 : Int32) * (M 9 0)) + dg))) w) H := hP
              have hD : va_D (zA (zB_X5 (g 0) u M w)) (zB_X5 (g 0) u (zU M 9 (fun _ => (((10 : Int32) * (M 9 0)) + dg))) w) := hD
              refine lv_aload_n hx hb dX5_takesDigit_131 rfl (lv_at hl 4 rfl) ?_
              refine va_get (D := D) (ci := 5) (v := .ref (u 8)) (C := RX5) (T := TX5) (N := 13) hx hb hts hinX5 hown hK.1 hP 0 rfl rfl 7 (by decide) (hts (.fieldLink RX5 22 "SaltSharesModel" "parts" "[I") (List.mem_of_getElem? (i := 1) rfl)) (fun _ h9 => h9) rfl dX5_takesDigit_132 ?_
              refine lv_iconst (v := 3) hx hb dX5_takesDigit_135 (by decide) ?_
              refine lv_aload_n hx hb dX5_takesDigit_136 rfl (lv_at hl 4 rfl) ?_
              refine va_get (D := D) (ci := 5) (v := .int (M 8 0)) (C := RX5) (T := TX5) (N := 13) hx hb hts hinX5 hown hK.1 hP 0 rfl rfl 8 (by decide) (hts (.fieldLink RX5 156 "SaltSharesModel" "read" "I") (List.mem_of_getElem? (i := 2) rfl)) (fun _ h9 => h9) rfl dX5_takesDigit_137 ?_
              have w_19 := znat z0
              have w_19b := w_19.2
              refine lv_is w_19.1 ?_
              refine lv_imul hx hb dX5_takesDigit_140 ?_
              refine lv_is (show (3 : Int32) * (nI (Int32.toNatClampNeg (M 8 0))) = (nI (3 * (Int32.toNatClampNeg (M 8 0)))) from pk_mul 3 (Int32.toNatClampNeg (M 8 0))) ?_
              refine lv_iconst (v := 2) hx hb dX5_takesDigit_141 (by decide) ?_
              refine lv_iadd hx hb dX5_takesDigit_142 ?_
              refine lv_is (show (nI (3 * (Int32.toNatClampNeg (M 8 0)))) + 2 = (nI (3 * (Int32.toNatClampNeg (M 8 0)) + 2)) from nI_add (3 * (Int32.toNatClampNeg (M 8 0))) 2) ?_
              refine lv_aload_n hx hb dX5_takesDigit_143 rfl (lv_at hl 4 rfl) ?_
              refine va_get (D := D) (ci := 5) (v := .int (((10 : Int32) * (M 9 0)) + dg)) (C := RX5) (T := TX5) (N := 13) hx hb hts hinX5 hown hK.1 hP 0 rfl rfl 9 (by decide) (hts (.fieldLink RX5 159 "SaltSharesModel" "number" "I") (List.mem_of_getElem? (i := 4) rfl)) (fun _ h9 => h9) rfl dX5_takesDigit_144 ?_
              refine z_iast (i := 3 * (Int32.toNatClampNeg (M 8 0)) + 2) (x := (((10 : Int32) * (M 9 0)) + dg)) hx hb hK hP hD hS 5 0 rfl rfl (by omega) (by decide) dX5_takesDigit_147 (fun H locs hP hD hS => ?_)
              have hP : va_P D vwCl (zB_X5 (g 0) u (zU (zU M 9 (fun _ => (((10 : Int32) * (M 9 0)) + dg))) 7 (upd (M 7) (3 * (Int32.toNatClampNeg (M 8 0)) + 2) (((10 : Int32) * (M 9 0)) + dg))) w) H := hP
              have hD : va_D (zA (zB_X5 (g 0) u M w)) (zB_X5 (g 0) u (zU (zU M 9 (fun _ => (((10 : Int32) * (M 9 0)) + dg))) 7 (upd (M 7) (3 * (Int32.toNatClampNeg (M 8 0)) + 2) (((10 : Int32) * (M 9 0)) + dg))) w) := hD
              refine lv_iload hx hb dX5_takesDigit_148 (lv_at hl 0 rfl) ?_
              exact zretw_z (q' := true) hx hb hr hlocks dX5_takesDigit_150 hP hS (congrArg (fun z9 => z9.1) hq) (congrArg (fun z9 => zB_X5 (g 0) u z9.2 w) hq)
      · have c_5 : (M 9 0) = (-1) := c_5
        have hq := hq.trans (if_pos c_5)
        refine lv_iload_n hx hb dX5_takesDigit_56 rfl (lv_at hl 3 rfl) ?_
        refine lv_goto (tgt := 69) hx hb dX5_takesDigit_57 (by decide) ?_
        refine lv_istore (lv' := [(4, .int dg), (3, .int 100), (2, .int (bI false)), (0, .ref (u 0)), (1, .int dg)]) hx hb dX5_takesDigit_69 hl (by decide) rfl (fun ls hl => ?_)
        refine lv_iload_n hx hb dX5_takesDigit_71 rfl (lv_at hl 4 rfl) ?_
        refine lv_iconst (v := 0) hx hb dX5_takesDigit_72 (by decide) ?_
        refine lv_bipush (v := 9) hx hb dX5_takesDigit_73 (by decide) ?_
        refine zcSO (n := 3) (c_X5_within l D g dg 0 9) hx hb hml hown hts gX5_takesDigit_X5_within rfl ⟨by decide, by decide, by decide⟩ ⟨Nat.le_of_ble_eq_true rfl, Nat.le_of_ble_eq_true rfl⟩ ⟨rfl, rfl⟩ hK (hP.sub [] rfl) hl.1 rfl rfl (Nat.le_of_ble_eq_true rfl) ⟨Nat.zero_le _, Nat.zero_le _⟩ dX5_takesDigit_75 ?_
        refine zif_eq (tgt := 110) hx hb dX5_takesDigit_78 (by decide) (fun c_21 => ?_) (fun c_21 => ?_)
        · have hq := hq.trans (zif_f c_21)
          refine lv_iconst (v := 0) hx hb dX5_takesDigit_110 (by decide) ?_
          refine lv_is (show (0 : Int32) = bI false from rfl) ?_
          refine lv_istore (lv' := [(5, .int (bI false)), (4, .int dg), (3, .int 100), (2, .int (bI false)), (0, .ref (u 0)), (1, .int dg)]) hx hb dX5_takesDigit_111 hl (by decide) rfl (fun ls hl => ?_)
          refine lv_aload_n hx hb dX5_takesDigit_113 rfl (lv_at hl 4 rfl) ?_
          refine lv_iload hx hb dX5_takesDigit_114 (lv_at hl 0 rfl) ?_
          refine zif_eq (tgt := 124) hx hb dX5_takesDigit_116 (by decide) (fun c_22 => ?_) (fun c_22 => ?_)
          rotate_left
          · cases c_22
          refine lv_aload_n hx hb dX5_takesDigit_124 rfl (lv_at hl 4 rfl) ?_
          refine va_get (D := D) (ci := 5) (v := .int (M 9 0)) (C := RX5) (T := TX5) (N := 13) hx hb hts hinX5 hown hK.1 hP 0 rfl rfl 9 (by decide) (hts (.fieldLink RX5 159 "SaltSharesModel" "number" "I") (List.mem_of_getElem? (i := 4) rfl)) (fun _ h9 => h9) rfl dX5_takesDigit_125 ?_
          refine va_put (D := D) (ci := 5) (v := .int (M 9 0)) (ty := .int) (C := RX5) (T := TX5) (N := 13) hx hb hts hinX5 tyX5 tyX5_ok nmX5 hown hK.1 hP hD hS 0 rfl rfl 9 (by decide) (hts (.fieldLink RX5 159 "SaltSharesModel" "number" "I") (List.mem_of_getElem? (i := 4) rfl)) (fun _ h9 => h9) rfl (by decide +kernel) rfl rfl (Nat.le_of_ble_eq_true rfl) dX5_takesDigit_128 (fun H locs hP hD hS => ?_)
          have hP : va_P D vwCl (zB_X5 (g 0) u (zU M 9 (fun _ => (M 9 0))) w) H := hP
          have hD : va_D (zA (zB_X5 (g 0) u M w)) (zB_X5 (g 0) u (zU M 9 (fun _ => (M 9 0))) w) := hD
          refine lv_aload_n hx hb dX5_takesDigit_131 rfl (lv_at hl 4 rfl) ?_
          refine va_get (D := D) (ci := 5) (v := .ref (u 8)) (C := RX5) (T := TX5) (N := 13) hx hb hts hinX5 hown hK.1 hP 0 rfl rfl 7 (by decide) (hts (.fieldLink RX5 22 "SaltSharesModel" "parts" "[I") (List.mem_of_getElem? (i := 1) rfl)) (fun _ h9 => h9) rfl dX5_takesDigit_132 ?_
          refine lv_iconst (v := 3) hx hb dX5_takesDigit_135 (by decide) ?_
          refine lv_aload_n hx hb dX5_takesDigit_136 rfl (lv_at hl 4 rfl) ?_
          refine va_get (D := D) (ci := 5) (v := .int (M 8 0)) (C := RX5) (T := TX5) (N := 13) hx hb hts hinX5 hown hK.1 hP 0 rfl rfl 8 (by decide) (hts (.fieldLink RX5 156 "SaltSharesModel" "read" "I") (List.mem_of_getElem? (i := 2) rfl)) (fun _ h9 => h9) rfl dX5_takesDigit_137 ?_
          have w_23 := znat z0
          have w_23b := w_23.2
          refine lv_is w_23.1 ?_
          refine lv_imul hx hb dX5_takesDigit_140 ?_
          refine lv_is (show (3 : Int32) * (nI (Int32.toNatClampNeg (M 8 0))) = (nI (3 * (Int32.toNatClampNeg (M 8 0)))) from pk_mul 3 (Int32.toNatClampNeg (M 8 0))) ?_
          refine lv_iconst (v := 2) hx hb dX5_takesDigit_141 (by decide) ?_
          refine lv_iadd hx hb dX5_takesDigit_142 ?_
          refine lv_is (show (nI (3 * (Int32.toNatClampNeg (M 8 0)))) + 2 = (nI (3 * (Int32.toNatClampNeg (M 8 0)) + 2)) from nI_add (3 * (Int32.toNatClampNeg (M 8 0))) 2) ?_
          refine lv_aload_n hx hb dX5_takesDigit_143 rfl (lv_at hl 4 rfl) ?_
          refine va_get (D := D) (ci := 5) (v := .int (M 9 0)) (C := RX5) (T := TX5) (N := 13) hx hb hts hinX5 hown hK.1 hP 0 rfl rfl 9 (by decide) (hts (.fieldLink RX5 159 "SaltSharesModel" "number" "I") (List.mem_of_getElem? (i := 4) rfl)) (fun _ h9 => h9) rfl dX5_takesDigit_144 ?_
          refine z_iast (i := 3 * (Int32.toNatClampNeg (M 8 0)) + 2) (x := (M 9 0)) hx hb hK hP hD hS 5 0 rfl rfl (by omega) (by decide) dX5_takesDigit_147 (fun H locs hP hD hS => ?_)
          have hP : va_P D vwCl (zB_X5 (g 0) u (zU (zU M 9 (fun _ => (M 9 0))) 7 (upd (M 7) (3 * (Int32.toNatClampNeg (M 8 0)) + 2) (M 9 0))) w) H := hP
          have hD : va_D (zA (zB_X5 (g 0) u M w)) (zB_X5 (g 0) u (zU (zU M 9 (fun _ => (M 9 0))) 7 (upd (M 7) (3 * (Int32.toNatClampNeg (M 8 0)) + 2) (M 9 0))) w) := hD
          refine lv_iload hx hb dX5_takesDigit_148 (lv_at hl 0 rfl) ?_
          exact zretw_z (q' := false) hx hb hr hlocks dX5_takesDigit_150 hP hS (congrArg (fun z9 => z9.1) hq) (congrArg (fun z9 => zB_X5 (g 0) u z9.2 w) hq)
        · have hq := hq.trans (zif_t c_21)
          refine lv_aload_n hx hb dX5_takesDigit_81 rfl (lv_at hl 3 rfl) ?_
          refine va_get (D := D) (ci := 5) (v := .int (M 9 0)) (C := RX5) (T := TX5) (N := 13) hx hb hts hinX5 hown hK.1 hP 0 rfl rfl 9 (by decide) (hts (.fieldLink RX5 159 "SaltSharesModel" "number" "I") (List.mem_of_getElem? (i := 4) rfl)) (fun _ h9 => h9) rfl dX5_takesDigit_82 ?_
          refine lv_if_eq (tgt := 110) hx hb dX5_takesDigit_85 (by decide) (fun c_24 => ?_) (fun c_24 => ?_)
          · have c_24 : (M 9 0) = 0 := c_24
            have hq := hq.trans (if_pos c_24)
            refine lv_iconst (v := 0) hx hb dX5_takesDigit_110 (by decide) ?_
            refine lv_is (show (0 : Int32) = bI false from rfl) ?_
            refine lv_istore (lv' := [(5, .int (bI false)), (4, .int dg), (3, .int 100), (2, .int (bI false)), (0, .ref (u 0)), (1, .int dg)]) hx hb dX5_takesDigit_111 hl (by decide) rfl (fun ls hl => ?_)
            refine lv_aload_n hx hb dX5_takesDigit_113 rfl (lv_at hl 4 rfl) ?_
            refine lv_iload hx hb dX5_takesDigit_114 (lv_at hl 0 rfl) ?_
            refine zif_eq (tgt := 124) hx hb dX5_takesDigit_116 (by decide) (fun c_25 => ?_) (fun c_25 => ?_)
            rotate_left
            · cases c_25
            refine lv_aload_n hx hb dX5_takesDigit_124 rfl (lv_at hl 4 rfl) ?_
            refine va_get (D := D) (ci := 5) (v := .int (M 9 0)) (C := RX5) (T := TX5) (N := 13) hx hb hts hinX5 hown hK.1 hP 0 rfl rfl 9 (by decide) (hts (.fieldLink RX5 159 "SaltSharesModel" "number" "I") (List.mem_of_getElem? (i := 4) rfl)) (fun _ h9 => h9) rfl dX5_takesDigit_125 ?_
            refine va_put (D := D) (ci := 5) (v := .int (M 9 0)) (ty := .int) (C := RX5) (T := TX5) (N := 13) hx hb hts hinX5 tyX5 tyX5_ok nmX5 hown hK.1 hP hD hS 0 rfl rfl 9 (by decide) (hts (.fieldLink RX5 159 "SaltSharesModel" "number" "I") (List.mem_of_getElem? (i := 4) rfl)) (fun _ h9 => h9) rfl (by decide +kernel) rfl rfl (Nat.le_of_ble_eq_true rfl) dX5_takesDigit_128 (fun H locs hP hD hS => ?_)
            have hP : va_P D vwCl (zB_X5 (g 0) u (zU M 9 (fun _ => (M 9 0))) w) H := hP
            have hD : va_D (zA (zB_X5 (g 0) u M w)) (zB_X5 (g 0) u (zU M 9 (fun _ => (M 9 0))) w) := hD
            refine lv_aload_n hx hb dX5_takesDigit_131 rfl (lv_at hl 4 rfl) ?_
            refine va_get (D := D) (ci := 5) (v := .ref (u 8)) (C := RX5) (T := TX5) (N := 13) hx hb hts hinX5 hown hK.1 hP 0 rfl rfl 7 (by decide) (hts (.fieldLink RX5 22 "SaltSharesModel" "parts" "[I") (List.mem_of_getElem? (i := 1) rfl)) (fun _ h9 => h9) rfl dX5_takesDigit_132 ?_
            refine lv_iconst (v := 3) hx hb dX5_takesDigit_135 (by decide) ?_
            refine lv_aload_n hx hb dX5_takesDigit_136 rfl (lv_at hl 4 rfl) ?_
            refine va_get (D := D) (ci := 5) (v := .int (M 8 0)) (C := RX5) (T := TX5) (N := 13) hx hb hts hinX5 hown hK.1 hP 0 rfl rfl 8 (by decide) (hts (.fieldLink RX5 156 "SaltSharesModel" "read" "I") (List.mem_of_getElem? (i := 2) rfl)) (fun _ h9 => h9) rfl dX5_takesDigit_137 ?_
            have w_26 := znat z0
            have w_26b := w_26.2
            refine lv_is w_26.1 ?_
            refine lv_imul hx hb dX5_takesDigit_140 ?_
            refine lv_is (show (3 : Int32) * (nI (Int32.toNatClampNeg (M 8 0))) = (nI (3 * (Int32.toNatClampNeg (M 8 0)))) from pk_mul 3 (Int32.toNatClampNeg (M 8 0))) ?_
            refine lv_iconst (v := 2) hx hb dX5_takesDigit_141 (by decide) ?_
            refine lv_iadd hx hb dX5_takesDigit_142 ?_
            refine lv_is (show (nI (3 * (Int32.toNatClampNeg (M 8 0)))) + 2 = (nI (3 * (Int32.toNatClampNeg (M 8 0)) + 2)) from nI_add (3 * (Int32.toNatClampNeg (M 8 0))) 2) ?_
            refine lv_aload_n hx hb dX5_takesDigit_143 rfl (lv_at hl 4 rfl) ?_
            refine va_get (D := D) (ci := 5) (v := .int (M 9 0)) (C := RX5) (T := TX5) (N := 13) hx hb hts hinX5 hown hK.1 hP 0 rfl rfl 9 (by decide) (hts (.fieldLink RX5 159 "SaltSharesModel" "number" "I") (List.mem_of_getElem? (i := 4) rfl)) (fun _ h9 => h9) rfl dX5_takesDigit_144 ?_
            refine z_iast (i := 3 * (Int32.toNatClampNeg (M 8 0)) + 2) (x := (M 9 0)) hx hb hK hP hD hS 5 0 rfl rfl (by omega) (by decide) dX5_takesDigit_147 (fun H locs hP hD hS => ?_)
            have hP : va_P D vwCl (zB_X5 (g 0) u (zU (zU M 9 (fun _ => (M 9 0))) 7 (upd (M 7) (3 * (Int32.toNatClampNeg (M 8 0)) + 2) (M 9 0))) w) H := hP
            have hD : va_D (zA (zB_X5 (g 0) u M w)) (zB_X5 (g 0) u (zU (zU M 9 (fun _ => (M 9 0))) 7 (upd (M 7) (3 * (Int32.toNatClampNeg (M 8 0)) + 2) (M 9 0))) w) := hD
            refine lv_iload hx hb dX5_takesDigit_148 (lv_at hl 0 rfl) ?_
            exact zretw_z (q' := false) hx hb hr hlocks dX5_takesDigit_150 hP hS (congrArg (fun z9 => z9.1) hq) (congrArg (fun z9 => zB_X5 (g 0) u z9.2 w) hq)
          · have c_24 : ¬ ((M 9 0) = 0) := c_24
            have hq := hq.trans (if_neg c_24)
            refine lv_iload hx hb dX5_takesDigit_88 (lv_at hl 0 rfl) ?_
            refine lv_iload_n hx hb dX5_takesDigit_90 rfl (lv_at hl 2 rfl) ?_
            refine zif_eq (tgt := 98) hx hb dX5_takesDigit_91 (by decide) (fun c_27 => ?_) (fun c_27 => ?_)
            rotate_left
            · cases c_27
            refine lv_iconst (v := 0) hx hb dX5_takesDigit_98 (by decide) ?_
            refine lv_iload_n hx hb dX5_takesDigit_99 rfl (lv_at hl 1 rfl) ?_
            refine zcSO (n := 3) (c_X5_within l D g dg 0 100) hx hb hml hown hts gX5_takesDigit_X5_within rfl ⟨by decide, by decide, by decide⟩ ⟨Nat.le_of_ble_eq_true rfl, Nat.le_of_ble_eq_true rfl⟩ ⟨rfl, rfl⟩ hK (hP.sub [] rfl) hl.1 rfl rfl (Nat.le_of_ble_eq_true rfl) ⟨Nat.zero_le _, Nat.zero_le _⟩ dX5_takesDigit_100 ?_
            refine zif_eq (tgt := 110) hx hb dX5_takesDigit_103 (by decide) (fun c_29 => ?_) (fun c_29 => ?_)
            · have hq := hq.trans (zif_f c_29)
              refine lv_iconst (v := 0) hx hb dX5_takesDigit_110 (by decide) ?_
              refine lv_is (show (0 : Int32) = bI false from rfl) ?_
              refine lv_istore (lv' := [(5, .int (bI false)), (4, .int dg), (3, .int 100), (2, .int (bI false)), (0, .ref (u 0)), (1, .int dg)]) hx hb dX5_takesDigit_111 hl (by decide) rfl (fun ls hl => ?_)
              refine lv_aload_n hx hb dX5_takesDigit_113 rfl (lv_at hl 4 rfl) ?_
              refine lv_iload hx hb dX5_takesDigit_114 (lv_at hl 0 rfl) ?_
              refine zif_eq (tgt := 124) hx hb dX5_takesDigit_116 (by decide) (fun c_30 => ?_) (fun c_30 => ?_)
              rotate_left
              · cases c_30
              refine lv_aload_n hx hb dX5_takesDigit_124 rfl (lv_at hl 4 rfl) ?_
              refine va_get (D := D) (ci := 5) (v := .int (M 9 0)) (C := RX5) (T := TX5) (N := 13) hx hb hts hinX5 hown hK.1 hP 0 rfl rfl 9 (by decide) (hts (.fieldLink RX5 159 "SaltSharesModel" "number" "I") (List.mem_of_getElem? (i := 4) rfl)) (fun _ h9 => h9) rfl dX5_takesDigit_125 ?_
              refine va_put (D := D) (ci := 5) (v := .int (M 9 0)) (ty := .int) (C := RX5) (T := TX5) (N := 13) hx hb hts hinX5 tyX5 tyX5_ok nmX5 hown hK.1 hP hD hS 0 rfl rfl 9 (by decide) (hts (.fieldLink RX5 159 "SaltSharesModel" "number" "I") (List.mem_of_getElem? (i := 4) rfl)) (fun _ h9 => h9) rfl (by decide +kernel) rfl rfl (Nat.le_of_ble_eq_true rfl) dX5_takesDigit_128 (fun H locs hP hD hS => ?_)
              have hP : va_P D vwCl (zB_X5 (g 0) u (zU M 9 (fun _ => (M 9 0))) w) H := hP
              have hD : va_D (zA (zB_X5 (g 0) u M w)) (zB_X5 (g 0) u (zU M 9 (fun _ => (M 9 0))) w) := hD
              refine lv_aload_n hx hb dX5_takesDigit_131 rfl (lv_at hl 4 rfl) ?_
              refine va_get (D := D) (ci := 5) (v := .ref (u 8)) (C := RX5) (T := TX5) (N := 13) hx hb hts hinX5 hown hK.1 hP 0 rfl rfl 7 (by decide) (hts (.fieldLink RX5 22 "SaltSharesModel" "parts" "[I") (List.mem_of_getElem? (i := 1) rfl)) (fun _ h9 => h9) rfl dX5_takesDigit_132 ?_
              refine lv_iconst (v := 3) hx hb dX5_takesDigit_135 (by decide) ?_
              refine lv_aload_n hx hb dX5_takesDigit_136 rfl (lv_at hl 4 rfl) ?_
              refine va_get (D := D) (ci := 5) (v := .int (M 8 0)) (C := RX5) (T := TX5) (N := 13) hx hb hts hinX5 hown hK.1 hP 0 rfl rfl 8 (by decide) (hts (.fieldLink RX5 156 "SaltSharesModel" "read" "I") (List.mem_of_getElem? (i := 2) rfl)) (fun _ h9 => h9) rfl dX5_takesDigit_137 ?_
              have w_31 := znat z0
              have w_31b := w_31.2
              refine lv_is w_31.1 ?_
              refine lv_imul hx hb dX5_takesDigit_140 ?_
              refine lv_is (show (3 : Int32) * (nI (Int32.toNatClampNeg (M 8 0))) = (nI (3 * (Int32.toNatClampNeg (M 8 0)))) from pk_mul 3 (Int32.toNatClampNeg (M 8 0))) ?_
              refine lv_iconst (v := 2) hx hb dX5_takesDigit_141 (by decide) ?_
              refine lv_iadd hx hb dX5_takesDigit_142 ?_
              refine lv_is (show (nI (3 * (Int32.toNatClampNeg (M 8 0)))) + 2 = (nI (3 * (Int32.toNatClampNeg (M 8 0)) + 2)) from nI_add (3 * (Int32.toNatClampNeg (M 8 0))) 2) ?_
              refine lv_aload_n hx hb dX5_takesDigit_143 rfl (lv_at hl 4 rfl) ?_
              refine va_get (D := D) (ci := 5) (v := .int (M 9 0)) (C := RX5) (T := TX5) (N := 13) hx hb hts hinX5 hown hK.1 hP 0 rfl rfl 9 (by decide) (hts (.fieldLink RX5 159 "SaltSharesModel" "number" "I") (List.mem_of_getElem? (i := 4) rfl)) (fun _ h9 => h9) rfl dX5_takesDigit_144 ?_
              refine z_iast (i := 3 * (Int32.toNatClampNeg (M 8 0)) + 2) (x := (M 9 0)) hx hb hK hP hD hS 5 0 rfl rfl (by omega) (by decide) dX5_takesDigit_147 (fun H locs hP hD hS => ?_)
              have hP : va_P D vwCl (zB_X5 (g 0) u (zU (zU M 9 (fun _ => (M 9 0))) 7 (upd (M 7) (3 * (Int32.toNatClampNeg (M 8 0)) + 2) (M 9 0))) w) H := hP
              have hD : va_D (zA (zB_X5 (g 0) u M w)) (zB_X5 (g 0) u (zU (zU M 9 (fun _ => (M 9 0))) 7 (upd (M 7) (3 * (Int32.toNatClampNeg (M 8 0)) + 2) (M 9 0))) w) := hD
              refine lv_iload hx hb dX5_takesDigit_148 (lv_at hl 0 rfl) ?_
              exact zretw_z (q' := false) hx hb hr hlocks dX5_takesDigit_150 hP hS (congrArg (fun z9 => z9.1) hq) (congrArg (fun z9 => zB_X5 (g 0) u z9.2 w) hq)
            · have hq := hq.trans (zif_t c_29)
              refine lv_iconst (v := 1) hx hb dX5_takesDigit_106 (by decide) ?_
              refine lv_goto (tgt := 111) hx hb dX5_takesDigit_107 (by decide) ?_
              refine lv_is (show (1 : Int32) = bI true from rfl) ?_
              refine lv_istore (lv' := [(5, .int (bI true)), (4, .int dg), (3, .int 100), (2, .int (bI false)), (0, .ref (u 0)), (1, .int dg)]) hx hb dX5_takesDigit_111 hl (by decide) rfl (fun ls hl => ?_)
              refine lv_aload_n hx hb dX5_takesDigit_113 rfl (lv_at hl 4 rfl) ?_
              refine lv_iload hx hb dX5_takesDigit_114 (lv_at hl 0 rfl) ?_
              refine zif_eq (tgt := 124) hx hb dX5_takesDigit_116 (by decide) (fun c_32 => ?_) (fun c_32 => ?_)
              · cases c_32
              refine lv_iload hx hb dX5_takesDigit_119 (lv_at hl 1 rfl) ?_
              refine lv_goto (tgt := 128) hx hb dX5_takesDigit_121 (by decide) ?_
              refine va_put (D := D) (ci := 5) (v := .int dg) (ty := .int) (C := RX5) (T := TX5) (N := 13) hx hb hts hinX5 tyX5 tyX5_ok nmX5 hown hK.1 hP hD hS 0 rfl rfl 9 (by decide) (hts (.fieldLink RX5 159 "SaltSharesModel" "number" "I") (List.mem_of_getElem? (i := 4) rfl)) (fun _ h9 => h9) rfl (by decide +kernel) rfl rfl (Nat.le_of_ble_eq_true rfl) dX5_takesDigit_128 (fun H locs hP hD hS => ?_)
              have hP : va_P D vwCl (zB_X5 (g 0) u (zU M 9 (fun _ => dg)) w) H := hP
              have hD : va_D (zA (zB_X5 (g 0) u M w)) (zB_X5 (g 0) u (zU M 9 (fun _ => dg)) w) := hD
              refine lv_aload_n hx hb dX5_takesDigit_131 rfl (lv_at hl 4 rfl) ?_
              refine va_get (D := D) (ci := 5) (v := .ref (u 8)) (C := RX5) (T := TX5) (N := 13) hx hb hts hinX5 hown hK.1 hP 0 rfl rfl 7 (by decide) (hts (.fieldLink RX5 22 "SaltSharesModel" "parts" "[I") (List.mem_of_getElem? (i := 1) rfl)) (fun _ h9 => h9) rfl dX5_takesDigit_132 ?_
              refine lv_iconst (v := 3) hx hb dX5_takesDigit_135 (by decide) ?_
              refine lv_aload_n hx hb dX5_takesDigit_136 rfl (lv_at hl 4 rfl) ?_
              refine va_get (D := D) (ci := 5) (v := .int (M 8 0)) (C := RX5) (T := TX5) (N := 13) hx hb hts hinX5 hown hK.1 hP 0 rfl rfl 8 (by decide) (hts (.fieldLink RX5 156 "SaltSharesModel" "read" "I") (List.mem_of_getElem? (i := 2) rfl)) (fun _ h9 => h9) rfl dX5_takesDigit_137 ?_
              have w_33 := znat z0
              have w_33b := w_33.2
              refine lv_is w_33.1 ?_
              refine lv_imul hx hb dX5_takesDigit_140 ?_
              refine lv_is (show (3 : Int32) * (nI (Int32.toNatClampNeg (M 8 0))) = (nI (3 * (Int32.toNatClampNeg (M 8 0)))) from pk_mul 3 (Int32.toNatClampNeg (M 8 0))) ?_
              refine lv_iconst (v := 2) hx hb dX5_takesDigit_141 (by decide) ?_
              refine lv_iadd hx hb dX5_takesDigit_142 ?_
              refine lv_is (show (nI (3 * (Int32.toNatClampNeg (M 8 0)))) + 2 = (nI (3 * (Int32.toNatClampNeg (M 8 0)) + 2)) from nI_add (3 * (Int32.toNatClampNeg (M 8 0))) 2) ?_
              refine lv_aload_n hx hb dX5_takesDigit_143 rfl (lv_at hl 4 rfl) ?_
              refine va_get (D := D) (ci := 5) (v := .int dg) (C := RX5) (T := TX5) (N := 13) hx hb hts hinX5 hown hK.1 hP 0 rfl rfl 9 (by decide) (hts (.fieldLink RX5 159 "SaltSharesModel" "number" "I") (List.mem_of_getElem? (i := 4) rfl)) (fun _ h9 => h9) rfl dX5_takesDigit_144 ?_
              refine z_iast (i := 3 * (Int32.toNatClampNeg (M 8 0)) + 2) (x := dg) hx hb hK hP hD hS 5 0 rfl rfl (by omega) (by decide) dX5_takesDigit_147 (fun H locs hP hD hS => ?_)
              have hP : va_P D vwCl (zB_X5 (g 0) u (zU (zU M 9 (fun _ => dg)) 7 (upd (M 7) (3 * (Int32.toNatClampNeg (M 8 0)) + 2) dg)) w) H := hP
              have hD : va_D (zA (zB_X5 (g 0) u M w)) (zB_X5 (g 0) u (zU (zU M 9 (fun _ => dg)) 7 (upd (M 7) (3 * (Int32.toNatClampNeg (M 8 0)) + 2) dg)) w) := hD
              refine lv_iload hx hb dX5_takesDigit_148 (lv_at hl 0 rfl) ?_
              exact zretw_z (q' := true) hx hb hr hlocks dX5_takesDigit_150 hP hS (congrArg (fun z9 => z9.1) hq) (congrArg (fun z9 => zB_X5 (g 0) u z9.2 w) hq)
    · have c_3 : (M 10 0) = 4 := c_3
      have hq := hq.trans (if_pos c_3)
      refine lv_sipush (v := 149) hx hb dX5_takesDigit_30 (by decide) ?_
      refine lv_goto (tgt := 47) hx hb dX5_takesDigit_33 (by decide) ?_
      refine lv_istore_n (lv' := [(3, .int 149), (2, .int (bI false)), (0, .ref (u 0)), (1, .int dg)]) hx hb dX5_takesDigit_47 rfl hl (by decide) rfl (fun ls hl => ?_)
      refine lv_aload_n hx hb dX5_takesDigit_48 rfl (lv_at hl 2 rfl) ?_
      refine va_get (D := D) (ci := 5) (v := .int (M 9 0)) (C := RX5) (T := TX5) (N := 13) hx hb hts hinX5 hown hK.1 hP 0 rfl rfl 9 (by decide) (hts (.fieldLink RX5 159 "SaltSharesModel" "number" "I") (List.mem_of_getElem? (i := 4) rfl)) (fun _ h9 => h9) rfl dX5_takesDigit_49 ?_
      refine lv_iconst (v := (-1)) hx hb dX5_takesDigit_52 (by decide) ?_
      refine lv_icmp_ne (tgt := 60) hx hb dX5_takesDigit_53 (by decide) (fun c_34 => ?_) (fun c_34 => ?_)
      · have c_34 : ¬ ((M 9 0) = (-1)) := c_34
        have hq := hq.trans (if_neg c_34)
        refine lv_bipush (v := 10) hx hb dX5_takesDigit_60 (by decide) ?_
        refine lv_aload_n hx hb dX5_takesDigit_62 rfl (lv_at hl 2 rfl) ?_
        refine va_get (D := D) (ci := 5) (v := .int (M 9 0)) (C := RX5) (T := TX5) (N := 13) hx hb hts hinX5 hown hK.1 hP 0 rfl rfl 9 (by decide) (hts (.fieldLink RX5 159 "SaltSharesModel" "number" "I") (List.mem_of_getElem? (i := 4) rfl)) (fun _ h9 => h9) rfl dX5_takesDigit_63 ?_
        refine lv_imul hx hb dX5_takesDigit_66 ?_
        refine lv_iload_n hx hb dX5_takesDigit_67 rfl (lv_at hl 3 rfl) ?_
        refine lv_iadd hx hb dX5_takesDigit_68 ?_
        refine lv_istore (lv' := [(4, .int (((10 : Int32) * (M 9 0)) + dg)), (3, .int 149), (2, .int (bI false)), (0, .ref (u 0)), (1, .int dg)]) hx hb dX5_takesDigit_69 hl (by decide) rfl (fun ls hl => ?_)
        refine lv_iload_n hx hb dX5_takesDigit_71 rfl (lv_at hl 4 rfl) ?_
        refine lv_iconst (v := 0) hx hb dX5_takesDigit_72 (by decide) ?_
        refine lv_bipush (v := 9) hx hb dX5_takesDigit_73 (by decide) ?_
        refine zcSO (n := 3) (c_X5_within l D g dg 0 9) hx hb hml hown hts gX5_takesDigit_X5_within rfl ⟨by decide, by decide, by decide⟩ ⟨Nat.le_of_ble_eq_true rfl, Nat.le_of_ble_eq_true rfl⟩ ⟨rfl, rfl⟩ hK (hP.sub [] rfl) hl.1 rfl rfl (Nat.le_of_ble_eq_true rfl) ⟨Nat.zero_le _, Nat.zero_le _⟩ dX5_takesDigit_75 ?_
        refine zif_eq (tgt := 110) hx hb dX5_takesDigit_78 (by decide) (fun c_36 => ?_) (fun c_36 => ?_)
        · have hq := hq.trans (zif_f c_36)
          refine lv_iconst (v := 0) hx hb dX5_takesDigit_110 (by decide) ?_
          refine lv_is (show (0 : Int32) = bI false from rfl) ?_
          refine lv_istore (lv' := [(5, .int (bI false)), (4, .int (((10 : Int32) * (M 9 0)) + dg)), (3, .int 149), (2, .int (bI false)), (0, .ref (u 0)), (1, .int dg)]) hx hb dX5_takesDigit_111 hl (by decide) rfl (fun ls hl => ?_)
          refine lv_aload_n hx hb dX5_takesDigit_113 rfl (lv_at hl 4 rfl) ?_
          refine lv_iload hx hb dX5_takesDigit_114 (lv_at hl 0 rfl) ?_
          refine zif_eq (tgt := 124) hx hb dX5_takesDigit_116 (by decide) (fun c_37 => ?_) (fun c_37 => ?_)
          rotate_left
          · cases c_37
          refine lv_aload_n hx hb dX5_takesDigit_124 rfl (lv_at hl 4 rfl) ?_
          refine va_get (D := D) (ci := 5) (v := .int (M 9 0)) (C := RX5) (T := TX5) (N := 13) hx hb hts hinX5 hown hK.1 hP 0 rfl rfl 9 (by decide) (hts (.fieldLink RX5 159 "SaltSharesModel" "number" "I") (List.mem_of_getElem? (i := 4) rfl)) (fun _ h9 => h9) rfl dX5_takesDigit_125 ?_
          refine va_put (D := D) (ci := 5) (v := .int (M 9 0)) (ty := .int) (C := RX5) (T := TX5) (N := 13) hx hb hts hinX5 tyX5 tyX5_ok nmX5 hown hK.1 hP hD hS 0 rfl rfl 9 (by decide) (hts (.fieldLink RX5 159 "SaltSharesModel" "number" "I") (List.mem_of_getElem? (i := 4) rfl)) (fun _ h9 => h9) rfl (by decide +kernel) rfl rfl (Nat.le_of_ble_eq_true rfl) dX5_takesDigit_128 (fun H locs hP hD hS => ?_)
          have hP : va_P D vwCl (zB_X5 (g 0) u (zU M 9 (fun _ => (M 9 0))) w) H := hP
          have hD : va_D (zA (zB_X5 (g 0) u M w)) (zB_X5 (g 0) u (zU M 9 (fun _ => (M 9 0))) w) := hD
          refine lv_aload_n hx hb dX5_takesDigit_131 rfl (lv_at hl 4 rfl) ?_
          refine va_get (D := D) (ci := 5) (v := .ref (u 8)) (C := RX5) (T := TX5) (N := 13) hx hb hts hinX5 hown hK.1 hP 0 rfl rfl 7 (by decide) (hts (.fieldLink RX5 22 "SaltSharesModel" "parts" "[I") (List.mem_of_getElem? (i := 1) rfl)) (fun _ h9 => h9) rfl dX5_takesDigit_132 ?_
          refine lv_iconst (v := 3) hx hb dX5_takesDigit_135 (by decide) ?_
          refine lv_aload_n hx hb dX5_takesDigit_136 rfl (lv_at hl 4 rfl) ?_
          refine va_get (D := D) (ci := 5) (v := .int (M 8 0)) (C := RX5) (T := TX5) (N := 13) hx hb hts hinX5 hown hK.1 hP 0 rfl rfl 8 (by decide) (hts (.fieldLink RX5 156 "SaltSharesModel" "read" "I") (List.mem_of_getElem? (i := 2) rfl)) (fun _ h9 => h9) rfl dX5_takesDigit_137 ?_
          have w_38 := znat z0
          have w_38b := w_38.2
          refine lv_is w_38.1 ?_
          refine lv_imul hx hb dX5_takesDigit_140 ?_
          refine lv_is (show (3 : Int32) * (nI (Int32.toNatClampNeg (M 8 0))) = (nI (3 * (Int32.toNatClampNeg (M 8 0)))) from pk_mul 3 (Int32.toNatClampNeg (M 8 0))) ?_
          refine lv_iconst (v := 2) hx hb dX5_takesDigit_141 (by decide) ?_
          refine lv_iadd hx hb dX5_takesDigit_142 ?_
          refine lv_is (show (nI (3 * (Int32.toNatClampNeg (M 8 0)))) + 2 = (nI (3 * (Int32.toNatClampNeg (M 8 0)) + 2)) from nI_add (3 * (Int32.toNatClampNeg (M 8 0))) 2) ?_
          refine lv_aload_n hx hb dX5_takesDigit_143 rfl (lv_at hl 4 rfl) ?_
          refine va_get (D := D) (ci := 5) (v := .int (M 9 0)) (C := RX5) (T := TX5) (N := 13) hx hb hts hinX5 hown hK.1 hP 0 rfl rfl 9 (by decide) (hts (.fieldLink RX5 159 "SaltSharesModel" "number" "I") (List.mem_of_getElem? (i := 4) rfl)) (fun _ h9 => h9) rfl dX5_takesDigit_144 ?_
          refine z_iast (i := 3 * (Int32.toNatClampNeg (M 8 0)) + 2) (x := (M 9 0)) hx hb hK hP hD hS 5 0 rfl rfl (by omega) (by decide) dX5_takesDigit_147 (fun H locs hP hD hS => ?_)
          have hP : va_P D vwCl (zB_X5 (g 0) u (zU (zU M 9 (fun _ => (M 9 0))) 7 (upd (M 7) (3 * (Int32.toNatClampNeg (M 8 0)) + 2) (M 9 0))) w) H := hP
          have hD : va_D (zA (zB_X5 (g 0) u M w)) (zB_X5 (g 0) u (zU (zU M 9 (fun _ => (M 9 0))) 7 (upd (M 7) (3 * (Int32.toNatClampNeg (M 8 0)) + 2) (M 9 0))) w) := hD
          refine lv_iload hx hb dX5_takesDigit_148 (lv_at hl 0 rfl) ?_
          exact zretw_z (q' := false) hx hb hr hlocks dX5_takesDigit_150 hP hS (congrArg (fun z9 => z9.1) hq) (congrArg (fun z9 => zB_X5 (g 0) u z9.2 w) hq)
        · have hq := hq.trans (zif_t c_36)
          refine lv_aload_n hx hb dX5_takesDigit_81 rfl (lv_at hl 3 rfl) ?_
          refine va_get (D := D) (ci := 5) (v := .int (M 9 0)) (C := RX5) (T := TX5) (N := 13) hx hb hts hinX5 hown hK.1 hP 0 rfl rfl 9 (by decide) (hts (.fieldLink RX5 159 "SaltSharesModel" "number" "I") (List.mem_of_getElem? (i := 4) rfl)) (fun _ h9 => h9) rfl dX5_takesDigit_82 ?_
          refine lv_if_eq (tgt := 110) hx hb dX5_takesDigit_85 (by decide) (fun c_39 => ?_) (fun c_39 => ?_)
          · have c_39 : (M 9 0) = 0 := c_39
            have hq := hq.trans (if_pos c_39)
            refine lv_iconst (v := 0) hx hb dX5_takesDigit_110 (by decide) ?_
            refine lv_is (show (0 : Int32) = bI false from rfl) ?_
            refine lv_istore (lv' := [(5, .int (bI false)), (4, .int (((10 : Int32) * (M 9 0)) + dg)), (3, .int 149), (2, .int (bI false)), (0, .ref (u 0)), (1, .int dg)]) hx hb dX5_takesDigit_111 hl (by decide) rfl (fun ls hl => ?_)
            refine lv_aload_n hx hb dX5_takesDigit_113 rfl (lv_at hl 4 rfl) ?_
            refine lv_iload hx hb dX5_takesDigit_114 (lv_at hl 0 rfl) ?_
            refine zif_eq (tgt := 124) hx hb dX5_takesDigit_116 (by decide) (fun c_40 => ?_) (fun c_40 => ?_)
            rotate_left
            · cases c_40
            refine lv_aload_n hx hb dX5_takesDigit_124 rfl (lv_at hl 4 rfl) ?_
            refine va_get (D := D) (ci := 5) (v := .int (M 9 0)) (C := RX5) (T := TX5) (N := 13) hx hb hts hinX5 hown hK.1 hP 0 rfl rfl 9 (by decide) (hts (.fieldLink RX5 159 "SaltSharesModel" "number" "I") (List.mem_of_getElem? (i := 4) rfl)) (fun _ h9 => h9) rfl dX5_takesDigit_125 ?_
            refine va_put (D := D) (ci := 5) (v := .int (M 9 0)) (ty := .int) (C := RX5) (T := TX5) (N := 13) hx hb hts hinX5 tyX5 tyX5_ok nmX5 hown hK.1 hP hD hS 0 rfl rfl 9 (by decide) (hts (.fieldLink RX5 159 "SaltSharesModel" "number" "I") (List.mem_of_getElem? (i := 4) rfl)) (fun _ h9 => h9) rfl (by decide +kernel) rfl rfl (Nat.le_of_ble_eq_true rfl) dX5_takesDigit_128 (fun H locs hP hD hS => ?_)
            have hP : va_P D vwCl (zB_X5 (g 0) u (zU M 9 (fun _ => (M 9 0))) w) H := hP
            have hD : va_D (zA (zB_X5 (g 0) u M w)) (zB_X5 (g 0) u (zU M 9 (fun _ => (M 9 0))) w) := hD
            refine lv_aload_n hx hb dX5_takesDigit_131 rfl (lv_at hl 4 rfl) ?_
            refine va_get (D := D) (ci := 5) (v := .ref (u 8)) (C := RX5) (T := TX5) (N := 13) hx hb hts hinX5 hown hK.1 hP 0 rfl rfl 7 (by decide) (hts (.fieldLink RX5 22 "SaltSharesModel" "parts" "[I") (List.mem_of_getElem? (i := 1) rfl)) (fun _ h9 => h9) rfl dX5_takesDigit_132 ?_
            refine lv_iconst (v := 3) hx hb dX5_takesDigit_135 (by decide) ?_
            refine lv_aload_n hx hb dX5_takesDigit_136 rfl (lv_at hl 4 rfl) ?_
            refine va_get (D := D) (ci := 5) (v := .int (M 8 0)) (C := RX5) (T := TX5) (N := 13) hx hb hts hinX5 hown hK.1 hP 0 rfl rfl 8 (by decide) (hts (.fieldLink RX5 156 "SaltSharesModel" "read" "I") (List.mem_of_getElem? (i := 2) rfl)) (fun _ h9 => h9) rfl dX5_takesDigit_137 ?_
            have w_41 := znat z0
            have w_41b := w_41.2
            refine lv_is w_41.1 ?_
            refine lv_imul hx hb dX5_takesDigit_140 ?_
            refine lv_is (show (3 : Int32) * (nI (Int32.toNatClampNeg (M 8 0))) = (nI (3 * (Int32.toNatClampNeg (M 8 0)))) from pk_mul 3 (Int32.toNatClampNeg (M 8 0))) ?_
            refine lv_iconst (v := 2) hx hb dX5_takesDigit_141 (by decide) ?_
            refine lv_iadd hx hb dX5_takesDigit_142 ?_
            refine lv_is (show (nI (3 * (Int32.toNatClampNeg (M 8 0)))) + 2 = (nI (3 * (Int32.toNatClampNeg (M 8 0)) + 2)) from nI_add (3 * (Int32.toNatClampNeg (M 8 0))) 2) ?_
            refine lv_aload_n hx hb dX5_takesDigit_143 rfl (lv_at hl 4 rfl) ?_
            refine va_get (D := D) (ci := 5) (v := .int (M 9 0)) (C := RX5) (T := TX5) (N := 13) hx hb hts hinX5 hown hK.1 hP 0 rfl rfl 9 (by decide) (hts (.fieldLink RX5 159 "SaltSharesModel" "number" "I") (List.mem_of_getElem? (i := 4) rfl)) (fun _ h9 => h9) rfl dX5_takesDigit_144 ?_
            refine z_iast (i := 3 * (Int32.toNatClampNeg (M 8 0)) + 2) (x := (M 9 0)) hx hb hK hP hD hS 5 0 rfl rfl (by omega) (by decide) dX5_takesDigit_147 (fun H locs hP hD hS => ?_)
            have hP : va_P D vwCl (zB_X5 (g 0) u (zU (zU M 9 (fun _ => (M 9 0))) 7 (upd (M 7) (3 * (Int32.toNatClampNeg (M 8 0)) + 2) (M 9 0))) w) H := hP
            have hD : va_D (zA (zB_X5 (g 0) u M w)) (zB_X5 (g 0) u (zU (zU M 9 (fun _ => (M 9 0))) 7 (upd (M 7) (3 * (Int32.toNatClampNeg (M 8 0)) + 2) (M 9 0))) w) := hD
            refine lv_iload hx hb dX5_takesDigit_148 (lv_at hl 0 rfl) ?_
            exact zretw_z (q' := false) hx hb hr hlocks dX5_takesDigit_150 hP hS (congrArg (fun z9 => z9.1) hq) (congrArg (fun z9 => zB_X5 (g 0) u z9.2 w) hq)
          · have c_39 : ¬ ((M 9 0) = 0) := c_39
            have hq := hq.trans (if_neg c_39)
            refine lv_iload hx hb dX5_takesDigit_88 (lv_at hl 0 rfl) ?_
            refine lv_iload_n hx hb dX5_takesDigit_90 rfl (lv_at hl 2 rfl) ?_
            refine zif_eq (tgt := 98) hx hb dX5_takesDigit_91 (by decide) (fun c_42 => ?_) (fun c_42 => ?_)
            rotate_left
            · cases c_42
            refine lv_iconst (v := 0) hx hb dX5_takesDigit_98 (by decide) ?_
            refine lv_iload_n hx hb dX5_takesDigit_99 rfl (lv_at hl 1 rfl) ?_
            refine zcSO (n := 3) (c_X5_within l D g (((10 : Int32) * (M 9 0)) + dg) 0 149) hx hb hml hown hts gX5_takesDigit_X5_within rfl ⟨by decide, by decide, by decide⟩ ⟨Nat.le_of_ble_eq_true rfl, Nat.le_of_ble_eq_true rfl⟩ ⟨rfl, rfl⟩ hK (hP.sub [] rfl) hl.1 rfl rfl (Nat.le_of_ble_eq_true rfl) ⟨Nat.zero_le _, Nat.zero_le _⟩ dX5_takesDigit_100 ?_
            refine zif_eq (tgt := 110) hx hb dX5_takesDigit_103 (by decide) (fun c_44 => ?_) (fun c_44 => ?_)
            · have hq := hq.trans (zif_f c_44)
              refine lv_iconst (v := 0) hx hb dX5_takesDigit_110 (by decide) ?_
              refine lv_is (show (0 : Int32) = bI false from rfl) ?_
              refine lv_istore (lv' := [(5, .int (bI false)), (4, .int (((10 : Int32) * (M 9 0)) + dg)), (3, .int 149), (2, .int (bI false)), (0, .ref (u 0)), (1, .int dg)]) hx hb dX5_takesDigit_111 hl (by decide) rfl (fun ls hl => ?_)
              refine lv_aload_n hx hb dX5_takesDigit_113 rfl (lv_at hl 4 rfl) ?_
              refine lv_iload hx hb dX5_takesDigit_114 (lv_at hl 0 rfl) ?_
              refine zif_eq (tgt := 124) hx hb dX5_takesDigit_116 (by decide) (fun c_45 => ?_) (fun c_45 => ?_)
              rotate_left
              · cases c_45
              refine lv_aload_n hx hb dX5_takesDigit_124 rfl (lv_at hl 4 rfl) ?_
              refine va_get (D := D) (ci := 5) (v := .int (M 9 0)) (C := RX5) (T := TX5) (N := 13) hx hb hts hinX5 hown hK.1 hP 0 rfl rfl 9 (by decide) (hts (.fieldLink RX5 159 "SaltSharesModel" "number" "I") (List.mem_of_getElem? (i := 4) rfl)) (fun _ h9 => h9) rfl dX5_takesDigit_125 ?_
              refine va_put (D := D) (ci := 5) (v := .int (M 9 0)) (ty := .int) (C := RX5) (T := TX5) (N := 13) hx hb hts hinX5 tyX5 tyX5_ok nmX5 hown hK.1 hP hD hS 0 rfl rfl 9 (by decide) (hts (.fieldLink RX5 159 "SaltSharesModel" "number" "I") (List.mem_of_getElem? (i := 4) rfl)) (fun _ h9 => h9) rfl (by decide +kernel) rfl rfl (Nat.le_of_ble_eq_true rfl) dX5_takesDigit_128 (fun H locs hP hD hS => ?_)
              have hP : va_P D vwCl (zB_X5 (g 0) u (zU M 9 (fun _ => (M 9 0))) w) H := hP
              have hD : va_D (zA (zB_X5 (g 0) u M w)) (zB_X5 (g 0) u (zU M 9 (fun _ => (M 9 0))) w) := hD
              refine lv_aload_n hx hb dX5_takesDigit_131 rfl (lv_at hl 4 rfl) ?_
              refine va_get (D := D) (ci := 5) (v := .ref (u 8)) (C := RX5) (T := TX5) (N := 13) hx hb hts hinX5 hown hK.1 hP 0 rfl rfl 7 (by decide) (hts (.fieldLink RX5 22 "SaltSharesModel" "parts" "[I") (List.mem_of_getElem? (i := 1) rfl)) (fun _ h9 => h9) rfl dX5_takesDigit_132 ?_
              refine lv_iconst (v := 3) hx hb dX5_takesDigit_135 (by decide) ?_
              refine lv_aload_n hx hb dX5_takesDigit_136 rfl (lv_at hl 4 rfl) ?_
              refine va_get (D := D) (ci := 5) (v := .int (M 8 0)) (C := RX5) (T := TX5) (N := 13) hx hb hts hinX5 hown hK.1 hP 0 rfl rfl 8 (by decide) (hts (.fieldLink RX5 156 "SaltSharesModel" "read" "I") (List.mem_of_getElem? (i := 2) rfl)) (fun _ h9 => h9) rfl dX5_takesDigit_137 ?_
              have w_46 := znat z0
              have w_46b := w_46.2
              refine lv_is w_46.1 ?_
              refine lv_imul hx hb dX5_takesDigit_140 ?_
              refine lv_is (show (3 : Int32) * (nI (Int32.toNatClampNeg (M 8 0))) = (nI (3 * (Int32.toNatClampNeg (M 8 0)))) from pk_mul 3 (Int32.toNatClampNeg (M 8 0))) ?_
              refine lv_iconst (v := 2) hx hb dX5_takesDigit_141 (by decide) ?_
              refine lv_iadd hx hb dX5_takesDigit_142 ?_
              refine lv_is (show (nI (3 * (Int32.toNatClampNeg (M 8 0)))) + 2 = (nI (3 * (Int32.toNatClampNeg (M 8 0)) + 2)) from nI_add (3 * (Int32.toNatClampNeg (M 8 0))) 2) ?_
              refine lv_aload_n hx hb dX5_takesDigit_143 rfl (lv_at hl 4 rfl) ?_
              refine va_get (D := D) (ci := 5) (v := .int (M 9 0)) (C := RX5) (T := TX5) (N := 13) hx hb hts hinX5 hown hK.1 hP 0 rfl rfl 9 (by decide) (hts (.fieldLink RX5 159 "SaltSharesModel" "number" "I") (List.mem_of_getElem? (i := 4) rfl)) (fun _ h9 => h9) rfl dX5_takesDigit_144 ?_
              refine z_iast (i := 3 * (Int32.toNatClampNeg (M 8 0)) + 2) (x := (M 9 0)) hx hb hK hP hD hS 5 0 rfl rfl (by omega) (by decide) dX5_takesDigit_147 (fun H locs hP hD hS => ?_)
              have hP : va_P D vwCl (zB_X5 (g 0) u (zU (zU M 9 (fun _ => (M 9 0))) 7 (upd (M 7) (3 * (Int32.toNatClampNeg (M 8 0)) + 2) (M 9 0))) w) H := hP
              have hD : va_D (zA (zB_X5 (g 0) u M w)) (zB_X5 (g 0) u (zU (zU M 9 (fun _ => (M 9 0))) 7 (upd (M 7) (3 * (Int32.toNatClampNeg (M 8 0)) + 2) (M 9 0))) w) := hD
              refine lv_iload hx hb dX5_takesDigit_148 (lv_at hl 0 rfl) ?_
              exact zretw_z (q' := false) hx hb hr hlocks dX5_takesDigit_150 hP hS (congrArg (fun z9 => z9.1) hq) (congrArg (fun z9 => zB_X5 (g 0) u z9.2 w) hq)
            · have hq := hq.trans (zif_t c_44)
              refine lv_iconst (v := 1) hx hb dX5_takesDigit_106 (by decide) ?_
              refine lv_goto (tgt := 111) hx hb dX5_takesDigit_107 (by decide) ?_
              refine lv_is (show (1 : Int32) = bI true from rfl) ?_
              refine lv_istore (lv' := [(5, .int (bI true)), (4, .int (((10 : Int32) * (M 9 0)) + dg)), (3, .int 149), (2, .int (bI false)), (0, .ref (u 0)), (1, .int dg)]) hx hb dX5_takesDigit_111 hl (by decide) rfl (fun ls hl => ?_)
              refine lv_aload_n hx hb dX5_takesDigit_113 rfl (lv_at hl 4 rfl) ?_
              refine lv_iload hx hb dX5_takesDigit_114 (lv_at hl 0 rfl) ?_
              refine zif_eq (tgt := 124) hx hb dX5_takesDigit_116 (by decide) (fun c_47 => ?_) (fun c_47 => ?_)
              · cases c_47
              refine lv_iload hx hb dX5_takesDigit_119 (lv_at hl 1 rfl) ?_
              refine lv_goto (tgt := 128) hx hb dX5_takesDigit_121 (by decide) ?_
              refine va_put (D := D) (ci := 5) (v := .int (((10 : Int32) * (M 9 0)) + dg)) (ty := .int) (C := RX5) (T := TX5) (N := 13) hx hb hts hinX5 tyX5 tyX5_ok nmX5 hown hK.1 hP hD hS 0 rfl rfl 9 (by decide) (hts (.fieldLink RX5 159 "SaltSharesModel" "number" "I") (List.mem_of_getElem? (i := 4) rfl)) (fun _ h9 => h9) rfl (by decide +kernel) rfl rfl (Nat.le_of_ble_eq_true rfl) dX5_takesDigit_128 (fun H locs hP hD hS => ?_)
              have hP : va_P D vwCl (zB_X5 (g 0) u (zU M 9 (fun _ => (((10 : Int32) * (M 9 0)) + dg))) w) H := hP
              have hD : va_D (zA (zB_X5 (g 0) u M w)) (zB_X5 (g 0) u (zU M 9 (fun _ => (((10 : Int32) * (M 9 0)) + dg))) w) := hD
              refine lv_aload_n hx hb dX5_takesDigit_131 rfl (lv_at hl 4 rfl) ?_
              refine va_get (D := D) (ci := 5) (v := .ref (u 8)) (C := RX5) (T := TX5) (N := 13) hx hb hts hinX5 hown hK.1 hP 0 rfl rfl 7 (by decide) (hts (.fieldLink RX5 22 "SaltSharesModel" "parts" "[I") (List.mem_of_getElem? (i := 1) rfl)) (fun _ h9 => h9) rfl dX5_takesDigit_132 ?_
              refine lv_iconst (v := 3) hx hb dX5_takesDigit_135 (by decide) ?_
              refine lv_aload_n hx hb dX5_takesDigit_136 rfl (lv_at hl 4 rfl) ?_
              refine va_get (D := D) (ci := 5) (v := .int (M 8 0)) (C := RX5) (T := TX5) (N := 13) hx hb hts hinX5 hown hK.1 hP 0 rfl rfl 8 (by decide) (hts (.fieldLink RX5 156 "SaltSharesModel" "read" "I") (List.mem_of_getElem? (i := 2) rfl)) (fun _ h9 => h9) rfl dX5_takesDigit_137 ?_
              have w_48 := znat z0
              have w_48b := w_48.2
              refine lv_is w_48.1 ?_
              refine lv_imul hx hb dX5_takesDigit_140 ?_
              refine lv_is (show (3 : Int32) * (nI (Int32.toNatClampNeg (M 8 0))) = (nI (3 * (Int32.toNatClampNeg (M 8 0)))) from pk_mul 3 (Int32.toNatClampNeg (M 8 0))) ?_
              refine lv_iconst (v := 2) hx hb dX5_takesDigit_141 (by decide) ?_
              refine lv_iadd hx hb dX5_takesDigit_142 ?_
              refine lv_is (show (nI (3 * (Int32.toNatClampNeg (M 8 0)))) + 2 = (nI (3 * (Int32.toNatClampNeg (M 8 0)) + 2)) from nI_add (3 * (Int32.toNatClampNeg (M 8 0))) 2) ?_
              refine lv_aload_n hx hb dX5_takesDigit_143 rfl (lv_at hl 4 rfl) ?_
              refine va_get (D := D) (ci := 5) (v := .int (((10 : Int32) * (M 9 0)) + dg)) (C := RX5) (T := TX5) (N := 13) hx hb hts hinX5 hown hK.1 hP 0 rfl rfl 9 (by decide) (hts (.fieldLink RX5 159 "SaltSharesModel" "number" "I") (List.mem_of_getElem? (i := 4) rfl)) (fun _ h9 => h9) rfl dX5_takesDigit_144 ?_
              refine z_iast (i := 3 * (Int32.toNatClampNeg (M 8 0)) + 2) (x := (((10 : Int32) * (M 9 0)) + dg)) hx hb hK hP hD hS 5 0 rfl rfl (by omega) (by decide) dX5_takesDigit_147 (fun H locs hP hD hS => ?_)
              have hP : va_P D vwCl (zB_X5 (g 0) u (zU (zU M 9 (fun _ => (((10 : Int32) * (M 9 0)) + dg))) 7 (upd (M 7) (3 * (Int32.toNatClampNeg (M 8 0)) + 2) (((10 : Int32) * (M 9 0)) + dg))) w) H := hP
              have hD : va_D (zA (zB_X5 (g 0) u M w)) (zB_X5 (g 0) u (zU (zU M 9 (fun _ => (((10 : Int32) * (M 9 0)) + dg))) 7 (upd (M 7) (3 * (Int32.toNatClampNeg (M 8 0)) + 2) (((10 : Int32) * (M 9 0)) + dg))) w) := hD
              refine lv_iload hx hb dX5_takesDigit_148 (lv_at hl 0 rfl) ?_
              exact zretw_z (q' := true) hx hb hr hlocks dX5_takesDigit_150 hP hS (congrArg (fun z9 => z9.1) hq) (congrArg (fun z9 => zB_X5 (g 0) u z9.2 w) hq)
      · have c_34 : (M 9 0) = (-1) := c_34
        have hq := hq.trans (if_pos c_34)
        refine lv_iload_n hx hb dX5_takesDigit_56 rfl (lv_at hl 3 rfl) ?_
        refine lv_goto (tgt := 69) hx hb dX5_takesDigit_57 (by decide) ?_
        refine lv_istore (lv' := [(4, .int dg), (3, .int 149), (2, .int (bI false)), (0, .ref (u 0)), (1, .int dg)]) hx hb dX5_takesDigit_69 hl (by decide) rfl (fun ls hl => ?_)
        refine lv_iload_n hx hb dX5_takesDigit_71 rfl (lv_at hl 4 rfl) ?_
        refine lv_iconst (v := 0) hx hb dX5_takesDigit_72 (by decide) ?_
        refine lv_bipush (v := 9) hx hb dX5_takesDigit_73 (by decide) ?_
        refine zcSO (n := 3) (c_X5_within l D g dg 0 9) hx hb hml hown hts gX5_takesDigit_X5_within rfl ⟨by decide, by decide, by decide⟩ ⟨Nat.le_of_ble_eq_true rfl, Nat.le_of_ble_eq_true rfl⟩ ⟨rfl, rfl⟩ hK (hP.sub [] rfl) hl.1 rfl rfl (Nat.le_of_ble_eq_true rfl) ⟨Nat.zero_le _, Nat.zero_le _⟩ dX5_takesDigit_75 ?_
        refine zif_eq (tgt := 110) hx hb dX5_takesDigit_78 (by decide) (fun c_50 => ?_) (fun c_50 => ?_)
        · have hq := hq.trans (zif_f c_50)
          refine lv_iconst (v := 0) hx hb dX5_takesDigit_110 (by decide) ?_
          refine lv_is (show (0 : Int32) = bI false from rfl) ?_
          refine lv_istore (lv' := [(5, .int (bI false)), (4, .int dg), (3, .int 149), (2, .int (bI false)), (0, .ref (u 0)), (1, .int dg)]) hx hb dX5_takesDigit_111 hl (by decide) rfl (fun ls hl => ?_)
          refine lv_aload_n hx hb dX5_takesDigit_113 rfl (lv_at hl 4 rfl) ?_
          refine lv_iload hx hb dX5_takesDigit_114 (lv_at hl 0 rfl) ?_
          refine zif_eq (tgt := 124) hx hb dX5_takesDigit_116 (by decide) (fun c_51 => ?_) (fun c_51 => ?_)
          rotate_left
          · cases c_51
          refine lv_aload_n hx hb dX5_takesDigit_124 rfl (lv_at hl 4 rfl) ?_
          refine va_get (D := D) (ci := 5) (v := .int (M 9 0)) (C := RX5) (T := TX5) (N := 13) hx hb hts hinX5 hown hK.1 hP 0 rfl rfl 9 (by decide) (hts (.fieldLink RX5 159 "SaltSharesModel" "number" "I") (List.mem_of_getElem? (i := 4) rfl)) (fun _ h9 => h9) rfl dX5_takesDigit_125 ?_
          refine va_put (D := D) (ci := 5) (v := .int (M 9 0)) (ty := .int) (C := RX5) (T := TX5) (N := 13) hx hb hts hinX5 tyX5 tyX5_ok nmX5 hown hK.1 hP hD hS 0 rfl rfl 9 (by decide) (hts (.fieldLink RX5 159 "SaltSharesModel" "number" "I") (List.mem_of_getElem? (i := 4) rfl)) (fun _ h9 => h9) rfl (by decide +kernel) rfl rfl (Nat.le_of_ble_eq_true rfl) dX5_takesDigit_128 (fun H locs hP hD hS => ?_)
          have hP : va_P D vwCl (zB_X5 (g 0) u (zU M 9 (fun _ => (M 9 0))) w) H := hP
          have hD : va_D (zA (zB_X5 (g 0) u M w)) (zB_X5 (g 0) u (zU M 9 (fun _ => (M 9 0))) w) := hD
          refine lv_aload_n hx hb dX5_takesDigit_131 rfl (lv_at hl 4 rfl) ?_
          refine va_get (D := D) (ci := 5) (v := .ref (u 8)) (C := RX5) (T := TX5) (N := 13) hx hb hts hinX5 hown hK.1 hP 0 rfl rfl 7 (by decide) (hts (.fieldLink RX5 22 "SaltSharesModel" "parts" "[I") (List.mem_of_getElem? (i := 1) rfl)) (fun _ h9 => h9) rfl dX5_takesDigit_132 ?_
          refine lv_iconst (v := 3) hx hb dX5_takesDigit_135 (by decide) ?_
          refine lv_aload_n hx hb dX5_takesDigit_136 rfl (lv_at hl 4 rfl) ?_
          refine va_get (D := D) (ci := 5) (v := .int (M 8 0)) (C := RX5) (T := TX5) (N := 13) hx hb hts hinX5 hown hK.1 hP 0 rfl rfl 8 (by decide) (hts (.fieldLink RX5 156 "SaltSharesModel" "read" "I") (List.mem_of_getElem? (i := 2) rfl)) (fun _ h9 => h9) rfl dX5_takesDigit_137 ?_
          have w_52 := znat z0
          have w_52b := w_52.2
          refine lv_is w_52.1 ?_
          refine lv_imul hx hb dX5_takesDigit_140 ?_
          refine lv_is (show (3 : Int32) * (nI (Int32.toNatClampNeg (M 8 0))) = (nI (3 * (Int32.toNatClampNeg (M 8 0)))) from pk_mul 3 (Int32.toNatClampNeg (M 8 0))) ?_
          refine lv_iconst (v := 2) hx hb dX5_takesDigit_141 (by decide) ?_
          refine lv_iadd hx hb dX5_takesDigit_142 ?_
          refine lv_is (show (nI (3 * (Int32.toNatClampNeg (M 8 0)))) + 2 = (nI (3 * (Int32.toNatClampNeg (M 8 0)) + 2)) from nI_add (3 * (Int32.toNatClampNeg (M 8 0))) 2) ?_
          refine lv_aload_n hx hb dX5_takesDigit_143 rfl (lv_at hl 4 rfl) ?_
          refine va_get (D := D) (ci := 5) (v := .int (M 9 0)) (C := RX5) (T := TX5) (N := 13) hx hb hts hinX5 hown hK.1 hP 0 rfl rfl 9 (by decide) (hts (.fieldLink RX5 159 "SaltSharesModel" "number" "I") (List.mem_of_getElem? (i := 4) rfl)) (fun _ h9 => h9) rfl dX5_takesDigit_144 ?_
          refine z_iast (i := 3 * (Int32.toNatClampNeg (M 8 0)) + 2) (x := (M 9 0)) hx hb hK hP hD hS 5 0 rfl rfl (by omega) (by decide) dX5_takesDigit_147 (fun H locs hP hD hS => ?_)
          have hP : va_P D vwCl (zB_X5 (g 0) u (zU (zU M 9 (fun _ => (M 9 0))) 7 (upd (M 7) (3 * (Int32.toNatClampNeg (M 8 0)) + 2) (M 9 0))) w) H := hP
          have hD : va_D (zA (zB_X5 (g 0) u M w)) (zB_X5 (g 0) u (zU (zU M 9 (fun _ => (M 9 0))) 7 (upd (M 7) (3 * (Int32.toNatClampNeg (M 8 0)) + 2) (M 9 0))) w) := hD
          refine lv_iload hx hb dX5_takesDigit_148 (lv_at hl 0 rfl) ?_
          exact zretw_z (q' := false) hx hb hr hlocks dX5_takesDigit_150 hP hS (congrArg (fun z9 => z9.1) hq) (congrArg (fun z9 => zB_X5 (g 0) u z9.2 w) hq)
        · have hq := hq.trans (zif_t c_50)
          refine lv_aload_n hx hb dX5_takesDigit_81 rfl (lv_at hl 3 rfl) ?_
          refine va_get (D := D) (ci := 5) (v := .int (M 9 0)) (C := RX5) (T := TX5) (N := 13) hx hb hts hinX5 hown hK.1 hP 0 rfl rfl 9 (by decide) (hts (.fieldLink RX5 159 "SaltSharesModel" "number" "I") (List.mem_of_getElem? (i := 4) rfl)) (fun _ h9 => h9) rfl dX5_takesDigit_82 ?_
          refine lv_if_eq (tgt := 110) hx hb dX5_takesDigit_85 (by decide) (fun c_53 => ?_) (fun c_53 => ?_)
          · have c_53 : (M 9 0) = 0 := c_53
            have hq := hq.trans (if_pos c_53)
            refine lv_iconst (v := 0) hx hb dX5_takesDigit_110 (by decide) ?_
            refine lv_is (show (0 : Int32) = bI false from rfl) ?_
            refine lv_istore (lv' := [(5, .int (bI false)), (4, .int dg), (3, .int 149), (2, .int (bI false)), (0, .ref (u 0)), (1, .int dg)]) hx hb dX5_takesDigit_111 hl (by decide) rfl (fun ls hl => ?_)
            refine lv_aload_n hx hb dX5_takesDigit_113 rfl (lv_at hl 4 rfl) ?_
            refine lv_iload hx hb dX5_takesDigit_114 (lv_at hl 0 rfl) ?_
            refine zif_eq (tgt := 124) hx hb dX5_takesDigit_116 (by decide) (fun c_54 => ?_) (fun c_54 => ?_)
            rotate_left
            · cases c_54
            refine lv_aload_n hx hb dX5_takesDigit_124 rfl (lv_at hl 4 rfl) ?_
            refine va_get (D := D) (ci := 5) (v := .int (M 9 0)) (C := RX5) (T := TX5) (N := 13) hx hb hts hinX5 hown hK.1 hP 0 rfl rfl 9 (by decide) (hts (.fieldLink RX5 159 "SaltSharesModel" "number" "I") (List.mem_of_getElem? (i := 4) rfl)) (fun _ h9 => h9) rfl dX5_takesDigit_125 ?_
            refine va_put (D := D) (ci := 5) (v := .int (M 9 0)) (ty := .int) (C := RX5) (T := TX5) (N := 13) hx hb hts hinX5 tyX5 tyX5_ok nmX5 hown hK.1 hP hD hS 0 rfl rfl 9 (by decide) (hts (.fieldLink RX5 159 "SaltSharesModel" "number" "I") (List.mem_of_getElem? (i := 4) rfl)) (fun _ h9 => h9) rfl (by decide +kernel) rfl rfl (Nat.le_of_ble_eq_true rfl) dX5_takesDigit_128 (fun H locs hP hD hS => ?_)
            have hP : va_P D vwCl (zB_X5 (g 0) u (zU M 9 (fun _ => (M 9 0))) w) H := hP
            have hD : va_D (zA (zB_X5 (g 0) u M w)) (zB_X5 (g 0) u (zU M 9 (fun _ => (M 9 0))) w) := hD
            refine lv_aload_n hx hb dX5_takesDigit_131 rfl (lv_at hl 4 rfl) ?_
            refine va_get (D := D) (ci := 5) (v := .ref (u 8)) (C := RX5) (T := TX5) (N := 13) hx hb hts hinX5 hown hK.1 hP 0 rfl rfl 7 (by decide) (hts (.fieldLink RX5 22 "SaltSharesModel" "parts" "[I") (List.mem_of_getElem? (i := 1) rfl)) (fun _ h9 => h9) rfl dX5_takesDigit_132 ?_
            refine lv_iconst (v := 3) hx hb dX5_takesDigit_135 (by decide) ?_
            refine lv_aload_n hx hb dX5_takesDigit_136 rfl (lv_at hl 4 rfl) ?_
            refine va_get (D := D) (ci := 5) (v := .int (M 8 0)) (C := RX5) (T := TX5) (N := 13) hx hb hts hinX5 hown hK.1 hP 0 rfl rfl 8 (by decide) (hts (.fieldLink RX5 156 "SaltSharesModel" "read" "I") (List.mem_of_getElem? (i := 2) rfl)) (fun _ h9 => h9) rfl dX5_takesDigit_137 ?_
            have w_55 := znat z0
            have w_55b := w_55.2
            refine lv_is w_55.1 ?_
            refine lv_imul hx hb dX5_takesDigit_140 ?_
            refine lv_is (show (3 : Int32) * (nI (Int32.toNatClampNeg (M 8 0))) = (nI (3 * (Int32.toNatClampNeg (M 8 0)))) from pk_mul 3 (Int32.toNatClampNeg (M 8 0))) ?_
            refine lv_iconst (v := 2) hx hb dX5_takesDigit_141 (by decide) ?_
            refine lv_iadd hx hb dX5_takesDigit_142 ?_
            refine lv_is (show (nI (3 * (Int32.toNatClampNeg (M 8 0)))) + 2 = (nI (3 * (Int32.toNatClampNeg (M 8 0)) + 2)) from nI_add (3 * (Int32.toNatClampNeg (M 8 0))) 2) ?_
            refine lv_aload_n hx hb dX5_takesDigit_143 rfl (lv_at hl 4 rfl) ?_
            refine va_get (D := D) (ci := 5) (v := .int (M 9 0)) (C := RX5) (T := TX5) (N := 13) hx hb hts hinX5 hown hK.1 hP 0 rfl rfl 9 (by decide) (hts (.fieldLink RX5 159 "SaltSharesModel" "number" "I") (List.mem_of_getElem? (i := 4) rfl)) (fun _ h9 => h9) rfl dX5_takesDigit_144 ?_
            refine z_iast (i := 3 * (Int32.toNatClampNeg (M 8 0)) + 2) (x := (M 9 0)) hx hb hK hP hD hS 5 0 rfl rfl (by omega) (by decide) dX5_takesDigit_147 (fun H locs hP hD hS => ?_)
            have hP : va_P D vwCl (zB_X5 (g 0) u (zU (zU M 9 (fun _ => (M 9 0))) 7 (upd (M 7) (3 * (Int32.toNatClampNeg (M 8 0)) + 2) (M 9 0))) w) H := hP
            have hD : va_D (zA (zB_X5 (g 0) u M w)) (zB_X5 (g 0) u (zU (zU M 9 (fun _ => (M 9 0))) 7 (upd (M 7) (3 * (Int32.toNatClampNeg (M 8 0)) + 2) (M 9 0))) w) := hD
            refine lv_iload hx hb dX5_takesDigit_148 (lv_at hl 0 rfl) ?_
            exact zretw_z (q' := false) hx hb hr hlocks dX5_takesDigit_150 hP hS (congrArg (fun z9 => z9.1) hq) (congrArg (fun z9 => zB_X5 (g 0) u z9.2 w) hq)
          · have c_53 : ¬ ((M 9 0) = 0) := c_53
            have hq := hq.trans (if_neg c_53)
            refine lv_iload hx hb dX5_takesDigit_88 (lv_at hl 0 rfl) ?_
            refine lv_iload_n hx hb dX5_takesDigit_90 rfl (lv_at hl 2 rfl) ?_
            refine zif_eq (tgt := 98) hx hb dX5_takesDigit_91 (by decide) (fun c_56 => ?_) (fun c_56 => ?_)
            rotate_left
            · cases c_56
            refine lv_iconst (v := 0) hx hb dX5_takesDigit_98 (by decide) ?_
            refine lv_iload_n hx hb dX5_takesDigit_99 rfl (lv_at hl 1 rfl) ?_
            refine zcSO (n := 3) (c_X5_within l D g dg 0 149) hx hb hml hown hts gX5_takesDigit_X5_within rfl ⟨by decide, by decide, by decide⟩ ⟨Nat.le_of_ble_eq_true rfl, Nat.le_of_ble_eq_true rfl⟩ ⟨rfl, rfl⟩ hK (hP.sub [] rfl) hl.1 rfl rfl (Nat.le_of_ble_eq_true rfl) ⟨Nat.zero_le _, Nat.zero_le _⟩ dX5_takesDigit_100 ?_
            refine zif_eq (tgt := 110) hx hb dX5_takesDigit_103 (by decide) (fun c_58 => ?_) (fun c_58 => ?_)
            · have hq := hq.trans (zif_f c_58)
              refine lv_iconst (v := 0) hx hb dX5_takesDigit_110 (by decide) ?_
              refine lv_is (show (0 : Int32) = bI false from rfl) ?_
              refine lv_istore (lv' := [(5, .int (bI false)), (4, .int dg), (3, .int 149), (2, .int (bI false)), (0, .ref (u 0)), (1, .int dg)]) hx hb dX5_takesDigit_111 hl (by decide) rfl (fun ls hl => ?_)
              refine lv_aload_n hx hb dX5_takesDigit_113 rfl (lv_at hl 4 rfl) ?_
              refine lv_iload hx hb dX5_takesDigit_114 (lv_at hl 0 rfl) ?_
              refine zif_eq (tgt := 124) hx hb dX5_takesDigit_116 (by decide) (fun c_59 => ?_) (fun c_59 => ?_)
              rotate_left
              · cases c_59
              refine lv_aload_n hx hb dX5_takesDigit_124 rfl (lv_at hl 4 rfl) ?_
              refine va_get (D := D) (ci := 5) (v := .int (M 9 0)) (C := RX5) (T := TX5) (N := 13) hx hb hts hinX5 hown hK.1 hP 0 rfl rfl 9 (by decide) (hts (.fieldLink RX5 159 "SaltSharesModel" "number" "I") (List.mem_of_getElem? (i := 4) rfl)) (fun _ h9 => h9) rfl dX5_takesDigit_125 ?_
              refine va_put (D := D) (ci := 5) (v := .int (M 9 0)) (ty := .int) (C := RX5) (T := TX5) (N := 13) hx hb hts hinX5 tyX5 tyX5_ok nmX5 hown hK.1 hP hD hS 0 rfl rfl 9 (by decide) (hts (.fieldLink RX5 159 "SaltSharesModel" "number" "I") (List.mem_of_getElem? (i := 4) rfl)) (fun _ h9 => h9) rfl (by decide +kernel) rfl rfl (Nat.le_of_ble_eq_true rfl) dX5_takesDigit_128 (fun H locs hP hD hS => ?_)
              have hP : va_P D vwCl (zB_X5 (g 0) u (zU M 9 (fun _ => (M 9 0))) w) H := hP
              have hD : va_D (zA (zB_X5 (g 0) u M w)) (zB_X5 (g 0) u (zU M 9 (fun _ => (M 9 0))) w) := hD
              refine lv_aload_n hx hb dX5_takesDigit_131 rfl (lv_at hl 4 rfl) ?_
              refine va_get (D := D) (ci := 5) (v := .ref (u 8)) (C := RX5) (T := TX5) (N := 13) hx hb hts hinX5 hown hK.1 hP 0 rfl rfl 7 (by decide) (hts (.fieldLink RX5 22 "SaltSharesModel" "parts" "[I") (List.mem_of_getElem? (i := 1) rfl)) (fun _ h9 => h9) rfl dX5_takesDigit_132 ?_
              refine lv_iconst (v := 3) hx hb dX5_takesDigit_135 (by decide) ?_
              refine lv_aload_n hx hb dX5_takesDigit_136 rfl (lv_at hl 4 rfl) ?_
              refine va_get (D := D) (ci := 5) (v := .int (M 8 0)) (C := RX5) (T := TX5) (N := 13) hx hb hts hinX5 hown hK.1 hP 0 rfl rfl 8 (by decide) (hts (.fieldLink RX5 156 "SaltSharesModel" "read" "I") (List.mem_of_getElem? (i := 2) rfl)) (fun _ h9 => h9) rfl dX5_takesDigit_137 ?_
              have w_60 := znat z0
              have w_60b := w_60.2
              refine lv_is w_60.1 ?_
              refine lv_imul hx hb dX5_takesDigit_140 ?_
              refine lv_is (show (3 : Int32) * (nI (Int32.toNatClampNeg (M 8 0))) = (nI (3 * (Int32.toNatClampNeg (M 8 0)))) from pk_mul 3 (Int32.toNatClampNeg (M 8 0))) ?_
              refine lv_iconst (v := 2) hx hb dX5_takesDigit_141 (by decide) ?_
              refine lv_iadd hx hb dX5_takesDigit_142 ?_
              refine lv_is (show (nI (3 * (Int32.toNatClampNeg (M 8 0)))) + 2 = (nI (3 * (Int32.toNatClampNeg (M 8 0)) + 2)) from nI_add (3 * (Int32.toNatClampNeg (M 8 0))) 2) ?_
              refine lv_aload_n hx hb dX5_takesDigit_143 rfl (lv_at hl 4 rfl) ?_
              refine va_get (D := D) (ci := 5) (v := .int (M 9 0)) (C := RX5) (T := TX5) (N := 13) hx hb hts hinX5 hown hK.1 hP 0 rfl rfl 9 (by decide) (hts (.fieldLink RX5 159 "SaltSharesModel" "number" "I") (List.mem_of_getElem? (i := 4) rfl)) (fun _ h9 => h9) rfl dX5_takesDigit_144 ?_
              refine z_iast (i := 3 * (Int32.toNatClampNeg (M 8 0)) + 2) (x := (M 9 0)) hx hb hK hP hD hS 5 0 rfl rfl (by omega) (by decide) dX5_takesDigit_147 (fun H locs hP hD hS => ?_)
              have hP : va_P D vwCl (zB_X5 (g 0) u (zU (zU M 9 (fun _ => (M 9 0))) 7 (upd (M 7) (3 * (Int32.toNatClampNeg (M 8 0)) + 2) (M 9 0))) w) H := hP
              have hD : va_D (zA (zB_X5 (g 0) u M w)) (zB_X5 (g 0) u (zU (zU M 9 (fun _ => (M 9 0))) 7 (upd (M 7) (3 * (Int32.toNatClampNeg (M 8 0)) + 2) (M 9 0))) w) := hD
              refine lv_iload hx hb dX5_takesDigit_148 (lv_at hl 0 rfl) ?_
              exact zretw_z (q' := false) hx hb hr hlocks dX5_takesDigit_150 hP hS (congrArg (fun z9 => z9.1) hq) (congrArg (fun z9 => zB_X5 (g 0) u z9.2 w) hq)
            · have hq := hq.trans (zif_t c_58)
              refine lv_iconst (v := 1) hx hb dX5_takesDigit_106 (by decide) ?_
              refine lv_goto (tgt := 111) hx hb dX5_takesDigit_107 (by decide) ?_
              refine lv_is (show (1 : Int32) = bI true from rfl) ?_
              refine lv_istore (lv' := [(5, .int (bI true)), (4, .int dg), (3, .int 149), (2, .int (bI false)), (0, .ref (u 0)), (1, .int dg)]) hx hb dX5_takesDigit_111 hl (by decide) rfl (fun ls hl => ?_)
              refine lv_aload_n hx hb dX5_takesDigit_113 rfl (lv_at hl 4 rfl) ?_
              refine lv_iload hx hb dX5_takesDigit_114 (lv_at hl 0 rfl) ?_
              refine zif_eq (tgt := 124) hx hb dX5_takesDigit_116 (by decide) (fun c_61 => ?_) (fun c_61 => ?_)
              · cases c_61
              refine lv_iload hx hb dX5_takesDigit_119 (lv_at hl 1 rfl) ?_
              refine lv_goto (tgt := 128) hx hb dX5_takesDigit_121 (by decide) ?_
              refine va_put (D := D) (ci := 5) (v := .int dg) (ty := .int) (C := RX5) (T := TX5) (N := 13) hx hb hts hinX5 tyX5 tyX5_ok nmX5 hown hK.1 hP hD hS 0 rfl rfl 9 (by decide) (hts (.fieldLink RX5 159 "SaltSharesModel" "number" "I") (List.mem_of_getElem? (i := 4) rfl)) (fun _ h9 => h9) rfl (by decide +kernel) rfl rfl (Nat.le_of_ble_eq_true rfl) dX5_takesDigit_128 (fun H locs hP hD hS => ?_)
              have hP : va_P D vwCl (zB_X5 (g 0) u (zU M 9 (fun _ => dg)) w) H := hP
              have hD : va_D (zA (zB_X5 (g 0) u M w)) (zB_X5 (g 0) u (zU M 9 (fun _ => dg)) w) := hD
              refine lv_aload_n hx hb dX5_takesDigit_131 rfl (lv_at hl 4 rfl) ?_
              refine va_get (D := D) (ci := 5) (v := .ref (u 8)) (C := RX5) (T := TX5) (N := 13) hx hb hts hinX5 hown hK.1 hP 0 rfl rfl 7 (by decide) (hts (.fieldLink RX5 22 "SaltSharesModel" "parts" "[I") (List.mem_of_getElem? (i := 1) rfl)) (fun _ h9 => h9) rfl dX5_takesDigit_132 ?_
              refine lv_iconst (v := 3) hx hb dX5_takesDigit_135 (by decide) ?_
              refine lv_aload_n hx hb dX5_takesDigit_136 rfl (lv_at hl 4 rfl) ?_
              refine va_get (D := D) (ci := 5) (v := .int (M 8 0)) (C := RX5) (T := TX5) (N := 13) hx hb hts hinX5 hown hK.1 hP 0 rfl rfl 8 (by decide) (hts (.fieldLink RX5 156 "SaltSharesModel" "read" "I") (List.mem_of_getElem? (i := 2) rfl)) (fun _ h9 => h9) rfl dX5_takesDigit_137 ?_
              have w_62 := znat z0
              have w_62b := w_62.2
              refine lv_is w_62.1 ?_
              refine lv_imul hx hb dX5_takesDigit_140 ?_
              refine lv_is (show (3 : Int32) * (nI (Int32.toNatClampNeg (M 8 0))) = (nI (3 * (Int32.toNatClampNeg (M 8 0)))) from pk_mul 3 (Int32.toNatClampNeg (M 8 0))) ?_
              refine lv_iconst (v := 2) hx hb dX5_takesDigit_141 (by decide) ?_
              refine lv_iadd hx hb dX5_takesDigit_142 ?_
              refine lv_is (show (nI (3 * (Int32.toNatClampNeg (M 8 0)))) + 2 = (nI (3 * (Int32.toNatClampNeg (M 8 0)) + 2)) from nI_add (3 * (Int32.toNatClampNeg (M 8 0))) 2) ?_
              refine lv_aload_n hx hb dX5_takesDigit_143 rfl (lv_at hl 4 rfl) ?_
              refine va_get (D := D) (ci := 5) (v := .int dg) (C := RX5) (T := TX5) (N := 13) hx hb hts hinX5 hown hK.1 hP 0 rfl rfl 9 (by decide) (hts (.fieldLink RX5 159 "SaltSharesModel" "number" "I") (List.mem_of_getElem? (i := 4) rfl)) (fun _ h9 => h9) rfl dX5_takesDigit_144 ?_
              refine z_iast (i := 3 * (Int32.toNatClampNeg (M 8 0)) + 2) (x := dg) hx hb hK hP hD hS 5 0 rfl rfl (by omega) (by decide) dX5_takesDigit_147 (fun H locs hP hD hS => ?_)
              have hP : va_P D vwCl (zB_X5 (g 0) u (zU (zU M 9 (fun _ => dg)) 7 (upd (M 7) (3 * (Int32.toNatClampNeg (M 8 0)) + 2) dg)) w) H := hP
              have hD : va_D (zA (zB_X5 (g 0) u M w)) (zB_X5 (g 0) u (zU (zU M 9 (fun _ => dg)) 7 (upd (M 7) (3 * (Int32.toNatClampNeg (M 8 0)) + 2) dg)) w) := hD
              refine lv_iload hx hb dX5_takesDigit_148 (lv_at hl 0 rfl) ?_
              exact zretw_z (q' := true) hx hb hr hlocks dX5_takesDigit_150 hP hS (congrArg (fun z9 => z9.1) hq) (congrArg (fun z9 => zB_X5 (g 0) u z9.2 w) hq)
  · have c_2 : (M 7 (3 * (Int32.toNatClampNeg (M 8 0)))) = 100 := c_2
    have hq := hq.trans (if_pos c_2)
    refine lv_iconst (v := 1) hx hb dX5_takesDigit_16 (by decide) ?_
    refine lv_goto (tgt := 21) hx hb dX5_takesDigit_17 (by decide) ?_
    refine lv_is (show (1 : Int32) = bI true from rfl) ?_
    refine lv_istore_n (lv' := [(2, .int (bI true)), (0, .ref (u 0)), (1, .int dg)]) hx hb dX5_takesDigit_21 rfl hl (by decide) rfl (fun ls hl => ?_)
    refine lv_aload_n hx hb dX5_takesDigit_22 rfl (lv_at hl 1 rfl) ?_
    refine va_get (D := D) (ci := 5) (v := .int (M 10 0)) (C := RX5) (T := TX5) (N := 13) hx hb hts hinX5 hown hK.1 hP 0 rfl rfl 10 (by decide) (hts (.fieldLink RX5 162 "SaltSharesModel" "due" "I") (List.mem_of_getElem? (i := 3) rfl)) (fun _ h9 => h9) rfl dX5_takesDigit_23 ?_
    refine lv_iconst (v := 4) hx hb dX5_takesDigit_26 (by decide) ?_
    refine lv_icmp_ne (tgt := 36) hx hb dX5_takesDigit_27 (by decide) (fun c_63 => ?_) (fun c_63 => ?_)
    · have c_63 : ¬ ((M 10 0) = 4) := c_63
      have hq := hq.trans (if_neg c_63)
      refine lv_iload_n hx hb dX5_takesDigit_36 rfl (lv_at hl 0 rfl) ?_
      refine zif_eq (tgt := 45) hx hb dX5_takesDigit_37 (by decide) (fun c_64 => ?_) (fun c_64 => ?_)
      · cases c_64
      refine lv_bipush (v := 50) hx hb dX5_takesDigit_40 (by decide) ?_
      refine lv_goto (tgt := 47) hx hb dX5_takesDigit_42 (by decide) ?_
      refine lv_istore_n (lv' := [(3, .int 50), (2, .int (bI true)), (0, .ref (u 0)), (1, .int dg)]) hx hb dX5_takesDigit_47 rfl hl (by decide) rfl (fun ls hl => ?_)
      refine lv_aload_n hx hb dX5_takesDigit_48 rfl (lv_at hl 2 rfl) ?_
      refine va_get (D := D) (ci := 5) (v := .int (M 9 0)) (C := RX5) (T := TX5) (N := 13) hx hb hts hinX5 hown hK.1 hP 0 rfl rfl 9 (by decide) (hts (.fieldLink RX5 159 "SaltSharesModel" "number" "I") (List.mem_of_getElem? (i := 4) rfl)) (fun _ h9 => h9) rfl dX5_takesDigit_49 ?_
      refine lv_iconst (v := (-1)) hx hb dX5_takesDigit_52 (by decide) ?_
      refine lv_icmp_ne (tgt := 60) hx hb dX5_takesDigit_53 (by decide) (fun c_65 => ?_) (fun c_65 => ?_)
      · have c_65 : ¬ ((M 9 0) = (-1)) := c_65
        have hq := hq.trans (if_neg c_65)
        refine lv_bipush (v := 10) hx hb dX5_takesDigit_60 (by decide) ?_
        refine lv_aload_n hx hb dX5_takesDigit_62 rfl (lv_at hl 2 rfl) ?_
        refine va_get (D := D) (ci := 5) (v := .int (M 9 0)) (C := RX5) (T := TX5) (N := 13) hx hb hts hinX5 hown hK.1 hP 0 rfl rfl 9 (by decide) (hts (.fieldLink RX5 159 "SaltSharesModel" "number" "I") (List.mem_of_getElem? (i := 4) rfl)) (fun _ h9 => h9) rfl dX5_takesDigit_63 ?_
        refine lv_imul hx hb dX5_takesDigit_66 ?_
        refine lv_iload_n hx hb dX5_takesDigit_67 rfl (lv_at hl 3 rfl) ?_
        refine lv_iadd hx hb dX5_takesDigit_68 ?_
        refine lv_istore (lv' := [(4, .int (((10 : Int32) * (M 9 0)) + dg)), (3, .int 50), (2, .int (bI true)), (0, .ref (u 0)), (1, .int dg)]) hx hb dX5_takesDigit_69 hl (by decide) rfl (fun ls hl => ?_)
        refine lv_iload_n hx hb dX5_takesDigit_71 rfl (lv_at hl 4 rfl) ?_
        refine lv_iconst (v := 0) hx hb dX5_takesDigit_72 (by decide) ?_
        refine lv_bipush (v := 9) hx hb dX5_takesDigit_73 (by decide) ?_
        refine zcSO (n := 3) (c_X5_within l D g dg 0 9) hx hb hml hown hts gX5_takesDigit_X5_within rfl ⟨by decide, by decide, by decide⟩ ⟨Nat.le_of_ble_eq_true rfl, Nat.le_of_ble_eq_true rfl⟩ ⟨rfl, rfl⟩ hK (hP.sub [] rfl) hl.1 rfl rfl (Nat.le_of_ble_eq_true rfl) ⟨Nat.zero_le _, Nat.zero_le _⟩ dX5_takesDigit_75 ?_
        refine zif_eq (tgt := 110) hx hb dX5_takesDigit_78 (by decide) (fun c_67 => ?_) (fun c_67 => ?_)
        · have hq := hq.trans (zif_f c_67)
          refine lv_iconst (v := 0) hx hb dX5_takesDigit_110 (by decide) ?_
          refine lv_is (show (0 : Int32) = bI false from rfl) ?_
          refine lv_istore (lv' := [(5, .int (bI false)), (4, .int (((10 : Int32) * (M 9 0)) + dg)), (3, .int 50), (2, .int (bI true)), (0, .ref (u 0)), (1, .int dg)]) hx hb dX5_takesDigit_111 hl (by decide) rfl (fun ls hl => ?_)
          refine lv_aload_n hx hb dX5_takesDigit_113 rfl (lv_at hl 4 rfl) ?_
          refine lv_iload hx hb dX5_takesDigit_114 (lv_at hl 0 rfl) ?_
          refine zif_eq (tgt := 124) hx hb dX5_takesDigit_116 (by decide) (fun c_68 => ?_) (fun c_68 => ?_)
          rotate_left
          · cases c_68
          refine lv_aload_n hx hb dX5_takesDigit_124 rfl (lv_at hl 4 rfl) ?_
          refine va_get (D := D) (ci := 5) (v := .int (M 9 0)) (C := RX5) (T := TX5) (N := 13) hx hb hts hinX5 hown hK.1 hP 0 rfl rfl 9 (by decide) (hts (.fieldLink RX5 159 "SaltSharesModel" "number" "I") (List.mem_of_getElem? (i := 4) rfl)) (fun _ h9 => h9) rfl dX5_takesDigit_125 ?_
          refine va_put (D := D) (ci := 5) (v := .int (M 9 0)) (ty := .int) (C := RX5) (T := TX5) (N := 13) hx hb hts hinX5 tyX5 tyX5_ok nmX5 hown hK.1 hP hD hS 0 rfl rfl 9 (by decide) (hts (.fieldLink RX5 159 "SaltSharesModel" "number" "I") (List.mem_of_getElem? (i := 4) rfl)) (fun _ h9 => h9) rfl (by decide +kernel) rfl rfl (Nat.le_of_ble_eq_true rfl) dX5_takesDigit_128 (fun H locs hP hD hS => ?_)
          have hP : va_P D vwCl (zB_X5 (g 0) u (zU M 9 (fun _ => (M 9 0))) w) H := hP
          have hD : va_D (zA (zB_X5 (g 0) u M w)) (zB_X5 (g 0) u (zU M 9 (fun _ => (M 9 0))) w) := hD
          refine lv_aload_n hx hb dX5_takesDigit_131 rfl (lv_at hl 4 rfl) ?_
          refine va_get (D := D) (ci := 5) (v := .ref (u 8)) (C := RX5) (T := TX5) (N := 13) hx hb hts hinX5 hown hK.1 hP 0 rfl rfl 7 (by decide) (hts (.fieldLink RX5 22 "SaltSharesModel" "parts" "[I") (List.mem_of_getElem? (i := 1) rfl)) (fun _ h9 => h9) rfl dX5_takesDigit_132 ?_
          refine lv_iconst (v := 3) hx hb dX5_takesDigit_135 (by decide) ?_
          refine lv_aload_n hx hb dX5_takesDigit_136 rfl (lv_at hl 4 rfl) ?_
          refine va_get (D := D) (ci := 5) (v := .int (M 8 0)) (C := RX5) (T := TX5) (N := 13) hx hb hts hinX5 hown hK.1 hP 0 rfl rfl 8 (by decide) (hts (.fieldLink RX5 156 "SaltSharesModel" "read" "I") (List.mem_of_getElem? (i := 2) rfl)) (fun _ h9 => h9) rfl dX5_takesDigit_137 ?_
          have w_69 := znat z0
          have w_69b := w_69.2
          refine lv_is w_69.1 ?_
          refine lv_imul hx hb dX5_takesDigit_140 ?_
          refine lv_is (show (3 : Int32) * (nI (Int32.toNatClampNeg (M 8 0))) = (nI (3 * (Int32.toNatClampNeg (M 8 0)))) from pk_mul 3 (Int32.toNatClampNeg (M 8 0))) ?_
          refine lv_iconst (v := 2) hx hb dX5_takesDigit_141 (by decide) ?_
          refine lv_iadd hx hb dX5_takesDigit_142 ?_
          refine lv_is (show (nI (3 * (Int32.toNatClampNeg (M 8 0)))) + 2 = (nI (3 * (Int32.toNatClampNeg (M 8 0)) + 2)) from nI_add (3 * (Int32.toNatClampNeg (M 8 0))) 2) ?_
          refine lv_aload_n hx hb dX5_takesDigit_143 rfl (lv_at hl 4 rfl) ?_
          refine va_get (D := D) (ci := 5) (v := .int (M 9 0)) (C := RX5) (T := TX5) (N := 13) hx hb hts hinX5 hown hK.1 hP 0 rfl rfl 9 (by decide) (hts (.fieldLink RX5 159 "SaltSharesModel" "number" "I") (List.mem_of_getElem? (i := 4) rfl)) (fun _ h9 => h9) rfl dX5_takesDigit_144 ?_
          refine z_iast (i := 3 * (Int32.toNatClampNeg (M 8 0)) + 2) (x := (M 9 0)) hx hb hK hP hD hS 5 0 rfl rfl (by omega) (by decide) dX5_takesDigit_147 (fun H locs hP hD hS => ?_)
          have hP : va_P D vwCl (zB_X5 (g 0) u (zU (zU M 9 (fun _ => (M 9 0))) 7 (upd (M 7) (3 * (Int32.toNatClampNeg (M 8 0)) + 2) (M 9 0))) w) H := hP
          have hD : va_D (zA (zB_X5 (g 0) u M w)) (zB_X5 (g 0) u (zU (zU M 9 (fun _ => (M 9 0))) 7 (upd (M 7) (3 * (Int32.toNatClampNeg (M 8 0)) + 2) (M 9 0))) w) := hD
          refine lv_iload hx hb dX5_takesDigit_148 (lv_at hl 0 rfl) ?_
          exact zretw_z (q' := false) hx hb hr hlocks dX5_takesDigit_150 hP hS (congrArg (fun z9 => z9.1) hq) (congrArg (fun z9 => zB_X5 (g 0) u z9.2 w) hq)
        · have hq := hq.trans (zif_t c_67)
          refine lv_aload_n hx hb dX5_takesDigit_81 rfl (lv_at hl 3 rfl) ?_
          refine va_get (D := D) (ci := 5) (v := .int (M 9 0)) (C := RX5) (T := TX5) (N := 13) hx hb hts hinX5 hown hK.1 hP 0 rfl rfl 9 (by decide) (hts (.fieldLink RX5 159 "SaltSharesModel" "number" "I") (List.mem_of_getElem? (i := 4) rfl)) (fun _ h9 => h9) rfl dX5_takesDigit_82 ?_
          refine lv_if_eq (tgt := 110) hx hb dX5_takesDigit_85 (by decide) (fun c_70 => ?_) (fun c_70 => ?_)
          · have c_70 : (M 9 0) = 0 := c_70
            have hq := hq.trans (if_pos c_70)
            refine lv_iconst (v := 0) hx hb dX5_takesDigit_110 (by decide) ?_
            refine lv_is (show (0 : Int32) = bI false from rfl) ?_
            refine lv_istore (lv' := [(5, .int (bI false)), (4, .int (((10 : Int32) * (M 9 0)) + dg)), (3, .int 50), (2, .int (bI true)), (0, .ref (u 0)), (1, .int dg)]) hx hb dX5_takesDigit_111 hl (by decide) rfl (fun ls hl => ?_)
            refine lv_aload_n hx hb dX5_takesDigit_113 rfl (lv_at hl 4 rfl) ?_
            refine lv_iload hx hb dX5_takesDigit_114 (lv_at hl 0 rfl) ?_
            refine zif_eq (tgt := 124) hx hb dX5_takesDigit_116 (by decide) (fun c_71 => ?_) (fun c_71 => ?_)
            rotate_left
            · cases c_71
            refine lv_aload_n hx hb dX5_takesDigit_124 rfl (lv_at hl 4 rfl) ?_
            refine va_get (D := D) (ci := 5) (v := .int (M 9 0)) (C := RX5) (T := TX5) (N := 13) hx hb hts hinX5 hown hK.1 hP 0 rfl rfl 9 (by decide) (hts (.fieldLink RX5 159 "SaltSharesModel" "number" "I") (List.mem_of_getElem? (i := 4) rfl)) (fun _ h9 => h9) rfl dX5_takesDigit_125 ?_
            refine va_put (D := D) (ci := 5) (v := .int (M 9 0)) (ty := .int) (C := RX5) (T := TX5) (N := 13) hx hb hts hinX5 tyX5 tyX5_ok nmX5 hown hK.1 hP hD hS 0 rfl rfl 9 (by decide) (hts (.fieldLink RX5 159 "SaltSharesModel" "number" "I") (List.mem_of_getElem? (i := 4) rfl)) (fun _ h9 => h9) rfl (by decide +kernel) rfl rfl (Nat.le_of_ble_eq_true rfl) dX5_takesDigit_128 (fun H locs hP hD hS => ?_)
            have hP : va_P D vwCl (zB_X5 (g 0) u (zU M 9 (fun _ => (M 9 0))) w) H := hP
            have hD : va_D (zA (zB_X5 (g 0) u M w)) (zB_X5 (g 0) u (zU M 9 (fun _ => (M 9 0))) w) := hD
            refine lv_aload_n hx hb dX5_takesDigit_131 rfl (lv_at hl 4 rfl) ?_
            refine va_get (D := D) (ci := 5) (v := .ref (u 8)) (C := RX5) (T := TX5) (N := 13) hx hb hts hinX5 hown hK.1 hP 0 rfl rfl 7 (by decide) (hts (.fieldLink RX5 22 "SaltSharesModel" "parts" "[I") (List.mem_of_getElem? (i := 1) rfl)) (fun _ h9 => h9) rfl dX5_takesDigit_132 ?_
            refine lv_iconst (v := 3) hx hb dX5_takesDigit_135 (by decide) ?_
            refine lv_aload_n hx hb dX5_takesDigit_136 rfl (lv_at hl 4 rfl) ?_
            refine va_get (D := D) (ci := 5) (v := .int (M 8 0)) (C := RX5) (T := TX5) (N := 13) hx hb hts hinX5 hown hK.1 hP 0 rfl rfl 8 (by decide) (hts (.fieldLink RX5 156 "SaltSharesModel" "read" "I") (List.mem_of_getElem? (i := 2) rfl)) (fun _ h9 => h9) rfl dX5_takesDigit_137 ?_
            have w_72 := znat z0
            have w_72b := w_72.2
            refine lv_is w_72.1 ?_
            refine lv_imul hx hb dX5_takesDigit_140 ?_
            refine lv_is (show (3 : Int32) * (nI (Int32.toNatClampNeg (M 8 0))) = (nI (3 * (Int32.toNatClampNeg (M 8 0)))) from pk_mul 3 (Int32.toNatClampNeg (M 8 0))) ?_
            refine lv_iconst (v := 2) hx hb dX5_takesDigit_141 (by decide) ?_
            refine lv_iadd hx hb dX5_takesDigit_142 ?_
            refine lv_is (show (nI (3 * (Int32.toNatClampNeg (M 8 0)))) + 2 = (nI (3 * (Int32.toNatClampNeg (M 8 0)) + 2)) from nI_add (3 * (Int32.toNatClampNeg (M 8 0))) 2) ?_
            refine lv_aload_n hx hb dX5_takesDigit_143 rfl (lv_at hl 4 rfl) ?_
            refine va_get (D := D) (ci := 5) (v := .int (M 9 0)) (C := RX5) (T := TX5) (N := 13) hx hb hts hinX5 hown hK.1 hP 0 rfl rfl 9 (by decide) (hts (.fieldLink RX5 159 "SaltSharesModel" "number" "I") (List.mem_of_getElem? (i := 4) rfl)) (fun _ h9 => h9) rfl dX5_takesDigit_144 ?_
            refine z_iast (i := 3 * (Int32.toNatClampNeg (M 8 0)) + 2) (x := (M 9 0)) hx hb hK hP hD hS 5 0 rfl rfl (by omega) (by decide) dX5_takesDigit_147 (fun H locs hP hD hS => ?_)
            have hP : va_P D vwCl (zB_X5 (g 0) u (zU (zU M 9 (fun _ => (M 9 0))) 7 (upd (M 7) (3 * (Int32.toNatClampNeg (M 8 0)) + 2) (M 9 0))) w) H := hP
            have hD : va_D (zA (zB_X5 (g 0) u M w)) (zB_X5 (g 0) u (zU (zU M 9 (fun _ => (M 9 0))) 7 (upd (M 7) (3 * (Int32.toNatClampNeg (M 8 0)) + 2) (M 9 0))) w) := hD
            refine lv_iload hx hb dX5_takesDigit_148 (lv_at hl 0 rfl) ?_
            exact zretw_z (q' := false) hx hb hr hlocks dX5_takesDigit_150 hP hS (congrArg (fun z9 => z9.1) hq) (congrArg (fun z9 => zB_X5 (g 0) u z9.2 w) hq)
          · have c_70 : ¬ ((M 9 0) = 0) := c_70
            have hq := hq.trans (if_neg c_70)
            refine lv_iload hx hb dX5_takesDigit_88 (lv_at hl 0 rfl) ?_
            refine lv_iload_n hx hb dX5_takesDigit_90 rfl (lv_at hl 2 rfl) ?_
            refine zif_eq (tgt := 98) hx hb dX5_takesDigit_91 (by decide) (fun c_73 => ?_) (fun c_73 => ?_)
            · cases c_73
            refine lv_iconst (v := 1) hx hb dX5_takesDigit_94 (by decide) ?_
            refine lv_goto (tgt := 99) hx hb dX5_takesDigit_95 (by decide) ?_
            refine lv_iload_n hx hb dX5_takesDigit_99 rfl (lv_at hl 1 rfl) ?_
            refine zcSO (n := 3) (c_X5_within l D g (((10 : Int32) * (M 9 0)) + dg) 1 50) hx hb hml hown hts gX5_takesDigit_X5_within rfl ⟨by decide, by decide, by decide⟩ ⟨Nat.le_of_ble_eq_true rfl, Nat.le_of_ble_eq_true rfl⟩ ⟨rfl, rfl⟩ hK (hP.sub [] rfl) hl.1 rfl rfl (Nat.le_of_ble_eq_true rfl) ⟨Nat.zero_le _, Nat.zero_le _⟩ dX5_takesDigit_100 ?_
            refine zif_eq (tgt := 110) hx hb dX5_takesDigit_103 (by decide) (fun c_75 => ?_) (fun c_75 => ?_)
            · have hq := hq.trans (zif_f c_75)
              refine lv_iconst (v := 0) hx hb dX5_takesDigit_110 (by decide) ?_
              refine lv_is (show (0 : Int32) = bI false from rfl) ?_
              refine lv_istore (lv' := [(5, .int (bI false)), (4, .int (((10 : Int32) * (M 9 0)) + dg)), (3, .int 50), (2, .int (bI true)), (0, .ref (u 0)), (1, .int dg)]) hx hb dX5_takesDigit_111 hl (by decide) rfl (fun ls hl => ?_)
              refine lv_aload_n hx hb dX5_takesDigit_113 rfl (lv_at hl 4 rfl) ?_
              refine lv_iload hx hb dX5_takesDigit_114 (lv_at hl 0 rfl) ?_
              refine zif_eq (tgt := 124) hx hb dX5_takesDigit_116 (by decide) (fun c_76 => ?_) (fun c_76 => ?_)
              rotate_left
              · cases c_76
              refine lv_aload_n hx hb dX5_takesDigit_124 rfl (lv_at hl 4 rfl) ?_
              refine va_get (D := D) (ci := 5) (v := .int (M 9 0)) (C := RX5) (T := TX5) (N := 13) hx hb hts hinX5 hown hK.1 hP 0 rfl rfl 9 (by decide) (hts (.fieldLink RX5 159 "SaltSharesModel" "number" "I") (List.mem_of_getElem? (i := 4) rfl)) (fun _ h9 => h9) rfl dX5_takesDigit_125 ?_
              refine va_put (D := D) (ci := 5) (v := .int (M 9 0)) (ty := .int) (C := RX5) (T := TX5) (N := 13) hx hb hts hinX5 tyX5 tyX5_ok nmX5 hown hK.1 hP hD hS 0 rfl rfl 9 (by decide) (hts (.fieldLink RX5 159 "SaltSharesModel" "number" "I") (List.mem_of_getElem? (i := 4) rfl)) (fun _ h9 => h9) rfl (by decide +kernel) rfl rfl (Nat.le_of_ble_eq_true rfl) dX5_takesDigit_128 (fun H locs hP hD hS => ?_)
              have hP : va_P D vwCl (zB_X5 (g 0) u (zU M 9 (fun _ => (M 9 0))) w) H := hP
              have hD : va_D (zA (zB_X5 (g 0) u M w)) (zB_X5 (g 0) u (zU M 9 (fun _ => (M 9 0))) w) := hD
              refine lv_aload_n hx hb dX5_takesDigit_131 rfl (lv_at hl 4 rfl) ?_
              refine va_get (D := D) (ci := 5) (v := .ref (u 8)) (C := RX5) (T := TX5) (N := 13) hx hb hts hinX5 hown hK.1 hP 0 rfl rfl 7 (by decide) (hts (.fieldLink RX5 22 "SaltSharesModel" "parts" "[I") (List.mem_of_getElem? (i := 1) rfl)) (fun _ h9 => h9) rfl dX5_takesDigit_132 ?_
              refine lv_iconst (v := 3) hx hb dX5_takesDigit_135 (by decide) ?_
              refine lv_aload_n hx hb dX5_takesDigit_136 rfl (lv_at hl 4 rfl) ?_
              refine va_get (D := D) (ci := 5) (v := .int (M 8 0)) (C := RX5) (T := TX5) (N := 13) hx hb hts hinX5 hown hK.1 hP 0 rfl rfl 8 (by decide) (hts (.fieldLink RX5 156 "SaltSharesModel" "read" "I") (List.mem_of_getElem? (i := 2) rfl)) (fun _ h9 => h9) rfl dX5_takesDigit_137 ?_
              have w_77 := znat z0
              have w_77b := w_77.2
              refine lv_is w_77.1 ?_
              refine lv_imul hx hb dX5_takesDigit_140 ?_
              refine lv_is (show (3 : Int32) * (nI (Int32.toNatClampNeg (M 8 0))) = (nI (3 * (Int32.toNatClampNeg (M 8 0)))) from pk_mul 3 (Int32.toNatClampNeg (M 8 0))) ?_
              refine lv_iconst (v := 2) hx hb dX5_takesDigit_141 (by decide) ?_
              refine lv_iadd hx hb dX5_takesDigit_142 ?_
              refine lv_is (show (nI (3 * (Int32.toNatClampNeg (M 8 0)))) + 2 = (nI (3 * (Int32.toNatClampNeg (M 8 0)) + 2)) from nI_add (3 * (Int32.toNatClampNeg (M 8 0))) 2) ?_
              refine lv_aload_n hx hb dX5_takesDigit_143 rfl (lv_at hl 4 rfl) ?_
              refine va_get (D := D) (ci := 5) (v := .int (M 9 0)) (C := RX5) (T := TX5) (N := 13) hx hb hts hinX5 hown hK.1 hP 0 rfl rfl 9 (by decide) (hts (.fieldLink RX5 159 "SaltSharesModel" "number" "I") (List.mem_of_getElem? (i := 4) rfl)) (fun _ h9 => h9) rfl dX5_takesDigit_144 ?_
              refine z_iast (i := 3 * (Int32.toNatClampNeg (M 8 0)) + 2) (x := (M 9 0)) hx hb hK hP hD hS 5 0 rfl rfl (by omega) (by decide) dX5_takesDigit_147 (fun H locs hP hD hS => ?_)
              have hP : va_P D vwCl (zB_X5 (g 0) u (zU (zU M 9 (fun _ => (M 9 0))) 7 (upd (M 7) (3 * (Int32.toNatClampNeg (M 8 0)) + 2) (M 9 0))) w) H := hP
              have hD : va_D (zA (zB_X5 (g 0) u M w)) (zB_X5 (g 0) u (zU (zU M 9 (fun _ => (M 9 0))) 7 (upd (M 7) (3 * (Int32.toNatClampNeg (M 8 0)) + 2) (M 9 0))) w) := hD
              refine lv_iload hx hb dX5_takesDigit_148 (lv_at hl 0 rfl) ?_
              exact zretw_z (q' := false) hx hb hr hlocks dX5_takesDigit_150 hP hS (congrArg (fun z9 => z9.1) hq) (congrArg (fun z9 => zB_X5 (g 0) u z9.2 w) hq)
            · have hq := hq.trans (zif_t c_75)
              refine lv_iconst (v := 1) hx hb dX5_takesDigit_106 (by decide) ?_
              refine lv_goto (tgt := 111) hx hb dX5_takesDigit_107 (by decide) ?_
              refine lv_is (show (1 : Int32) = bI true from rfl) ?_
              refine lv_istore (lv' := [(5, .int (bI true)), (4, .int (((10 : Int32) * (M 9 0)) + dg)), (3, .int 50), (2, .int (bI true)), (0, .ref (u 0)), (1, .int dg)]) hx hb dX5_takesDigit_111 hl (by decide) rfl (fun ls hl => ?_)
              refine lv_aload_n hx hb dX5_takesDigit_113 rfl (lv_at hl 4 rfl) ?_
              refine lv_iload hx hb dX5_takesDigit_114 (lv_at hl 0 rfl) ?_
              refine zif_eq (tgt := 124) hx hb dX5_takesDigit_116 (by decide) (fun c_78 => ?_) (fun c_78 => ?_)
              · cases c_78
              refine lv_iload hx hb dX5_takesDigit_119 (lv_at hl 1 rfl) ?_
              refine lv_goto (tgt := 128) hx hb dX5_takesDigit_121 (by decide) ?_
              refine va_put (D := D) (ci := 5) (v := .int (((10 : Int32) * (M 9 0)) + dg)) (ty := .int) (C := RX5) (T := TX5) (N := 13) hx hb hts hinX5 tyX5 tyX5_ok nmX5 hown hK.1 hP hD hS 0 rfl rfl 9 (by decide) (hts (.fieldLink RX5 159 "SaltSharesModel" "number" "I") (List.mem_of_getElem? (i := 4) rfl)) (fun _ h9 => h9) rfl (by decide +kernel) rfl rfl (Nat.le_of_ble_eq_true rfl) dX5_takesDigit_128 (fun H locs hP hD hS => ?_)
              have hP : va_P D vwCl (zB_X5 (g 0) u (zU M 9 (fun _ => (((10 : Int32) * (M 9 0)) + dg))) w) H := hP
              have hD : va_D (zA (zB_X5 (g 0) u M w)) (zB_X5 (g 0) u (zU M 9 (fun _ => (((10 : Int32) * (M 9 0)) + dg))) w) := hD
              refine lv_aload_n hx hb dX5_takesDigit_131 rfl (lv_at hl 4 rfl) ?_
              refine va_get (D := D) (ci := 5) (v := .ref (u 8)) (C := RX5) (T := TX5) (N := 13) hx hb hts hinX5 hown hK.1 hP 0 rfl rfl 7 (by decide) (hts (.fieldLink RX5 22 "SaltSharesModel" "parts" "[I") (List.mem_of_getElem? (i := 1) rfl)) (fun _ h9 => h9) rfl dX5_takesDigit_132 ?_
              refine lv_iconst (v := 3) hx hb dX5_takesDigit_135 (by decide) ?_
              refine lv_aload_n hx hb dX5_takesDigit_136 rfl (lv_at hl 4 rfl) ?_
              refine va_get (D := D) (ci := 5) (v := .int (M 8 0)) (C := RX5) (T := TX5) (N := 13) hx hb hts hinX5 hown hK.1 hP 0 rfl rfl 8 (by decide) (hts (.fieldLink RX5 156 "SaltSharesModel" "read" "I") (List.mem_of_getElem? (i := 2) rfl)) (fun _ h9 => h9) rfl dX5_takesDigit_137 ?_
              have w_79 := znat z0
              have w_79b := w_79.2
              refine lv_is w_79.1 ?_
              refine lv_imul hx hb dX5_takesDigit_140 ?_
              refine lv_is (show (3 : Int32) * (nI (Int32.toNatClampNeg (M 8 0))) = (nI (3 * (Int32.toNatClampNeg (M 8 0)))) from pk_mul 3 (Int32.toNatClampNeg (M 8 0))) ?_
              refine lv_iconst (v := 2) hx hb dX5_takesDigit_141 (by decide) ?_
              refine lv_iadd hx hb dX5_takesDigit_142 ?_
              refine lv_is (show (nI (3 * (Int32.toNatClampNeg (M 8 0)))) + 2 = (nI (3 * (Int32.toNatClampNeg (M 8 0)) + 2)) from nI_add (3 * (Int32.toNatClampNeg (M 8 0))) 2) ?_
              refine lv_aload_n hx hb dX5_takesDigit_143 rfl (lv_at hl 4 rfl) ?_
              refine va_get (D := D) (ci := 5) (v := .int (((10 : Int32) * (M 9 0)) + dg)) (C := RX5) (T := TX5) (N := 13) hx hb hts hinX5 hown hK.1 hP 0 rfl rfl 9 (by decide) (hts (.fieldLink RX5 159 "SaltSharesModel" "number" "I") (List.mem_of_getElem? (i := 4) rfl)) (fun _ h9 => h9) rfl dX5_takesDigit_144 ?_
              refine z_iast (i := 3 * (Int32.toNatClampNeg (M 8 0)) + 2) (x := (((10 : Int32) * (M 9 0)) + dg)) hx hb hK hP hD hS 5 0 rfl rfl (by omega) (by decide) dX5_takesDigit_147 (fun H locs hP hD hS => ?_)
              have hP : va_P D vwCl (zB_X5 (g 0) u (zU (zU M 9 (fun _ => (((10 : Int32) * (M 9 0)) + dg))) 7 (upd (M 7) (3 * (Int32.toNatClampNeg (M 8 0)) + 2) (((10 : Int32) * (M 9 0)) + dg))) w) H := hP
              have hD : va_D (zA (zB_X5 (g 0) u M w)) (zB_X5 (g 0) u (zU (zU M 9 (fun _ => (((10 : Int32) * (M 9 0)) + dg))) 7 (upd (M 7) (3 * (Int32.toNatClampNeg (M 8 0)) + 2) (((10 : Int32) * (M 9 0)) + dg))) w) := hD
              refine lv_iload hx hb dX5_takesDigit_148 (lv_at hl 0 rfl) ?_
              exact zretw_z (q' := true) hx hb hr hlocks dX5_takesDigit_150 hP hS (congrArg (fun z9 => z9.1) hq) (congrArg (fun z9 => zB_X5 (g 0) u z9.2 w) hq)
      · have c_65 : (M 9 0) = (-1) := c_65
        have hq := hq.trans (if_pos c_65)
        refine lv_iload_n hx hb dX5_takesDigit_56 rfl (lv_at hl 3 rfl) ?_
        refine lv_goto (tgt := 69) hx hb dX5_takesDigit_57 (by decide) ?_
        refine lv_istore (lv' := [(4, .int dg), (3, .int 50), (2, .int (bI true)), (0, .ref (u 0)), (1, .int dg)]) hx hb dX5_takesDigit_69 hl (by decide) rfl (fun ls hl => ?_)
        refine lv_iload_n hx hb dX5_takesDigit_71 rfl (lv_at hl 4 rfl) ?_
        refine lv_iconst (v := 0) hx hb dX5_takesDigit_72 (by decide) ?_
        refine lv_bipush (v := 9) hx hb dX5_takesDigit_73 (by decide) ?_
        refine zcSO (n := 3) (c_X5_within l D g dg 0 9) hx hb hml hown hts gX5_takesDigit_X5_within rfl ⟨by decide, by decide, by decide⟩ ⟨Nat.le_of_ble_eq_true rfl, Nat.le_of_ble_eq_true rfl⟩ ⟨rfl, rfl⟩ hK (hP.sub [] rfl) hl.1 rfl rfl (Nat.le_of_ble_eq_true rfl) ⟨Nat.zero_le _, Nat.zero_le _⟩ dX5_takesDigit_75 ?_
        refine zif_eq (tgt := 110) hx hb dX5_takesDigit_78 (by decide) (fun c_81 => ?_) (fun c_81 => ?_)
        · have hq := hq.trans (zif_f c_81)
          refine lv_iconst (v := 0) hx hb dX5_takesDigit_110 (by decide) ?_
          refine lv_is (show (0 : Int32) = bI false from rfl) ?_
          refine lv_istore (lv' := [(5, .int (bI false)), (4, .int dg), (3, .int 50), (2, .int (bI true)), (0, .ref (u 0)), (1, .int dg)]) hx hb dX5_takesDigit_111 hl (by decide) rfl (fun ls hl => ?_)
          refine lv_aload_n hx hb dX5_takesDigit_113 rfl (lv_at hl 4 rfl) ?_
          refine lv_iload hx hb dX5_takesDigit_114 (lv_at hl 0 rfl) ?_
          refine zif_eq (tgt := 124) hx hb dX5_takesDigit_116 (by decide) (fun c_82 => ?_) (fun c_82 => ?_)
          rotate_left
          · cases c_82
          refine lv_aload_n hx hb dX5_takesDigit_124 rfl (lv_at hl 4 rfl) ?_
          refine va_get (D := D) (ci := 5) (v := .int (M 9 0)) (C := RX5) (T := TX5) (N := 13) hx hb hts hinX5 hown hK.1 hP 0 rfl rfl 9 (by decide) (hts (.fieldLink RX5 159 "SaltSharesModel" "number" "I") (List.mem_of_getElem? (i := 4) rfl)) (fun _ h9 => h9) rfl dX5_takesDigit_125 ?_
          refine va_put (D := D) (ci := 5) (v := .int (M 9 0)) (ty := .int) (C := RX5) (T := TX5) (N := 13) hx hb hts hinX5 tyX5 tyX5_ok nmX5 hown hK.1 hP hD hS 0 rfl rfl 9 (by decide) (hts (.fieldLink RX5 159 "SaltSharesModel" "number" "I") (List.mem_of_getElem? (i := 4) rfl)) (fun _ h9 => h9) rfl (by decide +kernel) rfl rfl (Nat.le_of_ble_eq_true rfl) dX5_takesDigit_128 (fun H locs hP hD hS => ?_)
          have hP : va_P D vwCl (zB_X5 (g 0) u (zU M 9 (fun _ => (M 9 0))) w) H := hP
          have hD : va_D (zA (zB_X5 (g 0) u M w)) (zB_X5 (g 0) u (zU M 9 (fun _ => (M 9 0))) w) := hD
          refine lv_aload_n hx hb dX5_takesDigit_131 rfl (lv_at hl 4 rfl) ?_
          refine va_get (D := D) (ci := 5) (v := .ref (u 8)) (C := RX5) (T := TX5) (N := 13) hx hb hts hinX5 hown hK.1 hP 0 rfl rfl 7 (by decide) (hts (.fieldLink RX5 22 "SaltSharesModel" "parts" "[I") (List.mem_of_getElem? (i := 1) rfl)) (fun _ h9 => h9) rfl dX5_takesDigit_132 ?_
          refine lv_iconst (v := 3) hx hb dX5_takesDigit_135 (by decide) ?_
          refine lv_aload_n hx hb dX5_takesDigit_136 rfl (lv_at hl 4 rfl) ?_
          refine va_get (D := D) (ci := 5) (v := .int (M 8 0)) (C := RX5) (T := TX5) (N := 13) hx hb hts hinX5 hown hK.1 hP 0 rfl rfl 8 (by decide) (hts (.fieldLink RX5 156 "SaltSharesModel" "read" "I") (List.mem_of_getElem? (i := 2) rfl)) (fun _ h9 => h9) rfl dX5_takesDigit_137 ?_
          have w_83 := znat z0
          have w_83b := w_83.2
          refine lv_is w_83.1 ?_
          refine lv_imul hx hb dX5_takesDigit_140 ?_
          refine lv_is (show (3 : Int32) * (nI (Int32.toNatClampNeg (M 8 0))) = (nI (3 * (Int32.toNatClampNeg (M 8 0)))) from pk_mul 3 (Int32.toNatClampNeg (M 8 0))) ?_
          refine lv_iconst (v := 2) hx hb dX5_takesDigit_141 (by decide) ?_
          refine lv_iadd hx hb dX5_takesDigit_142 ?_
          refine lv_is (show (nI (3 * (Int32.toNatClampNeg (M 8 0)))) + 2 = (nI (3 * (Int32.toNatClampNeg (M 8 0)) + 2)) from nI_add (3 * (Int32.toNatClampNeg (M 8 0))) 2) ?_
          refine lv_aload_n hx hb dX5_takesDigit_143 rfl (lv_at hl 4 rfl) ?_
          refine va_get (D := D) (ci := 5) (v := .int (M 9 0)) (C := RX5) (T := TX5) (N := 13) hx hb hts hinX5 hown hK.1 hP 0 rfl rfl 9 (by decide) (hts (.fieldLink RX5 159 "SaltSharesModel" "number" "I") (List.mem_of_getElem? (i := 4) rfl)) (fun _ h9 => h9) rfl dX5_takesDigit_144 ?_
          refine z_iast (i := 3 * (Int32.toNatClampNeg (M 8 0)) + 2) (x := (M 9 0)) hx hb hK hP hD hS 5 0 rfl rfl (by omega) (by decide) dX5_takesDigit_147 (fun H locs hP hD hS => ?_)
          have hP : va_P D vwCl (zB_X5 (g 0) u (zU (zU M 9 (fun _ => (M 9 0))) 7 (upd (M 7) (3 * (Int32.toNatClampNeg (M 8 0)) + 2) (M 9 0))) w) H := hP
          have hD : va_D (zA (zB_X5 (g 0) u M w)) (zB_X5 (g 0) u (zU (zU M 9 (fun _ => (M 9 0))) 7 (upd (M 7) (3 * (Int32.toNatClampNeg (M 8 0)) + 2) (M 9 0))) w) := hD
          refine lv_iload hx hb dX5_takesDigit_148 (lv_at hl 0 rfl) ?_
          exact zretw_z (q' := false) hx hb hr hlocks dX5_takesDigit_150 hP hS (congrArg (fun z9 => z9.1) hq) (congrArg (fun z9 => zB_X5 (g 0) u z9.2 w) hq)
        · have hq := hq.trans (zif_t c_81)
          refine lv_aload_n hx hb dX5_takesDigit_81 rfl (lv_at hl 3 rfl) ?_
          refine va_get (D := D) (ci := 5) (v := .int (M 9 0)) (C := RX5) (T := TX5) (N := 13) hx hb hts hinX5 hown hK.1 hP 0 rfl rfl 9 (by decide) (hts (.fieldLink RX5 159 "SaltSharesModel" "number" "I") (List.mem_of_getElem? (i := 4) rfl)) (fun _ h9 => h9) rfl dX5_takesDigit_82 ?_
          refine lv_if_eq (tgt := 110) hx hb dX5_takesDigit_85 (by decide) (fun c_84 => ?_) (fun c_84 => ?_)
          · have c_84 : (M 9 0) = 0 := c_84
            have hq := hq.trans (if_pos c_84)
            refine lv_iconst (v := 0) hx hb dX5_takesDigit_110 (by decide) ?_
            refine lv_is (show (0 : Int32) = bI false from rfl) ?_
            refine lv_istore (lv' := [(5, .int (bI false)), (4, .int dg), (3, .int 50), (2, .int (bI true)), (0, .ref (u 0)), (1, .int dg)]) hx hb dX5_takesDigit_111 hl (by decide) rfl (fun ls hl => ?_)
            refine lv_aload_n hx hb dX5_takesDigit_113 rfl (lv_at hl 4 rfl) ?_
            refine lv_iload hx hb dX5_takesDigit_114 (lv_at hl 0 rfl) ?_
            refine zif_eq (tgt := 124) hx hb dX5_takesDigit_116 (by decide) (fun c_85 => ?_) (fun c_85 => ?_)
            rotate_left
            · cases c_85
            refine lv_aload_n hx hb dX5_takesDigit_124 rfl (lv_at hl 4 rfl) ?_
            refine va_get (D := D) (ci := 5) (v := .int (M 9 0)) (C := RX5) (T := TX5) (N := 13) hx hb hts hinX5 hown hK.1 hP 0 rfl rfl 9 (by decide) (hts (.fieldLink RX5 159 "SaltSharesModel" "number" "I") (List.mem_of_getElem? (i := 4) rfl)) (fun _ h9 => h9) rfl dX5_takesDigit_125 ?_
            refine va_put (D := D) (ci := 5) (v := .int (M 9 0)) (ty := .int) (C := RX5) (T := TX5) (N := 13) hx hb hts hinX5 tyX5 tyX5_ok nmX5 hown hK.1 hP hD hS 0 rfl rfl 9 (by decide) (hts (.fieldLink RX5 159 "SaltSharesModel" "number" "I") (List.mem_of_getElem? (i := 4) rfl)) (fun _ h9 => h9) rfl (by decide +kernel) rfl rfl (Nat.le_of_ble_eq_true rfl) dX5_takesDigit_128 (fun H locs hP hD hS => ?_)
            have hP : va_P D vwCl (zB_X5 (g 0) u (zU M 9 (fun _ => (M 9 0))) w) H := hP
            have hD : va_D (zA (zB_X5 (g 0) u M w)) (zB_X5 (g 0) u (zU M 9 (fun _ => (M 9 0))) w) := hD
            refine lv_aload_n hx hb dX5_takesDigit_131 rfl (lv_at hl 4 rfl) ?_
            refine va_get (D := D) (ci := 5) (v := .ref (u 8)) (C := RX5) (T := TX5) (N := 13) hx hb hts hinX5 hown hK.1 hP 0 rfl rfl 7 (by decide) (hts (.fieldLink RX5 22 "SaltSharesModel" "parts" "[I") (List.mem_of_getElem? (i := 1) rfl)) (fun _ h9 => h9) rfl dX5_takesDigit_132 ?_
            refine lv_iconst (v := 3) hx hb dX5_takesDigit_135 (by decide) ?_
            refine lv_aload_n hx hb dX5_takesDigit_136 rfl (lv_at hl 4 rfl) ?_
            refine va_get (D := D) (ci := 5) (v := .int (M 8 0)) (C := RX5) (T := TX5) (N := 13) hx hb hts hinX5 hown hK.1 hP 0 rfl rfl 8 (by decide) (hts (.fieldLink RX5 156 "SaltSharesModel" "read" "I") (List.mem_of_getElem? (i := 2) rfl)) (fun _ h9 => h9) rfl dX5_takesDigit_137 ?_
            have w_86 := znat z0
            have w_86b := w_86.2
            refine lv_is w_86.1 ?_
            refine lv_imul hx hb dX5_takesDigit_140 ?_
            refine lv_is (show (3 : Int32) * (nI (Int32.toNatClampNeg (M 8 0))) = (nI (3 * (Int32.toNatClampNeg (M 8 0)))) from pk_mul 3 (Int32.toNatClampNeg (M 8 0))) ?_
            refine lv_iconst (v := 2) hx hb dX5_takesDigit_141 (by decide) ?_
            refine lv_iadd hx hb dX5_takesDigit_142 ?_
            refine lv_is (show (nI (3 * (Int32.toNatClampNeg (M 8 0)))) + 2 = (nI (3 * (Int32.toNatClampNeg (M 8 0)) + 2)) from nI_add (3 * (Int32.toNatClampNeg (M 8 0))) 2) ?_
            refine lv_aload_n hx hb dX5_takesDigit_143 rfl (lv_at hl 4 rfl) ?_
            refine va_get (D := D) (ci := 5) (v := .int (M 9 0)) (C := RX5) (T := TX5) (N := 13) hx hb hts hinX5 hown hK.1 hP 0 rfl rfl 9 (by decide) (hts (.fieldLink RX5 159 "SaltSharesModel" "number" "I") (List.mem_of_getElem? (i := 4) rfl)) (fun _ h9 => h9) rfl dX5_takesDigit_144 ?_
            refine z_iast (i := 3 * (Int32.toNatClampNeg (M 8 0)) + 2) (x := (M 9 0)) hx hb hK hP hD hS 5 0 rfl rfl (by omega) (by decide) dX5_takesDigit_147 (fun H locs hP hD hS => ?_)
            have hP : va_P D vwCl (zB_X5 (g 0) u (zU (zU M 9 (fun _ => (M 9 0))) 7 (upd (M 7) (3 * (Int32.toNatClampNeg (M 8 0)) + 2) (M 9 0))) w) H := hP
            have hD : va_D (zA (zB_X5 (g 0) u M w)) (zB_X5 (g 0) u (zU (zU M 9 (fun _ => (M 9 0))) 7 (upd (M 7) (3 * (Int32.toNatClampNeg (M 8 0)) + 2) (M 9 0))) w) := hD
            refine lv_iload hx hb dX5_takesDigit_148 (lv_at hl 0 rfl) ?_
            exact zretw_z (q' := false) hx hb hr hlocks dX5_takesDigit_150 hP hS (congrArg (fun z9 => z9.1) hq) (congrArg (fun z9 => zB_X5 (g 0) u z9.2 w) hq)
          · have c_84 : ¬ ((M 9 0) = 0) := c_84
            have hq := hq.trans (if_neg c_84)
            refine lv_iload hx hb dX5_takesDigit_88 (lv_at hl 0 rfl) ?_
            refine lv_iload_n hx hb dX5_takesDigit_90 rfl (lv_at hl 2 rfl) ?_
            refine zif_eq (tgt := 98) hx hb dX5_takesDigit_91 (by decide) (fun c_87 => ?_) (fun c_87 => ?_)
            · cases c_87
            refine lv_iconst (v := 1) hx hb dX5_takesDigit_94 (by decide) ?_
            refine lv_goto (tgt := 99) hx hb dX5_takesDigit_95 (by decide) ?_
            refine lv_iload_n hx hb dX5_takesDigit_99 rfl (lv_at hl 1 rfl) ?_
            refine zcSO (n := 3) (c_X5_within l D g dg 1 50) hx hb hml hown hts gX5_takesDigit_X5_within rfl ⟨by decide, by decide, by decide⟩ ⟨Nat.le_of_ble_eq_true rfl, Nat.le_of_ble_eq_true rfl⟩ ⟨rfl, rfl⟩ hK (hP.sub [] rfl) hl.1 rfl rfl (Nat.le_of_ble_eq_true rfl) ⟨Nat.zero_le _, Nat.zero_le _⟩ dX5_takesDigit_100 ?_
            refine zif_eq (tgt := 110) hx hb dX5_takesDigit_103 (by decide) (fun c_89 => ?_) (fun c_89 => ?_)
            · have hq := hq.trans (zif_f c_89)
              refine lv_iconst (v := 0) hx hb dX5_takesDigit_110 (by decide) ?_
              refine lv_is (show (0 : Int32) = bI false from rfl) ?_
              refine lv_istore (lv' := [(5, .int (bI false)), (4, .int dg), (3, .int 50), (2, .int (bI true)), (0, .ref (u 0)), (1, .int dg)]) hx hb dX5_takesDigit_111 hl (by decide) rfl (fun ls hl => ?_)
              refine lv_aload_n hx hb dX5_takesDigit_113 rfl (lv_at hl 4 rfl) ?_
              refine lv_iload hx hb dX5_takesDigit_114 (lv_at hl 0 rfl) ?_
              refine zif_eq (tgt := 124) hx hb dX5_takesDigit_116 (by decide) (fun c_90 => ?_) (fun c_90 => ?_)
              rotate_left
              · cases c_90
              refine lv_aload_n hx hb dX5_takesDigit_124 rfl (lv_at hl 4 rfl) ?_
              refine va_get (D := D) (ci := 5) (v := .int (M 9 0)) (C := RX5) (T := TX5) (N := 13) hx hb hts hinX5 hown hK.1 hP 0 rfl rfl 9 (by decide) (hts (.fieldLink RX5 159 "SaltSharesModel" "number" "I") (List.mem_of_getElem? (i := 4) rfl)) (fun _ h9 => h9) rfl dX5_takesDigit_125 ?_
              refine va_put (D := D) (ci := 5) (v := .int (M 9 0)) (ty := .int) (C := RX5) (T := TX5) (N := 13) hx hb hts hinX5 tyX5 tyX5_ok nmX5 hown hK.1 hP hD hS 0 rfl rfl 9 (by decide) (hts (.fieldLink RX5 159 "SaltSharesModel" "number" "I") (List.mem_of_getElem? (i := 4) rfl)) (fun _ h9 => h9) rfl (by decide +kernel) rfl rfl (Nat.le_of_ble_eq_true rfl) dX5_takesDigit_128 (fun H locs hP hD hS => ?_)
              have hP : va_P D vwCl (zB_X5 (g 0) u (zU M 9 (fun _ => (M 9 0))) w) H := hP
              have hD : va_D (zA (zB_X5 (g 0) u M w)) (zB_X5 (g 0) u (zU M 9 (fun _ => (M 9 0))) w) := hD
              refine lv_aload_n hx hb dX5_takesDigit_131 rfl (lv_at hl 4 rfl) ?_
              refine va_get (D := D) (ci := 5) (v := .ref (u 8)) (C := RX5) (T := TX5) (N := 13) hx hb hts hinX5 hown hK.1 hP 0 rfl rfl 7 (by decide) (hts (.fieldLink RX5 22 "SaltSharesModel" "parts" "[I") (List.mem_of_getElem? (i := 1) rfl)) (fun _ h9 => h9) rfl dX5_takesDigit_132 ?_
              refine lv_iconst (v := 3) hx hb dX5_takesDigit_135 (by decide) ?_
              refine lv_aload_n hx hb dX5_takesDigit_136 rfl (lv_at hl 4 rfl) ?_
              refine va_get (D := D) (ci := 5) (v := .int (M 8 0)) (C := RX5) (T := TX5) (N := 13) hx hb hts hinX5 hown hK.1 hP 0 rfl rfl 8 (by decide) (hts (.fieldLink RX5 156 "SaltSharesModel" "read" "I") (List.mem_of_getElem? (i := 2) rfl)) (fun _ h9 => h9) rfl dX5_takesDigit_137 ?_
              have w_91 := znat z0
              have w_91b := w_91.2
              refine lv_is w_91.1 ?_
              refine lv_imul hx hb dX5_takesDigit_140 ?_
              refine lv_is (show (3 : Int32) * (nI (Int32.toNatClampNeg (M 8 0))) = (nI (3 * (Int32.toNatClampNeg (M 8 0)))) from pk_mul 3 (Int32.toNatClampNeg (M 8 0))) ?_
              refine lv_iconst (v := 2) hx hb dX5_takesDigit_141 (by decide) ?_
              refine lv_iadd hx hb dX5_takesDigit_142 ?_
              refine lv_is (show (nI (3 * (Int32.toNatClampNeg (M 8 0)))) + 2 = (nI (3 * (Int32.toNatClampNeg (M 8 0)) + 2)) from nI_add (3 * (Int32.toNatClampNeg (M 8 0))) 2) ?_
              refine lv_aload_n hx hb dX5_takesDigit_143 rfl (lv_at hl 4 rfl) ?_
              refine va_get (D := D) (ci := 5) (v := .int (M 9 0)) (C := RX5) (T := TX5) (N := 13) hx hb hts hinX5 hown hK.1 hP 0 rfl rfl 9 (by decide) (hts (.fieldLink RX5 159 "SaltSharesModel" "number" "I") (List.mem_of_getElem? (i := 4) rfl)) (fun _ h9 => h9) rfl dX5_takesDigit_144 ?_
              refine z_iast (i := 3 * (Int32.toNatClampNeg (M 8 0)) + 2) (x := (M 9 0)) hx hb hK hP hD hS 5 0 rfl rfl (by omega) (by decide) dX5_takesDigit_147 (fun H locs hP hD hS => ?_)
              have hP : va_P D vwCl (zB_X5 (g 0) u (zU (zU M 9 (fun _ => (M 9 0))) 7 (upd (M 7) (3 * (Int32.toNatClampNeg (M 8 0)) + 2) (M 9 0))) w) H := hP
              have hD : va_D (zA (zB_X5 (g 0) u M w)) (zB_X5 (g 0) u (zU (zU M 9 (fun _ => (M 9 0))) 7 (upd (M 7) (3 * (Int32.toNatClampNeg (M 8 0)) + 2) (M 9 0))) w) := hD
              refine lv_iload hx hb dX5_takesDigit_148 (lv_at hl 0 rfl) ?_
              exact zretw_z (q' := false) hx hb hr hlocks dX5_takesDigit_150 hP hS (congrArg (fun z9 => z9.1) hq) (congrArg (fun z9 => zB_X5 (g 0) u z9.2 w) hq)
            · have hq := hq.trans (zif_t c_89)
              refine lv_iconst (v := 1) hx hb dX5_takesDigit_106 (by decide) ?_
              refine lv_goto (tgt := 111) hx hb dX5_takesDigit_107 (by decide) ?_
              refine lv_is (show (1 : Int32) = bI true from rfl) ?_
              refine lv_istore (lv' := [(5, .int (bI true)), (4, .int dg), (3, .int 50), (2, .int (bI true)), (0, .ref (u 0)), (1, .int dg)]) hx hb dX5_takesDigit_111 hl (by decide) rfl (fun ls hl => ?_)
              refine lv_aload_n hx hb dX5_takesDigit_113 rfl (lv_at hl 4 rfl) ?_
              refine lv_iload hx hb dX5_takesDigit_114 (lv_at hl 0 rfl) ?_
              refine zif_eq (tgt := 124) hx hb dX5_takesDigit_116 (by decide) (fun c_92 => ?_) (fun c_92 => ?_)
              · cases c_92
              refine lv_iload hx hb dX5_takesDigit_119 (lv_at hl 1 rfl) ?_
              refine lv_goto (tgt := 128) hx hb dX5_takesDigit_121 (by decide) ?_
              refine va_put (D := D) (ci := 5) (v := .int dg) (ty := .int) (C := RX5) (T := TX5) (N := 13) hx hb hts hinX5 tyX5 tyX5_ok nmX5 hown hK.1 hP hD hS 0 rfl rfl 9 (by decide) (hts (.fieldLink RX5 159 "SaltSharesModel" "number" "I") (List.mem_of_getElem? (i := 4) rfl)) (fun _ h9 => h9) rfl (by decide +kernel) rfl rfl (Nat.le_of_ble_eq_true rfl) dX5_takesDigit_128 (fun H locs hP hD hS => ?_)
              have hP : va_P D vwCl (zB_X5 (g 0) u (zU M 9 (fun _ => dg)) w) H := hP
              have hD : va_D (zA (zB_X5 (g 0) u M w)) (zB_X5 (g 0) u (zU M 9 (fun _ => dg)) w) := hD
              refine lv_aload_n hx hb dX5_takesDigit_131 rfl (lv_at hl 4 rfl) ?_
              refine va_get (D := D) (ci := 5) (v := .ref (u 8)) (C := RX5) (T := TX5) (N := 13) hx hb hts hinX5 hown hK.1 hP 0 rfl rfl 7 (by decide) (hts (.fieldLink RX5 22 "SaltSharesModel" "parts" "[I") (List.mem_of_getElem? (i := 1) rfl)) (fun _ h9 => h9) rfl dX5_takesDigit_132 ?_
              refine lv_iconst (v := 3) hx hb dX5_takesDigit_135 (by decide) ?_
              refine lv_aload_n hx hb dX5_takesDigit_136 rfl (lv_at hl 4 rfl) ?_
              refine va_get (D := D) (ci := 5) (v := .int (M 8 0)) (C := RX5) (T := TX5) (N := 13) hx hb hts hinX5 hown hK.1 hP 0 rfl rfl 8 (by decide) (hts (.fieldLink RX5 156 "SaltSharesModel" "read" "I") (List.mem_of_getElem? (i := 2) rfl)) (fun _ h9 => h9) rfl dX5_takesDigit_137 ?_
              have w_93 := znat z0
              have w_93b := w_93.2
              refine lv_is w_93.1 ?_
              refine lv_imul hx hb dX5_takesDigit_140 ?_
              refine lv_is (show (3 : Int32) * (nI (Int32.toNatClampNeg (M 8 0))) = (nI (3 * (Int32.toNatClampNeg (M 8 0)))) from pk_mul 3 (Int32.toNatClampNeg (M 8 0))) ?_
              refine lv_iconst (v := 2) hx hb dX5_takesDigit_141 (by decide) ?_
              refine lv_iadd hx hb dX5_takesDigit_142 ?_
              refine lv_is (show (nI (3 * (Int32.toNatClampNeg (M 8 0)))) + 2 = (nI (3 * (Int32.toNatClampNeg (M 8 0)) + 2)) from nI_add (3 * (Int32.toNatClampNeg (M 8 0))) 2) ?_
              refine lv_aload_n hx hb dX5_takesDigit_143 rfl (lv_at hl 4 rfl) ?_
              refine va_get (D := D) (ci := 5) (v := .int dg) (C := RX5) (T := TX5) (N := 13) hx hb hts hinX5 hown hK.1 hP 0 rfl rfl 9 (by decide) (hts (.fieldLink RX5 159 "SaltSharesModel" "number" "I") (List.mem_of_getElem? (i := 4) rfl)) (fun _ h9 => h9) rfl dX5_takesDigit_144 ?_
              refine z_iast (i := 3 * (Int32.toNatClampNeg (M 8 0)) + 2) (x := dg) hx hb hK hP hD hS 5 0 rfl rfl (by omega) (by decide) dX5_takesDigit_147 (fun H locs hP hD hS => ?_)
              have hP : va_P D vwCl (zB_X5 (g 0) u (zU (zU M 9 (fun _ => dg)) 7 (upd (M 7) (3 * (Int32.toNatClampNeg (M 8 0)) + 2) dg)) w) H := hP
              have hD : va_D (zA (zB_X5 (g 0) u M w)) (zB_X5 (g 0) u (zU (zU M 9 (fun _ => dg)) 7 (upd (M 7) (3 * (Int32.toNatClampNeg (M 8 0)) + 2) dg)) w) := hD
              refine lv_iload hx hb dX5_takesDigit_148 (lv_at hl 0 rfl) ?_
              exact zretw_z (q' := true) hx hb hr hlocks dX5_takesDigit_150 hP hS (congrArg (fun z9 => z9.1) hq) (congrArg (fun z9 => zB_X5 (g 0) u z9.2 w) hq)
    · have c_63 : (M 10 0) = 4 := c_63
      have hq := hq.trans (if_pos c_63)
      refine lv_sipush (v := 149) hx hb dX5_takesDigit_30 (by decide) ?_
      refine lv_goto (tgt := 47) hx hb dX5_takesDigit_33 (by decide) ?_
      refine lv_istore_n (lv' := [(3, .int 149), (2, .int (bI true)), (0, .ref (u 0)), (1, .int dg)]) hx hb dX5_takesDigit_47 rfl hl (by decide) rfl (fun ls hl => ?_)
      refine lv_aload_n hx hb dX5_takesDigit_48 rfl (lv_at hl 2 rfl) ?_
      refine va_get (D := D) (ci := 5) (v := .int (M 9 0)) (C := RX5) (T := TX5) (N := 13) hx hb hts hinX5 hown hK.1 hP 0 rfl rfl 9 (by decide) (hts (.fieldLink RX5 159 "SaltSharesModel" "number" "I") (List.mem_of_getElem? (i := 4) rfl)) (fun _ h9 => h9) rfl dX5_takesDigit_49 ?_
      refine lv_iconst (v := (-1)) hx hb dX5_takesDigit_52 (by decide) ?_
      refine lv_icmp_ne (tgt := 60) hx hb dX5_takesDigit_53 (by decide) (fun c_94 => ?_) (fun c_94 => ?_)
      · have c_94 : ¬ ((M 9 0) = (-1)) := c_94
        have hq := hq.trans (if_neg c_94)
        refine lv_bipush (v := 10) hx hb dX5_takesDigit_60 (by decide) ?_
        refine lv_aload_n hx hb dX5_takesDigit_62 rfl (lv_at hl 2 rfl) ?_
        refine va_get (D := D) (ci := 5) (v := .int (M 9 0)) (C := RX5) (T := TX5) (N := 13) hx hb hts hinX5 hown hK.1 hP 0 rfl rfl 9 (by decide) (hts (.fieldLink RX5 159 "SaltSharesModel" "number" "I") (List.mem_of_getElem? (i := 4) rfl)) (fun _ h9 => h9) rfl dX5_takesDigit_63 ?_
        refine lv_imul hx hb dX5_takesDigit_66 ?_
        refine lv_iload_n hx hb dX5_takesDigit_67 rfl (lv_at hl 3 rfl) ?_
        refine lv_iadd hx hb dX5_takesDigit_68 ?_
        refine lv_istore (lv' := [(4, .int (((10 : Int32) * (M 9 0)) + dg)), (3, .int 149), (2, .int (bI true)), (0, .ref (u 0)), (1, .int dg)]) hx hb dX5_takesDigit_69 hl (by decide) rfl (fun ls hl => ?_)
        refine lv_iload_n hx hb dX5_takesDigit_71 rfl (lv_at hl 4 rfl) ?_
        refine lv_iconst (v := 0) hx hb dX5_takesDigit_72 (by decide) ?_
        refine lv_bipush (v := 9) hx hb dX5_takesDigit_73 (by decide) ?_
        refine zcSO (n := 3) (c_X5_within l D g dg 0 9) hx hb hml hown hts gX5_takesDigit_X5_within rfl ⟨by decide, by decide, by decide⟩ ⟨Nat.le_of_ble_eq_true rfl, Nat.le_of_ble_eq_true rfl⟩ ⟨rfl, rfl⟩ hK (hP.sub [] rfl) hl.1 rfl rfl (Nat.le_of_ble_eq_true rfl) ⟨Nat.zero_le _, Nat.zero_le _⟩ dX5_takesDigit_75 ?_
        refine zif_eq (tgt := 110) hx hb dX5_takesDigit_78 (by decide) (fun c_96 => ?_) (fun c_96 => ?_)
        · have hq := hq.trans (zif_f c_96)
          refine lv_iconst (v := 0) hx hb dX5_takesDigit_110 (by decide) ?_
          refine lv_is (show (0 : Int32) = bI false from rfl) ?_
          refine lv_istore (lv' := [(5, .int (bI false)), (4, .int (((10 : Int32) * (M 9 0)) + dg)), (3, .int 149), (2, .int (bI true)), (0, .ref (u 0)), (1, .int dg)]) hx hb dX5_takesDigit_111 hl (by decide) rfl (fun ls hl => ?_)
          refine lv_aload_n hx hb dX5_takesDigit_113 rfl (lv_at hl 4 rfl) ?_
          refine lv_iload hx hb dX5_takesDigit_114 (lv_at hl 0 rfl) ?_
          refine zif_eq (tgt := 124) hx hb dX5_takesDigit_116 (by decide) (fun c_97 => ?_) (fun c_97 => ?_)
          rotate_left
          · cases c_97
          refine lv_aload_n hx hb dX5_takesDigit_124 rfl (lv_at hl 4 rfl) ?_
          refine va_get (D := D) (ci := 5) (v := .int (M 9 0)) (C := RX5) (T := TX5) (N := 13) hx hb hts hinX5 hown hK.1 hP 0 rfl rfl 9 (by decide) (hts (.fieldLink RX5 159 "SaltSharesModel" "number" "I") (List.mem_of_getElem? (i := 4) rfl)) (fun _ h9 => h9) rfl dX5_takesDigit_125 ?_
          refine va_put (D := D) (ci := 5) (v := .int (M 9 0)) (ty := .int) (C := RX5) (T := TX5) (N := 13) hx hb hts hinX5 tyX5 tyX5_ok nmX5 hown hK.1 hP hD hS 0 rfl rfl 9 (by decide) (hts (.fieldLink RX5 159 "SaltSharesModel" "number" "I") (List.mem_of_getElem? (i := 4) rfl)) (fun _ h9 => h9) rfl (by decide +kernel) rfl rfl (Nat.le_of_ble_eq_true rfl) dX5_takesDigit_128 (fun H locs hP hD hS => ?_)
          have hP : va_P D vwCl (zB_X5 (g 0) u (zU M 9 (fun _ => (M 9 0))) w) H := hP
          have hD : va_D (zA (zB_X5 (g 0) u M w)) (zB_X5 (g 0) u (zU M 9 (fun _ => (M 9 0))) w) := hD
          refine lv_aload_n hx hb dX5_takesDigit_131 rfl (lv_at hl 4 rfl) ?_
          refine va_get (D := D) (ci := 5) (v := .ref (u 8)) (C := RX5) (T := TX5) (N := 13) hx hb hts hinX5 hown hK.1 hP 0 rfl rfl 7 (by decide) (hts (.fieldLink RX5 22 "SaltSharesModel" "parts" "[I") (List.mem_of_getElem? (i := 1) rfl)) (fun _ h9 => h9) rfl dX5_takesDigit_132 ?_
          refine lv_iconst (v := 3) hx hb dX5_takesDigit_135 (by decide) ?_
          refine lv_aload_n hx hb dX5_takesDigit_136 rfl (lv_at hl 4 rfl) ?_
          refine va_get (D := D) (ci := 5) (v := .int (M 8 0)) (C := RX5) (T := TX5) (N := 13) hx hb hts hinX5 hown hK.1 hP 0 rfl rfl 8 (by decide) (hts (.fieldLink RX5 156 "SaltSharesModel" "read" "I") (List.mem_of_getElem? (i := 2) rfl)) (fun _ h9 => h9) rfl dX5_takesDigit_137 ?_
          have w_98 := znat z0
          have w_98b := w_98.2
          refine lv_is w_98.1 ?_
          refine lv_imul hx hb dX5_takesDigit_140 ?_
          refine lv_is (show (3 : Int32) * (nI (Int32.toNatClampNeg (M 8 0))) = (nI (3 * (Int32.toNatClampNeg (M 8 0)))) from pk_mul 3 (Int32.toNatClampNeg (M 8 0))) ?_
          refine lv_iconst (v := 2) hx hb dX5_takesDigit_141 (by decide) ?_
          refine lv_iadd hx hb dX5_takesDigit_142 ?_
          refine lv_is (show (nI (3 * (Int32.toNatClampNeg (M 8 0)))) + 2 = (nI (3 * (Int32.toNatClampNeg (M 8 0)) + 2)) from nI_add (3 * (Int32.toNatClampNeg (M 8 0))) 2) ?_
          refine lv_aload_n hx hb dX5_takesDigit_143 rfl (lv_at hl 4 rfl) ?_
          refine va_get (D := D) (ci := 5) (v := .int (M 9 0)) (C := RX5) (T := TX5) (N := 13) hx hb hts hinX5 hown hK.1 hP 0 rfl rfl 9 (by decide) (hts (.fieldLink RX5 159 "SaltSharesModel" "number" "I") (List.mem_of_getElem? (i := 4) rfl)) (fun _ h9 => h9) rfl dX5_takesDigit_144 ?_
          refine z_iast (i := 3 * (Int32.toNatClampNeg (M 8 0)) + 2) (x := (M 9 0)) hx hb hK hP hD hS 5 0 rfl rfl (by omega) (by decide) dX5_takesDigit_147 (fun H locs hP hD hS => ?_)
          have hP : va_P D vwCl (zB_X5 (g 0) u (zU (zU M 9 (fun _ => (M 9 0))) 7 (upd (M 7) (3 * (Int32.toNatClampNeg (M 8 0)) + 2) (M 9 0))) w) H := hP
          have hD : va_D (zA (zB_X5 (g 0) u M w)) (zB_X5 (g 0) u (zU (zU M 9 (fun _ => (M 9 0))) 7 (upd (M 7) (3 * (Int32.toNatClampNeg (M 8 0)) + 2) (M 9 0))) w) := hD
          refine lv_iload hx hb dX5_takesDigit_148 (lv_at hl 0 rfl) ?_
          exact zretw_z (q' := false) hx hb hr hlocks dX5_takesDigit_150 hP hS (congrArg (fun z9 => z9.1) hq) (congrArg (fun z9 => zB_X5 (g 0) u z9.2 w) hq)
        · have hq := hq.trans (zif_t c_96)
          refine lv_aload_n hx hb dX5_takesDigit_81 rfl (lv_at hl 3 rfl) ?_
          refine va_get (D := D) (ci := 5) (v := .int (M 9 0)) (C := RX5) (T := TX5) (N := 13) hx hb hts hinX5 hown hK.1 hP 0 rfl rfl 9 (by decide) (hts (.fieldLink RX5 159 "SaltSharesModel" "number" "I") (List.mem_of_getElem? (i := 4) rfl)) (fun _ h9 => h9) rfl dX5_takesDigit_82 ?_
          refine lv_if_eq (tgt := 110) hx hb dX5_takesDigit_85 (by decide) (fun c_99 => ?_) (fun c_99 => ?_)
          · have c_99 : (M 9 0) = 0 := c_99
            have hq := hq.trans (if_pos c_99)
            refine lv_iconst (v := 0) hx hb dX5_takesDigit_110 (by decide) ?_
            refine lv_is (show (0 : Int32) = bI false from rfl) ?_
            refine lv_istore (lv' := [(5, .int (bI false)), (4, .int (((10 : Int32) * (M 9 0)) + dg)), (3, .int 149), (2, .int (bI true)), (0, .ref (u 0)), (1, .int dg)]) hx hb dX5_takesDigit_111 hl (by decide) rfl (fun ls hl => ?_)
            refine lv_aload_n hx hb dX5_takesDigit_113 rfl (lv_at hl 4 rfl) ?_
            refine lv_iload hx hb dX5_takesDigit_114 (lv_at hl 0 rfl) ?_
            refine zif_eq (tgt := 124) hx hb dX5_takesDigit_116 (by decide) (fun c_100 => ?_) (fun c_100 => ?_)
            rotate_left
            · cases c_100
            refine lv_aload_n hx hb dX5_takesDigit_124 rfl (lv_at hl 4 rfl) ?_
            refine va_get (D := D) (ci := 5) (v := .int (M 9 0)) (C := RX5) (T := TX5) (N := 13) hx hb hts hinX5 hown hK.1 hP 0 rfl rfl 9 (by decide) (hts (.fieldLink RX5 159 "SaltSharesModel" "number" "I") (List.mem_of_getElem? (i := 4) rfl)) (fun _ h9 => h9) rfl dX5_takesDigit_125 ?_
            refine va_put (D := D) (ci := 5) (v := .int (M 9 0)) (ty := .int) (C := RX5) (T := TX5) (N := 13) hx hb hts hinX5 tyX5 tyX5_ok nmX5 hown hK.1 hP hD hS 0 rfl rfl 9 (by decide) (hts (.fieldLink RX5 159 "SaltSharesModel" "number" "I") (List.mem_of_getElem? (i := 4) rfl)) (fun _ h9 => h9) rfl (by decide +kernel) rfl rfl (Nat.le_of_ble_eq_true rfl) dX5_takesDigit_128 (fun H locs hP hD hS => ?_)
            have hP : va_P D vwCl (zB_X5 (g 0) u (zU M 9 (fun _ => (M 9 0))) w) H := hP
            have hD : va_D (zA (zB_X5 (g 0) u M w)) (zB_X5 (g 0) u (zU M 9 (fun _ => (M 9 0))) w) := hD
            refine lv_aload_n hx hb dX5_takesDigit_131 rfl (lv_at hl 4 rfl) ?_
            refine va_get (D := D) (ci := 5) (v := .ref (u 8)) (C := RX5) (T := TX5) (N := 13) hx hb hts hinX5 hown hK.1 hP 0 rfl rfl 7 (by decide) (hts (.fieldLink RX5 22 "SaltSharesModel" "parts" "[I") (List.mem_of_getElem? (i := 1) rfl)) (fun _ h9 => h9) rfl dX5_takesDigit_132 ?_
            refine lv_iconst (v := 3) hx hb dX5_takesDigit_135 (by decide) ?_
            refine lv_aload_n hx hb dX5_takesDigit_136 rfl (lv_at hl 4 rfl) ?_
            refine va_get (D := D) (ci := 5) (v := .int (M 8 0)) (C := RX5) (T := TX5) (N := 13) hx hb hts hinX5 hown hK.1 hP 0 rfl rfl 8 (by decide) (hts (.fieldLink RX5 156 "SaltSharesModel" "read" "I") (List.mem_of_getElem? (i := 2) rfl)) (fun _ h9 => h9) rfl dX5_takesDigit_137 ?_
            have w_101 := znat z0
            have w_101b := w_101.2
            refine lv_is w_101.1 ?_
            refine lv_imul hx hb dX5_takesDigit_140 ?_
            refine lv_is (show (3 : Int32) * (nI (Int32.toNatClampNeg (M 8 0))) = (nI (3 * (Int32.toNatClampNeg (M 8 0)))) from pk_mul 3 (Int32.toNatClampNeg (M 8 0))) ?_
            refine lv_iconst (v := 2) hx hb dX5_takesDigit_141 (by decide) ?_
            refine lv_iadd hx hb dX5_takesDigit_142 ?_
            refine lv_is (show (nI (3 * (Int32.toNatClampNeg (M 8 0)))) + 2 = (nI (3 * (Int32.toNatClampNeg (M 8 0)) + 2)) from nI_add (3 * (Int32.toNatClampNeg (M 8 0))) 2) ?_
            refine lv_aload_n hx hb dX5_takesDigit_143 rfl (lv_at hl 4 rfl) ?_
            refine va_get (D := D) (ci := 5) (v := .int (M 9 0)) (C := RX5) (T := TX5) (N := 13) hx hb hts hinX5 hown hK.1 hP 0 rfl rfl 9 (by decide) (hts (.fieldLink RX5 159 "SaltSharesModel" "number" "I") (List.mem_of_getElem? (i := 4) rfl)) (fun _ h9 => h9) rfl dX5_takesDigit_144 ?_
            refine z_iast (i := 3 * (Int32.toNatClampNeg (M 8 0)) + 2) (x := (M 9 0)) hx hb hK hP hD hS 5 0 rfl rfl (by omega) (by decide) dX5_takesDigit_147 (fun H locs hP hD hS => ?_)
            have hP : va_P D vwCl (zB_X5 (g 0) u (zU (zU M 9 (fun _ => (M 9 0))) 7 (upd (M 7) (3 * (Int32.toNatClampNeg (M 8 0)) + 2) (M 9 0))) w) H := hP
            have hD : va_D (zA (zB_X5 (g 0) u M w)) (zB_X5 (g 0) u (zU (zU M 9 (fun _ => (M 9 0))) 7 (upd (M 7) (3 * (Int32.toNatClampNeg (M 8 0)) + 2) (M 9 0))) w) := hD
            refine lv_iload hx hb dX5_takesDigit_148 (lv_at hl 0 rfl) ?_
            exact zretw_z (q' := false) hx hb hr hlocks dX5_takesDigit_150 hP hS (congrArg (fun z9 => z9.1) hq) (congrArg (fun z9 => zB_X5 (g 0) u z9.2 w) hq)
          · have c_99 : ¬ ((M 9 0) = 0) := c_99
            have hq := hq.trans (if_neg c_99)
            refine lv_iload hx hb dX5_takesDigit_88 (lv_at hl 0 rfl) ?_
            refine lv_iload_n hx hb dX5_takesDigit_90 rfl (lv_at hl 2 rfl) ?_
            refine zif_eq (tgt := 98) hx hb dX5_takesDigit_91 (by decide) (fun c_102 => ?_) (fun c_102 => ?_)
            · cases c_102
            refine lv_iconst (v := 1) hx hb dX5_takesDigit_94 (by decide) ?_
            refine lv_goto (tgt := 99) hx hb dX5_takesDigit_95 (by decide) ?_
            refine lv_iload_n hx hb dX5_takesDigit_99 rfl (lv_at hl 1 rfl) ?_
            refine zcSO (n := 3) (c_X5_within l D g (((10 : Int32) * (M 9 0)) + dg) 1 149) hx hb hml hown hts gX5_takesDigit_X5_within rfl ⟨by decide, by decide, by decide⟩ ⟨Nat.le_of_ble_eq_true rfl, Nat.le_of_ble_eq_true rfl⟩ ⟨rfl, rfl⟩ hK (hP.sub [] rfl) hl.1 rfl rfl (Nat.le_of_ble_eq_true rfl) ⟨Nat.zero_le _, Nat.zero_le _⟩ dX5_takesDigit_100 ?_
            refine zif_eq (tgt := 110) hx hb dX5_takesDigit_103 (by decide) (fun c_104 => ?_) (fun c_104 => ?_)
            · have hq := hq.trans (zif_f c_104)
              refine lv_iconst (v := 0) hx hb dX5_takesDigit_110 (by decide) ?_
              refine lv_is (show (0 : Int32) = bI false from rfl) ?_
              refine lv_istore (lv' := [(5, .int (bI false)), (4, .int (((10 : Int32) * (M 9 0)) + dg)), (3, .int 149), (2, .int (bI true)), (0, .ref (u 0)), (1, .int dg)]) hx hb dX5_takesDigit_111 hl (by decide) rfl (fun ls hl => ?_)
              refine lv_aload_n hx hb dX5_takesDigit_113 rfl (lv_at hl 4 rfl) ?_
              refine lv_iload hx hb dX5_takesDigit_114 (lv_at hl 0 rfl) ?_
              refine zif_eq (tgt := 124) hx hb dX5_takesDigit_116 (by decide) (fun c_105 => ?_) (fun c_105 => ?_)
              rotate_left
              · cases c_105
              refine lv_aload_n hx hb dX5_takesDigit_124 rfl (lv_at hl 4 rfl) ?_
              refine va_get (D := D) (ci := 5) (v := .int (M 9 0)) (C := RX5) (T := TX5) (N := 13) hx hb hts hinX5 hown hK.1 hP 0 rfl rfl 9 (by decide) (hts (.fieldLink RX5 159 "SaltSharesModel" "number" "I") (List.mem_of_getElem? (i := 4) rfl)) (fun _ h9 => h9) rfl dX5_takesDigit_125 ?_
              refine va_put (D := D) (ci := 5) (v := .int (M 9 0)) (ty := .int) (C := RX5) (T := TX5) (N := 13) hx hb hts hinX5 tyX5 tyX5_ok nmX5 hown hK.1 hP hD hS 0 rfl rfl 9 (by decide) (hts (.fieldLink RX5 159 "SaltSharesModel" "number" "I") (List.mem_of_getElem? (i := 4) rfl)) (fun _ h9 => h9) rfl (by decide +kernel) rfl rfl (Nat.le_of_ble_eq_true rfl) dX5_takesDigit_128 (fun H locs hP hD hS => ?_)
              have hP : va_P D vwCl (zB_X5 (g 0) u (zU M 9 (fun _ => (M 9 0))) w) H := hP
              have hD : va_D (zA (zB_X5 (g 0) u M w)) (zB_X5 (g 0) u (zU M 9 (fun _ => (M 9 0))) w) := hD
              refine lv_aload_n hx hb dX5_takesDigit_131 rfl (lv_at hl 4 rfl) ?_
              refine va_get (D := D) (ci := 5) (v := .ref (u 8)) (C := RX5) (T := TX5) (N := 13) hx hb hts hinX5 hown hK.1 hP 0 rfl rfl 7 (by decide) (hts (.fieldLink RX5 22 "SaltSharesModel" "parts" "[I") (List.mem_of_getElem? (i := 1) rfl)) (fun _ h9 => h9) rfl dX5_takesDigit_132 ?_
              refine lv_iconst (v := 3) hx hb dX5_takesDigit_135 (by decide) ?_
              refine lv_aload_n hx hb dX5_takesDigit_136 rfl (lv_at hl 4 rfl) ?_
              refine va_get (D := D) (ci := 5) (v := .int (M 8 0)) (C := RX5) (T := TX5) (N := 13) hx hb hts hinX5 hown hK.1 hP 0 rfl rfl 8 (by decide) (hts (.fieldLink RX5 156 "SaltSharesModel" "read" "I") (List.mem_of_getElem? (i := 2) rfl)) (fun _ h9 => h9) rfl dX5_takesDigit_137 ?_
              have w_106 := znat z0
              have w_106b := w_106.2
              refine lv_is w_106.1 ?_
              refine lv_imul hx hb dX5_takesDigit_140 ?_
              refine lv_is (show (3 : Int32) * (nI (Int32.toNatClampNeg (M 8 0))) = (nI (3 * (Int32.toNatClampNeg (M 8 0)))) from pk_mul 3 (Int32.toNatClampNeg (M 8 0))) ?_
              refine lv_iconst (v := 2) hx hb dX5_takesDigit_141 (by decide) ?_
              refine lv_iadd hx hb dX5_takesDigit_142 ?_
              refine lv_is (show (nI (3 * (Int32.toNatClampNeg (M 8 0)))) + 2 = (nI (3 * (Int32.toNatClampNeg (M 8 0)) + 2)) from nI_add (3 * (Int32.toNatClampNeg (M 8 0))) 2) ?_
              refine lv_aload_n hx hb dX5_takesDigit_143 rfl (lv_at hl 4 rfl) ?_
              refine va_get (D := D) (ci := 5) (v := .int (M 9 0)) (C := RX5) (T := TX5) (N := 13) hx hb hts hinX5 hown hK.1 hP 0 rfl rfl 9 (by decide) (hts (.fieldLink RX5 159 "SaltSharesModel" "number" "I") (List.mem_of_getElem? (i := 4) rfl)) (fun _ h9 => h9) rfl dX5_takesDigit_144 ?_
              refine z_iast (i := 3 * (Int32.toNatClampNeg (M 8 0)) + 2) (x := (M 9 0)) hx hb hK hP hD hS 5 0 rfl rfl (by omega) (by decide) dX5_takesDigit_147 (fun H locs hP hD hS => ?_)
              have hP : va_P D vwCl (zB_X5 (g 0) u (zU (zU M 9 (fun _ => (M 9 0))) 7 (upd (M 7) (3 * (Int32.toNatClampNeg (M 8 0)) + 2) (M 9 0))) w) H := hP
              have hD : va_D (zA (zB_X5 (g 0) u M w)) (zB_X5 (g 0) u (zU (zU M 9 (fun _ => (M 9 0))) 7 (upd (M 7) (3 * (Int32.toNatClampNeg (M 8 0)) + 2) (M 9 0))) w) := hD
              refine lv_iload hx hb dX5_takesDigit_148 (lv_at hl 0 rfl) ?_
              exact zretw_z (q' := false) hx hb hr hlocks dX5_takesDigit_150 hP hS (congrArg (fun z9 => z9.1) hq) (congrArg (fun z9 => zB_X5 (g 0) u z9.2 w) hq)
            · have hq := hq.trans (zif_t c_104)
              refine lv_iconst (v := 1) hx hb dX5_takesDigit_106 (by decide) ?_
              refine lv_goto (tgt := 111) hx hb dX5_takesDigit_107 (by decide) ?_
              refine lv_is (show (1 : Int32) = bI true from rfl) ?_
              refine lv_istore (lv' := [(5, .int (bI true)), (4, .int (((10 : Int32) * (M 9 0)) + dg)), (3, .int 149), (2, .int (bI true)), (0, .ref (u 0)), (1, .int dg)]) hx hb dX5_takesDigit_111 hl (by decide) rfl (fun ls hl => ?_)
              refine lv_aload_n hx hb dX5_takesDigit_113 rfl (lv_at hl 4 rfl) ?_
              refine lv_iload hx hb dX5_takesDigit_114 (lv_at hl 0 rfl) ?_
              refine zif_eq (tgt := 124) hx hb dX5_takesDigit_116 (by decide) (fun c_107 => ?_) (fun c_107 => ?_)
              · cases c_107
              refine lv_iload hx hb dX5_takesDigit_119 (lv_at hl 1 rfl) ?_
              refine lv_goto (tgt := 128) hx hb dX5_takesDigit_121 (by decide) ?_
              refine va_put (D := D) (ci := 5) (v := .int (((10 : Int32) * (M 9 0)) + dg)) (ty := .int) (C := RX5) (T := TX5) (N := 13) hx hb hts hinX5 tyX5 tyX5_ok nmX5 hown hK.1 hP hD hS 0 rfl rfl 9 (by decide) (hts (.fieldLink RX5 159 "SaltSharesModel" "number" "I") (List.mem_of_getElem? (i := 4) rfl)) (fun _ h9 => h9) rfl (by decide +kernel) rfl rfl (Nat.le_of_ble_eq_true rfl) dX5_takesDigit_128 (fun H locs hP hD hS => ?_)
              have hP : va_P D vwCl (zB_X5 (g 0) u (zU M 9 (fun _ => (((10 : Int32) * (M 9 0)) + dg))) w) H := hP
              have hD : va_D (zA (zB_X5 (g 0) u M w)) (zB_X5 (g 0) u (zU M 9 (fun _ => (((10 : Int32) * (M 9 0)) + dg))) w) := hD
              refine lv_aload_n hx hb dX5_takesDigit_131 rfl (lv_at hl 4 rfl) ?_
              refine va_get (D := D) (ci := 5) (v := .ref (u 8)) (C := RX5) (T := TX5) (N := 13) hx hb hts hinX5 hown hK.1 hP 0 rfl rfl 7 (by decide) (hts (.fieldLink RX5 22 "SaltSharesModel" "parts" "[I") (List.mem_of_getElem? (i := 1) rfl)) (fun _ h9 => h9) rfl dX5_takesDigit_132 ?_
              refine lv_iconst (v := 3) hx hb dX5_takesDigit_135 (by decide) ?_
              refine lv_aload_n hx hb dX5_takesDigit_136 rfl (lv_at hl 4 rfl) ?_
              refine va_get (D := D) (ci := 5) (v := .int (M 8 0)) (C := RX5) (T := TX5) (N := 13) hx hb hts hinX5 hown hK.1 hP 0 rfl rfl 8 (by decide) (hts (.fieldLink RX5 156 "SaltSharesModel" "read" "I") (List.mem_of_getElem? (i := 2) rfl)) (fun _ h9 => h9) rfl dX5_takesDigit_137 ?_
              have w_108 := znat z0
              have w_108b := w_108.2
              refine lv_is w_108.1 ?_
              refine lv_imul hx hb dX5_takesDigit_140 ?_
              refine lv_is (show (3 : Int32) * (nI (Int32.toNatClampNeg (M 8 0))) = (nI (3 * (Int32.toNatClampNeg (M 8 0)))) from pk_mul 3 (Int32.toNatClampNeg (M 8 0))) ?_
              refine lv_iconst (v := 2) hx hb dX5_takesDigit_141 (by decide) ?_
              refine lv_iadd hx hb dX5_takesDigit_142 ?_
              refine lv_is (show (nI (3 * (Int32.toNatClampNeg (M 8 0)))) + 2 = (nI (3 * (Int32.toNatClampNeg (M 8 0)) + 2)) from nI_add (3 * (Int32.toNatClampNeg (M 8 0))) 2) ?_
              refine lv_aload_n hx hb dX5_takesDigit_143 rfl (lv_at hl 4 rfl) ?_
              refine va_get (D := D) (ci := 5) (v := .int (((10 : Int32) * (M 9 0)) + dg)) (C := RX5) (T := TX5) (N := 13) hx hb hts hinX5 hown hK.1 hP 0 rfl rfl 9 (by decide) (hts (.fieldLink RX5 159 "SaltSharesModel" "number" "I") (List.mem_of_getElem? (i := 4) rfl)) (fun _ h9 => h9) rfl dX5_takesDigit_144 ?_
              refine z_iast (i := 3 * (Int32.toNatClampNeg (M 8 0)) + 2) (x := (((10 : Int32) * (M 9 0)) + dg)) hx hb hK hP hD hS 5 0 rfl rfl (by omega) (by decide) dX5_takesDigit_147 (fun H locs hP hD hS => ?_)
              have hP : va_P D vwCl (zB_X5 (g 0) u (zU (zU M 9 (fun _ => (((10 : Int32) * (M 9 0)) + dg))) 7 (upd (M 7) (3 * (Int32.toNatClampNeg (M 8 0)) + 2) (((10 : Int32) * (M 9 0)) + dg))) w) H := hP
              have hD : va_D (zA (zB_X5 (g 0) u M w)) (zB_X5 (g 0) u (zU (zU M 9 (fun _ => (((10 : Int32) * (M 9 0)) + dg))) 7 (upd (M 7) (3 * (Int32.toNatClampNeg (M 8 0)) + 2) (((10 : Int32) * (M 9 0)) + dg))) w) := hD
              refine lv_iload hx hb dX5_takesDigit_148 (lv_at hl 0 rfl) ?_
              exact zretw_z (q' := true) hx hb hr hlocks dX5_takesDigit_150 hP hS (congrArg (fun z9 => z9.1) hq) (congrArg (fun z9 => zB_X5 (g 0) u z9.2 w) hq)
      · have c_94 : (M 9 0) = (-1) := c_94
        have hq := hq.trans (if_pos c_94)
        refine lv_iload_n hx hb dX5_takesDigit_56 rfl (lv_at hl 3 rfl) ?_
        refine lv_goto (tgt := 69) hx hb dX5_takesDigit_57 (by decide) ?_
        refine lv_istore (lv' := [(4, .int dg), (3, .int 149), (2, .int (bI true)), (0, .ref (u 0)), (1, .int dg)]) hx hb dX5_takesDigit_69 hl (by decide) rfl (fun ls hl => ?_)
        refine lv_iload_n hx hb dX5_takesDigit_71 rfl (lv_at hl 4 rfl) ?_
        refine lv_iconst (v := 0) hx hb dX5_takesDigit_72 (by decide) ?_
        refine lv_bipush (v := 9) hx hb dX5_takesDigit_73 (by decide) ?_
        refine zcSO (n := 3) (c_X5_within l D g dg 0 9) hx hb hml hown hts gX5_takesDigit_X5_within rfl ⟨by decide, by decide, by decide⟩ ⟨Nat.le_of_ble_eq_true rfl, Nat.le_of_ble_eq_true rfl⟩ ⟨rfl, rfl⟩ hK (hP.sub [] rfl) hl.1 rfl rfl (Nat.le_of_ble_eq_true rfl) ⟨Nat.zero_le _, Nat.zero_le _⟩ dX5_takesDigit_75 ?_
        refine zif_eq (tgt := 110) hx hb dX5_takesDigit_78 (by decide) (fun c_110 => ?_) (fun c_110 => ?_)
        · have hq := hq.trans (zif_f c_110)
          refine lv_iconst (v := 0) hx hb dX5_takesDigit_110 (by decide) ?_
          refine lv_is (show (0 : Int32) = bI false from rfl) ?_
          refine lv_istore (lv' := [(5, .int (bI false)), (4, .int dg), (3, .int 149), (2, .int (bI true)), (0, .ref (u 0)), (1, .int dg)]) hx hb dX5_takesDigit_111 hl (by decide) rfl (fun ls hl => ?_)
          refine lv_aload_n hx hb dX5_takesDigit_113 rfl (lv_at hl 4 rfl) ?_
          refine lv_iload hx hb dX5_takesDigit_114 (lv_at hl 0 rfl) ?_
          refine zif_eq (tgt := 124) hx hb dX5_takesDigit_116 (by decide) (fun c_111 => ?_) (fun c_111 => ?_)
          rotate_left
          · cases c_111
          refine lv_aload_n hx hb dX5_takesDigit_124 rfl (lv_at hl 4 rfl) ?_
          refine va_get (D := D) (ci := 5) (v := .int (M 9 0)) (C := RX5) (T := TX5) (N := 13) hx hb hts hinX5 hown hK.1 hP 0 rfl rfl 9 (by decide) (hts (.fieldLink RX5 159 "SaltSharesModel" "number" "I") (List.mem_of_getElem? (i := 4) rfl)) (fun _ h9 => h9) rfl dX5_takesDigit_125 ?_
          refine va_put (D := D) (ci := 5) (v := .int (M 9 0)) (ty := .int) (C := RX5) (T := TX5) (N := 13) hx hb hts hinX5 tyX5 tyX5_ok nmX5 hown hK.1 hP hD hS 0 rfl rfl 9 (by decide) (hts (.fieldLink RX5 159 "SaltSharesModel" "number" "I") (List.mem_of_getElem? (i := 4) rfl)) (fun _ h9 => h9) rfl (by decide +kernel) rfl rfl (Nat.le_of_ble_eq_true rfl) dX5_takesDigit_128 (fun H locs hP hD hS => ?_)
          have hP : va_P D vwCl (zB_X5 (g 0) u (zU M 9 (fun _ => (M 9 0))) w) H := hP
          have hD : va_D (zA (zB_X5 (g 0) u M w)) (zB_X5 (g 0) u (zU M 9 (fun _ => (M 9 0))) w) := hD
          refine lv_aload_n hx hb dX5_takesDigit_131 rfl (lv_at hl 4 rfl) ?_
          refine va_get (D := D) (ci := 5) (v := .ref (u 8)) (C := RX5) (T := TX5) (N := 13) hx hb hts hinX5 hown hK.1 hP 0 rfl rfl 7 (by decide) (hts (.fieldLink RX5 22 "SaltSharesModel" "parts" "[I") (List.mem_of_getElem? (i := 1) rfl)) (fun _ h9 => h9) rfl dX5_takesDigit_132 ?_
          refine lv_iconst (v := 3) hx hb dX5_takesDigit_135 (by decide) ?_
          refine lv_aload_n hx hb dX5_takesDigit_136 rfl (lv_at hl 4 rfl) ?_
          refine va_get (D := D) (ci := 5) (v := .int (M 8 0)) (C := RX5) (T := TX5) (N := 13) hx hb hts hinX5 hown hK.1 hP 0 rfl rfl 8 (by decide) (hts (.fieldLink RX5 156 "SaltSharesModel" "read" "I") (List.mem_of_getElem? (i := 2) rfl)) (fun _ h9 => h9) rfl dX5_takesDigit_137 ?_
          have w_112 := znat z0
          have w_112b := w_112.2
          refine lv_is w_112.1 ?_
          refine lv_imul hx hb dX5_takesDigit_140 ?_
          refine lv_is (show (3 : Int32) * (nI (Int32.toNatClampNeg (M 8 0))) = (nI (3 * (Int32.toNatClampNeg (M 8 0)))) from pk_mul 3 (Int32.toNatClampNeg (M 8 0))) ?_
          refine lv_iconst (v := 2) hx hb dX5_takesDigit_141 (by decide) ?_
          refine lv_iadd hx hb dX5_takesDigit_142 ?_
          refine lv_is (show (nI (3 * (Int32.toNatClampNeg (M 8 0)))) + 2 = (nI (3 * (Int32.toNatClampNeg (M 8 0)) + 2)) from nI_add (3 * (Int32.toNatClampNeg (M 8 0))) 2) ?_
          refine lv_aload_n hx hb dX5_takesDigit_143 rfl (lv_at hl 4 rfl) ?_
          refine va_get (D := D) (ci := 5) (v := .int (M 9 0)) (C := RX5) (T := TX5) (N := 13) hx hb hts hinX5 hown hK.1 hP 0 rfl rfl 9 (by decide) (hts (.fieldLink RX5 159 "SaltSharesModel" "number" "I") (List.mem_of_getElem? (i := 4) rfl)) (fun _ h9 => h9) rfl dX5_takesDigit_144 ?_
          refine z_iast (i := 3 * (Int32.toNatClampNeg (M 8 0)) + 2) (x := (M 9 0)) hx hb hK hP hD hS 5 0 rfl rfl (by omega) (by decide) dX5_takesDigit_147 (fun H locs hP hD hS => ?_)
          have hP : va_P D vwCl (zB_X5 (g 0) u (zU (zU M 9 (fun _ => (M 9 0))) 7 (upd (M 7) (3 * (Int32.toNatClampNeg (M 8 0)) + 2) (M 9 0))) w) H := hP
          have hD : va_D (zA (zB_X5 (g 0) u M w)) (zB_X5 (g 0) u (zU (zU M 9 (fun _ => (M 9 0))) 7 (upd (M 7) (3 * (Int32.toNatClampNeg (M 8 0)) + 2) (M 9 0))) w) := hD
          refine lv_iload hx hb dX5_takesDigit_148 (lv_at hl 0 rfl) ?_
          exact zretw_z (q' := false) hx hb hr hlocks dX5_takesDigit_150 hP hS (congrArg (fun z9 => z9.1) hq) (congrArg (fun z9 => zB_X5 (g 0) u z9.2 w) hq)
        · have hq := hq.trans (zif_t c_110)
          refine lv_aload_n hx hb dX5_takesDigit_81 rfl (lv_at hl 3 rfl) ?_
          refine va_get (D := D) (ci := 5) (v := .int (M 9 0)) (C := RX5) (T := TX5) (N := 13) hx hb hts hinX5 hown hK.1 hP 0 rfl rfl 9 (by decide) (hts (.fieldLink RX5 159 "SaltSharesModel" "number" "I") (List.mem_of_getElem? (i := 4) rfl)) (fun _ h9 => h9) rfl dX5_takesDigit_82 ?_
          refine lv_if_eq (tgt := 110) hx hb dX5_takesDigit_85 (by decide) (fun c_113 => ?_) (fun c_113 => ?_)
          · have c_113 : (M 9 0) = 0 := c_113
            have hq := hq.trans (if_pos c_113)
            refine lv_iconst (v := 0) hx hb dX5_takesDigit_110 (by decide) ?_
            refine lv_is (show (0 : Int32) = bI false from rfl) ?_
            refine lv_istore (lv' := [(5, .int (bI false)), (4, .int dg), (3, .int 149), (2, .int (bI true)), (0, .ref (u 0)), (1, .int dg)]) hx hb dX5_takesDigit_111 hl (by decide) rfl (fun ls hl => ?_)
            refine lv_aload_n hx hb dX5_takesDigit_113 rfl (lv_at hl 4 rfl) ?_
            refine lv_iload hx hb dX5_takesDigit_114 (lv_at hl 0 rfl) ?_
            refine zif_eq (tgt := 124) hx hb dX5_takesDigit_116 (by decide) (fun c_114 => ?_) (fun c_114 => ?_)
            rotate_left
            · cases c_114
            refine lv_aload_n hx hb dX5_takesDigit_124 rfl (lv_at hl 4 rfl) ?_
            refine va_get (D := D) (ci := 5) (v := .int (M 9 0)) (C := RX5) (T := TX5) (N := 13) hx hb hts hinX5 hown hK.1 hP 0 rfl rfl 9 (by decide) (hts (.fieldLink RX5 159 "SaltSharesModel" "number" "I") (List.mem_of_getElem? (i := 4) rfl)) (fun _ h9 => h9) rfl dX5_takesDigit_125 ?_
            refine va_put (D := D) (ci := 5) (v := .int (M 9 0)) (ty := .int) (C := RX5) (T := TX5) (N := 13) hx hb hts hinX5 tyX5 tyX5_ok nmX5 hown hK.1 hP hD hS 0 rfl rfl 9 (by decide) (hts (.fieldLink RX5 159 "SaltSharesModel" "number" "I") (List.mem_of_getElem? (i := 4) rfl)) (fun _ h9 => h9) rfl (by decide +kernel) rfl rfl (Nat.le_of_ble_eq_true rfl) dX5_takesDigit_128 (fun H locs hP hD hS => ?_)
            have hP : va_P D vwCl (zB_X5 (g 0) u (zU M 9 (fun _ => (M 9 0))) w) H := hP
            have hD : va_D (zA (zB_X5 (g 0) u M w)) (zB_X5 (g 0) u (zU M 9 (fun _ => (M 9 0))) w) := hD
            refine lv_aload_n hx hb dX5_takesDigit_131 rfl (lv_at hl 4 rfl) ?_
            refine va_get (D := D) (ci := 5) (v := .ref (u 8)) (C := RX5) (T := TX5) (N := 13) hx hb hts hinX5 hown hK.1 hP 0 rfl rfl 7 (by decide) (hts (.fieldLink RX5 22 "SaltSharesModel" "parts" "[I") (List.mem_of_getElem? (i := 1) rfl)) (fun _ h9 => h9) rfl dX5_takesDigit_132 ?_
            refine lv_iconst (v := 3) hx hb dX5_takesDigit_135 (by decide) ?_
            refine lv_aload_n hx hb dX5_takesDigit_136 rfl (lv_at hl 4 rfl) ?_
            refine va_get (D := D) (ci := 5) (v := .int (M 8 0)) (C := RX5) (T := TX5) (N := 13) hx hb hts hinX5 hown hK.1 hP 0 rfl rfl 8 (by decide) (hts (.fieldLink RX5 156 "SaltSharesModel" "read" "I") (List.mem_of_getElem? (i := 2) rfl)) (fun _ h9 => h9) rfl dX5_takesDigit_137 ?_
            have w_115 := znat z0
            have w_115b := w_115.2
            refine lv_is w_115.1 ?_
            refine lv_imul hx hb dX5_takesDigit_140 ?_
            refine lv_is (show (3 : Int32) * (nI (Int32.toNatClampNeg (M 8 0))) = (nI (3 * (Int32.toNatClampNeg (M 8 0)))) from pk_mul 3 (Int32.toNatClampNeg (M 8 0))) ?_
            refine lv_iconst (v := 2) hx hb dX5_takesDigit_141 (by decide) ?_
            refine lv_iadd hx hb dX5_takesDigit_142 ?_
            refine lv_is (show (nI (3 * (Int32.toNatClampNeg (M 8 0)))) + 2 = (nI (3 * (Int32.toNatClampNeg (M 8 0)) + 2)) from nI_add (3 * (Int32.toNatClampNeg (M 8 0))) 2) ?_
            refine lv_aload_n hx hb dX5_takesDigit_143 rfl (lv_at hl 4 rfl) ?_
            refine va_get (D := D) (ci := 5) (v := .int (M 9 0)) (C := RX5) (T := TX5) (N := 13) hx hb hts hinX5 hown hK.1 hP 0 rfl rfl 9 (by decide) (hts (.fieldLink RX5 159 "SaltSharesModel" "number" "I") (List.mem_of_getElem? (i := 4) rfl)) (fun _ h9 => h9) rfl dX5_takesDigit_144 ?_
            refine z_iast (i := 3 * (Int32.toNatClampNeg (M 8 0)) + 2) (x := (M 9 0)) hx hb hK hP hD hS 5 0 rfl rfl (by omega) (by decide) dX5_takesDigit_147 (fun H locs hP hD hS => ?_)
            have hP : va_P D vwCl (zB_X5 (g 0) u (zU (zU M 9 (fun _ => (M 9 0))) 7 (upd (M 7) (3 * (Int32.toNatClampNeg (M 8 0)) + 2) (M 9 0))) w) H := hP
            have hD : va_D (zA (zB_X5 (g 0) u M w)) (zB_X5 (g 0) u (zU (zU M 9 (fun _ => (M 9 0))) 7 (upd (M 7) (3 * (Int32.toNatClampNeg (M 8 0)) + 2) (M 9 0))) w) := hD
            refine lv_iload hx hb dX5_takesDigit_148 (lv_at hl 0 rfl) ?_
            exact zretw_z (q' := false) hx hb hr hlocks dX5_takesDigit_150 hP hS (congrArg (fun z9 => z9.1) hq) (congrArg (fun z9 => zB_X5 (g 0) u z9.2 w) hq)
          · have c_113 : ¬ ((M 9 0) = 0) := c_113
            have hq := hq.trans (if_neg c_113)
            refine lv_iload hx hb dX5_takesDigit_88 (lv_at hl 0 rfl) ?_
            refine lv_iload_n hx hb dX5_takesDigit_90 rfl (lv_at hl 2 rfl) ?_
            refine zif_eq (tgt := 98) hx hb dX5_takesDigit_91 (by decide) (fun c_116 => ?_) (fun c_116 => ?_)
            · cases c_116
            refine lv_iconst (v := 1) hx hb dX5_takesDigit_94 (by decide) ?_
            refine lv_goto (tgt := 99) hx hb dX5_takesDigit_95 (by decide) ?_
            refine lv_iload_n hx hb dX5_takesDigit_99 rfl (lv_at hl 1 rfl) ?_
            refine zcSO (n := 3) (c_X5_within l D g dg 1 149) hx hb hml hown hts gX5_takesDigit_X5_within rfl ⟨by decide, by decide, by decide⟩ ⟨Nat.le_of_ble_eq_true rfl, Nat.le_of_ble_eq_true rfl⟩ ⟨rfl, rfl⟩ hK (hP.sub [] rfl) hl.1 rfl rfl (Nat.le_of_ble_eq_true rfl) ⟨Nat.zero_le _, Nat.zero_le _⟩ dX5_takesDigit_100 ?_
            refine zif_eq (tgt := 110) hx hb dX5_takesDigit_103 (by decide) (fun c_118 => ?_) (fun c_118 => ?_)
            · have hq := hq.trans (zif_f c_118)
              refine lv_iconst (v := 0) hx hb dX5_takesDigit_110 (by decide) ?_
              refine lv_is (show (0 : Int32) = bI false from rfl) ?_
              refine lv_istore (lv' := [(5, .int (bI false)), (4, .int dg), (3, .int 149), (2, .int (bI true)), (0, .ref (u 0)), (1, .int dg)]) hx hb dX5_takesDigit_111 hl (by decide) rfl (fun ls hl => ?_)
              refine lv_aload_n hx hb dX5_takesDigit_113 rfl (lv_at hl 4 rfl) ?_
              refine lv_iload hx hb dX5_takesDigit_114 (lv_at hl 0 rfl) ?_
              refine zif_eq (tgt := 124) hx hb dX5_takesDigit_116 (by decide) (fun c_119 => ?_) (fun c_119 => ?_)
              rotate_left
              · cases c_119
              refine lv_aload_n hx hb dX5_takesDigit_124 rfl (lv_at hl 4 rfl) ?_
              refine va_get (D := D) (ci := 5) (v := .int (M 9 0)) (C := RX5) (T := TX5) (N := 13) hx hb hts hinX5 hown hK.1 hP 0 rfl rfl 9 (by decide) (hts (.fieldLink RX5 159 "SaltSharesModel" "number" "I") (List.mem_of_getElem? (i := 4) rfl)) (fun _ h9 => h9) rfl dX5_takesDigit_125 ?_
              refine va_put (D := D) (ci := 5) (v := .int (M 9 0)) (ty := .int) (C := RX5) (T := TX5) (N := 13) hx hb hts hinX5 tyX5 tyX5_ok nmX5 hown hK.1 hP hD hS 0 rfl rfl 9 (by decide) (hts (.fieldLink RX5 159 "SaltSharesModel" "number" "I") (List.mem_of_getElem? (i := 4) rfl)) (fun _ h9 => h9) rfl (by decide +kernel) rfl rfl (Nat.le_of_ble_eq_true rfl) dX5_takesDigit_128 (fun H locs hP hD hS => ?_)
              have hP : va_P D vwCl (zB_X5 (g 0) u (zU M 9 (fun _ => (M 9 0))) w) H := hP
              have hD : va_D (zA (zB_X5 (g 0) u M w)) (zB_X5 (g 0) u (zU M 9 (fun _ => (M 9 0))) w) := hD
              refine lv_aload_n hx hb dX5_takesDigit_131 rfl (lv_at hl 4 rfl) ?_
              refine va_get (D := D) (ci := 5) (v := .ref (u 8)) (C := RX5) (T := TX5) (N := 13) hx hb hts hinX5 hown hK.1 hP 0 rfl rfl 7 (by decide) (hts (.fieldLink RX5 22 "SaltSharesModel" "parts" "[I") (List.mem_of_getElem? (i := 1) rfl)) (fun _ h9 => h9) rfl dX5_takesDigit_132 ?_
              refine lv_iconst (v := 3) hx hb dX5_takesDigit_135 (by decide) ?_
              refine lv_aload_n hx hb dX5_takesDigit_136 rfl (lv_at hl 4 rfl) ?_
              refine va_get (D := D) (ci := 5) (v := .int (M 8 0)) (C := RX5) (T := TX5) (N := 13) hx hb hts hinX5 hown hK.1 hP 0 rfl rfl 8 (by decide) (hts (.fieldLink RX5 156 "SaltSharesModel" "read" "I") (List.mem_of_getElem? (i := 2) rfl)) (fun _ h9 => h9) rfl dX5_takesDigit_137 ?_
              have w_120 := znat z0
              have w_120b := w_120.2
              refine lv_is w_120.1 ?_
              refine lv_imul hx hb dX5_takesDigit_140 ?_
              refine lv_is (show (3 : Int32) * (nI (Int32.toNatClampNeg (M 8 0))) = (nI (3 * (Int32.toNatClampNeg (M 8 0)))) from pk_mul 3 (Int32.toNatClampNeg (M 8 0))) ?_
              refine lv_iconst (v := 2) hx hb dX5_takesDigit_141 (by decide) ?_
              refine lv_iadd hx hb dX5_takesDigit_142 ?_
              refine lv_is (show (nI (3 * (Int32.toNatClampNeg (M 8 0)))) + 2 = (nI (3 * (Int32.toNatClampNeg (M 8 0)) + 2)) from nI_add (3 * (Int32.toNatClampNeg (M 8 0))) 2) ?_
              refine lv_aload_n hx hb dX5_takesDigit_143 rfl (lv_at hl 4 rfl) ?_
              refine va_get (D := D) (ci := 5) (v := .int (M 9 0)) (C := RX5) (T := TX5) (N := 13) hx hb hts hinX5 hown hK.1 hP 0 rfl rfl 9 (by decide) (hts (.fieldLink RX5 159 "SaltSharesModel" "number" "I") (List.mem_of_getElem? (i := 4) rfl)) (fun _ h9 => h9) rfl dX5_takesDigit_144 ?_
              refine z_iast (i := 3 * (Int32.toNatClampNeg (M 8 0)) + 2) (x := (M 9 0)) hx hb hK hP hD hS 5 0 rfl rfl (by omega) (by decide) dX5_takesDigit_147 (fun H locs hP hD hS => ?_)
              have hP : va_P D vwCl (zB_X5 (g 0) u (zU (zU M 9 (fun _ => (M 9 0))) 7 (upd (M 7) (3 * (Int32.toNatClampNeg (M 8 0)) + 2) (M 9 0))) w) H := hP
              have hD : va_D (zA (zB_X5 (g 0) u M w)) (zB_X5 (g 0) u (zU (zU M 9 (fun _ => (M 9 0))) 7 (upd (M 7) (3 * (Int32.toNatClampNeg (M 8 0)) + 2) (M 9 0))) w) := hD
              refine lv_iload hx hb dX5_takesDigit_148 (lv_at hl 0 rfl) ?_
              exact zretw_z (q' := false) hx hb hr hlocks dX5_takesDigit_150 hP hS (congrArg (fun z9 => z9.1) hq) (congrArg (fun z9 => zB_X5 (g 0) u z9.2 w) hq)
            · have hq := hq.trans (zif_t c_118)
              refine lv_iconst (v := 1) hx hb dX5_takesDigit_106 (by decide) ?_
              refine lv_goto (tgt := 111) hx hb dX5_takesDigit_107 (by decide) ?_
              refine lv_is (show (1 : Int32) = bI true from rfl) ?_
              refine lv_istore (lv' := [(5, .int (bI true)), (4, .int dg), (3, .int 149), (2, .int (bI true)), (0, .ref (u 0)), (1, .int dg)]) hx hb dX5_takesDigit_111 hl (by decide) rfl (fun ls hl => ?_)
              refine lv_aload_n hx hb dX5_takesDigit_113 rfl (lv_at hl 4 rfl) ?_
              refine lv_iload hx hb dX5_takesDigit_114 (lv_at hl 0 rfl) ?_
              refine zif_eq (tgt := 124) hx hb dX5_takesDigit_116 (by decide) (fun c_121 => ?_) (fun c_121 => ?_)
              · cases c_121
              refine lv_iload hx hb dX5_takesDigit_119 (lv_at hl 1 rfl) ?_
              refine lv_goto (tgt := 128) hx hb dX5_takesDigit_121 (by decide) ?_
              refine va_put (D := D) (ci := 5) (v := .int dg) (ty := .int) (C := RX5) (T := TX5) (N := 13) hx hb hts hinX5 tyX5 tyX5_ok nmX5 hown hK.1 hP hD hS 0 rfl rfl 9 (by decide) (hts (.fieldLink RX5 159 "SaltSharesModel" "number" "I") (List.mem_of_getElem? (i := 4) rfl)) (fun _ h9 => h9) rfl (by decide +kernel) rfl rfl (Nat.le_of_ble_eq_true rfl) dX5_takesDigit_128 (fun H locs hP hD hS => ?_)
              have hP : va_P D vwCl (zB_X5 (g 0) u (zU M 9 (fun _ => dg)) w) H := hP
              have hD : va_D (zA (zB_X5 (g 0) u M w)) (zB_X5 (g 0) u (zU M 9 (fun _ => dg)) w) := hD
              refine lv_aload_n hx hb dX5_takesDigit_131 rfl (lv_at hl 4 rfl) ?_
              refine va_get (D := D) (ci := 5) (v := .ref (u 8)) (C := RX5) (T := TX5) (N := 13) hx hb hts hinX5 hown hK.1 hP 0 rfl rfl 7 (by decide) (hts (.fieldLink RX5 22 "SaltSharesModel" "parts" "[I") (List.mem_of_getElem? (i := 1) rfl)) (fun _ h9 => h9) rfl dX5_takesDigit_132 ?_
              refine lv_iconst (v := 3) hx hb dX5_takesDigit_135 (by decide) ?_
              refine lv_aload_n hx hb dX5_takesDigit_136 rfl (lv_at hl 4 rfl) ?_
              refine va_get (D := D) (ci := 5) (v := .int (M 8 0)) (C := RX5) (T := TX5) (N := 13) hx hb hts hinX5 hown hK.1 hP 0 rfl rfl 8 (by decide) (hts (.fieldLink RX5 156 "SaltSharesModel" "read" "I") (List.mem_of_getElem? (i := 2) rfl)) (fun _ h9 => h9) rfl dX5_takesDigit_137 ?_
              have w_122 := znat z0
              have w_122b := w_122.2
              refine lv_is w_122.1 ?_
              refine lv_imul hx hb dX5_takesDigit_140 ?_
              refine lv_is (show (3 : Int32) * (nI (Int32.toNatClampNeg (M 8 0))) = (nI (3 * (Int32.toNatClampNeg (M 8 0)))) from pk_mul 3 (Int32.toNatClampNeg (M 8 0))) ?_
              refine lv_iconst (v := 2) hx hb dX5_takesDigit_141 (by decide) ?_
              refine lv_iadd hx hb dX5_takesDigit_142 ?_
              refine lv_is (show (nI (3 * (Int32.toNatClampNeg (M 8 0)))) + 2 = (nI (3 * (Int32.toNatClampNeg (M 8 0)) + 2)) from nI_add (3 * (Int32.toNatClampNeg (M 8 0))) 2) ?_
              refine lv_aload_n hx hb dX5_takesDigit_143 rfl (lv_at hl 4 rfl) ?_
              refine va_get (D := D) (ci := 5) (v := .int dg) (C := RX5) (T := TX5) (N := 13) hx hb hts hinX5 hown hK.1 hP 0 rfl rfl 9 (by decide) (hts (.fieldLink RX5 159 "SaltSharesModel" "number" "I") (List.mem_of_getElem? (i := 4) rfl)) (fun _ h9 => h9) rfl dX5_takesDigit_144 ?_
              refine z_iast (i := 3 * (Int32.toNatClampNeg (M 8 0)) + 2) (x := dg) hx hb hK hP hD hS 5 0 rfl rfl (by omega) (by decide) dX5_takesDigit_147 (fun H locs hP hD hS => ?_)
              have hP : va_P D vwCl (zB_X5 (g 0) u (zU (zU M 9 (fun _ => dg)) 7 (upd (M 7) (3 * (Int32.toNatClampNeg (M 8 0)) + 2) dg)) w) H := hP
              have hD : va_D (zA (zB_X5 (g 0) u M w)) (zB_X5 (g 0) u (zU (zU M 9 (fun _ => dg)) 7 (upd (M 7) (3 * (Int32.toNatClampNeg (M 8 0)) + 2) dg)) w) := hD
              refine lv_iload hx hb dX5_takesDigit_148 (lv_at hl 0 rfl) ?_
              exact zretw_z (q' := true) hx hb hr hlocks dX5_takesDigit_150 hP hS (congrArg (fun z9 => z9.1) hq) (congrArg (fun z9 => zB_X5 (g 0) u z9.2 w) hq)
def v_X5_keepShare_2 (b : Nat) : Nat → Nat → (Nat → Nat → Int32) → Int32 × (Nat → Nat → Int32)
  | 0, _, _ => (0, (fun _ _ => 0))
  | n + 1, i, M1 => (if 300 ≤ i then ((v_X5_of M1 b 3), M1) else v_X5_keepShare_2 b n (i + 1) (zU M1 11 (upd (M1 11) i (M1 0 (53 + i)))))
def v_X5_keepShare (M : Nat → Nat → Int32) (b : Nat) : Int32 × (Nat → Nat → Int32) := v_X5_keepShare_2 b 301 0 M
set_option maxHeartbeats 400000 in
set_option maxRecDepth 100000 in
theorem c_X5_keepShare (l : Launch) (D : va_G) (g : Nat → ClassId) (u : Nat → Nat) (M : Nat → Nat → Int32) (w : Int64) (b : Nat) (z0 : b < 8) : Wr l D (zT g) yX5_keepShare wsX5_keepShare (rmOf 1 22) [.ref (u 0), .int (nI b)] (zB_X5 (g 0) u M w) (some (.int ((v_X5_keepShare M b).1))) (zB_X5 (g 0) u ((v_X5_keepShare M b).2) w) := by
  refine Wr.of (cc := cX5_keepShare) (maxL := 3) (ret := (some .int)) (by decide) rfl (Nat.le_of_ble_eq_true rfl) ?_
  intro p e s m below meth c ls hx hb hr hml hown hts hlocks hP hD hS hK hl
  have hown : s.vm.findClass RX5 = some m.cls := hown
  have hinX5 : ∀ w ∈ u_ws RX5 TX5 13, w ∈ wsX5_keepShare := fun _ h9 => (List.mem_cons_of_mem _ (List.mem_append_right _ h9))
  obtain ⟨q, hq⟩ : ∃ q : Int32 × (Nat → Nat → Int32), q = v_X5_keepShare M b := ⟨_, rfl⟩
  rw [← hq]
  unfold v_X5_keepShare at hq
  have hl : lv_has ls 3 [(0, .ref (u 0)), (1, .int (nI b))] := hl
  refine lv_iconst (v := 0) hx hb dX5_keepShare_0 (by decide) ?_
  refine lv_istore_n (lv' := [(2, .int 0), (0, .ref (u 0)), (1, .int (nI b))]) hx hb dX5_keepShare_1 rfl hl (by decide) rfl (fun ls hl => ?_)
  have L2 : ∀ (n : Nat) (i : Nat) (M1 : Nat → Nat → Int32), (i ≤ 300) → 300 - i < n → ∀ (H : Heap) (locs : List Loc), va_P D vwCl (zB_X5 (g 0) u M1 w) H → va_D (zA (zB_X5 (g 0) u M w)) (zB_X5 (g 0) u M1 w) → va_S (zA (zB_X5 (g 0) u M w)) s.heap H locs → ∀ (ls : Array Slot), lv_has ls 3 [(0, .ref (u 0)), (1, .int (nI b)), (2, .int (nI i))] → q = v_X5_keepShare_2 b n i M1 → W p l e (rmOf 1 22) s m [.ref (u 0), .int (nI b)].toArray below meth c H locs 0 0 (MQ below (zQw D (zB_X5 (g 0) u M w) (some (.int q.1)) (zB_X5 (g 0) u q.2 w)) [.ref (u 0), .int (nI b)].toArray s 0 0 (zA (zB_X5 (g 0) u M w))) (F0 m 2 ls []) := by
    intro n
    induction n with
    | zero => intro i M1 v2_0 hn; exact absurd hn (Nat.not_lt_zero _)
    | succ n ih2 =>
      intro i M1 v2_0 hn2 H locs hP hD hS ls hl hq
      rw [v_X5_keepShare_2] at hq
      refine lv_iload_n hx hb dX5_keepShare_2 rfl (lv_at hl 2 rfl) ?_
      refine lv_sipush (v := 300) hx hb dX5_keepShare_3 (by decide) ?_
      refine lv_icmp_ge (tgt := 30) hx hb dX5_keepShare_6 (by decide) (fun c_1 => ?_) (fun c_1 => ?_)
      · have c_1 : 300 ≤ i := (nI_leI (a := 300) (b := i) (by omega) (by omega)).mp c_1
        have hq := hq.trans (if_pos c_1)
        refine lv_aload_n hx hb dX5_keepShare_30 rfl (lv_at hl 0 rfl) ?_
        refine lv_iload_n hx hb dX5_keepShare_31 rfl (lv_at hl 1 rfl) ?_
        refine lv_iconst (v := 3) hx hb dX5_keepShare_32 (by decide) ?_
        refine zcV (ci := 5) (n := 2) (c_X5_of l D g u M1 w b 3 (by omega)) hx hb hml hown hts gX5_keepShare_X5_of rfl ⟨rfl, by decide, by decide, by decide⟩ ⟨Nat.le_of_ble_eq_true rfl, Nat.le_of_ble_eq_true rfl⟩ ⟨rfl, rfl⟩ hK hP rfl rfl rfl hl.1 rfl rfl (Nat.le_of_ble_eq_true rfl) ⟨Nat.zero_le _, Nat.zero_le _⟩ dX5_keepShare_33 ?_
        exact zretw_i hx hb hr hlocks dX5_keepShare_36 hP hS (congrArg (fun z9 => z9.1) hq) (congrArg (fun z9 => zB_X5 (g 0) u z9.2 w) hq)
      · have c_1 : ¬ (300 ≤ i) := fun h9 => c_1 ((nI_leI (a := 300) (b := i) (by omega) (by omega)).mpr h9)
        have hq := hq.trans (if_neg c_1)
        refine lv_aload_n hx hb dX5_keepShare_9 rfl (lv_at hl 0 rfl) ?_
        refine va_get (D := D) (ci := 5) (v := .ref (u 12)) (C := RX5) (T := TX5) (N := 13) hx hb hts hinX5 hown hK.1 hP 0 rfl rfl 11 (by decide) (hts (.fieldLink RX5 25 "SaltSharesModel" "kept" "[I") (List.mem_of_getElem? (i := 1) rfl)) (fun _ h9 => h9) rfl dX5_keepShare_10 ?_
        refine lv_iload_n hx hb dX5_keepShare_13 rfl (lv_at hl 2 rfl) ?_
        refine lv_aload_n hx hb dX5_keepShare_14 rfl (lv_at hl 0 rfl) ?_
        refine va_get (D := D) (ci := 5) (v := .ref (u 1)) (C := RX5) (T := TX5) (N := 13) hx hb hts hinX5 hown hK.1 hP 0 rfl rfl 0 (by decide) (hts (.fieldLink RX5 7 "SaltSharesModel" "z" "[I") (List.mem_of_getElem? (i := 2) rfl)) (fun _ h9 => h9) rfl dX5_keepShare_15 ?_
        refine lv_bipush (v := 53) hx hb dX5_keepShare_18 (by decide) ?_
        refine lv_iload_n hx hb dX5_keepShare_20 rfl (lv_at hl 2 rfl) ?_
        refine lv_iadd hx hb dX5_keepShare_21 ?_
        refine lv_is (show (53 : Int32) + (nI i) = (nI (53 + i)) from nI_add 53 i) ?_
        refine z_iald (i := 53 + i) hx hb hK hP 1 0 rfl rfl (by omega) (by decide) dX5_keepShare_22 ?_
        refine z_iast (i := i) (x := (M1 0 (53 + i))) hx hb hK hP hD hS 6 0 rfl rfl (by omega) (by decide) dX5_keepShare_23 (fun H locs hP hD hS => ?_)
        have hP : va_P D vwCl (zB_X5 (g 0) u (zU M1 11 (upd (M1 11) i (M1 0 (53 + i)))) w) H := hP
        have hD : va_D (zA (zB_X5 (g 0) u M w)) (zB_X5 (g 0) u (zU M1 11 (upd (M1 11) i (M1 0 (53 + i)))) w) := hD
        refine lv_iinc (v := (nI (i + 1))) (lv' := [(2, .int (nI (i + 1))), (0, .ref (u 0)), (1, .int (nI b))]) hx hb dX5_keepShare_24 hl (k := 2) rfl (nI_add _ 1) (by decide) rfl (fun ls hl => ?_)
        refine lv_goto (tgt := 2) hx hb dX5_keepShare_27 (by decide) ?_
        exact ih2 (i + 1) (zU M1 11 (upd (M1 11) i (M1 0 (53 + i)))) (by omega) (by omega) _ _ hP hD hS ls (lv_sub hl [1, 2, 0] rfl) hq
  exact L2 301 0 M (by omega) (by omega) _ _ hP hD hS ls (lv_sub hl [1, 2, 0] rfl) hq
def v_X5_layBack_2 (b : Nat) (sh : Int32) : Nat → Nat → (Nat → Nat → Int32) → (Nat → Nat → Int32)
  | 0, _, _ => ((fun _ _ => 0))
  | n + 1, i, M1 => (if 300 ≤ i then v_X5_put M1 b 3 sh else v_X5_layBack_2 b sh n (i + 1) (zU M1 0 (upd (M1 0) (53 + i) (M1 11 i))))
def v_X5_layBack (M : Nat → Nat → Int32) (b : Nat) (sh : Int32) : (Nat → Nat → Int32) := v_X5_layBack_2 b sh 301 0 M
set_option maxHeartbeats 400000 in
set_option maxRecDepth 100000 in
theorem c_X5_layBack (l : Launch) (D : va_G) (g : Nat → ClassId) (u : Nat → Nat) (M : Nat → Nat → Int32) (w : Int64) (b : Nat) (sh : Int32) (z0 : b < 8) : Wr l D (zT g) yX5_layBack wsX5_layBack (rmOf 1 23) [.ref (u 0), .int (nI b), .int sh] (zB_X5 (g 0) u M w) (none) (zB_X5 (g 0) u (v_X5_layBack M b sh) w) := by
  refine Wr.of (cc := cX5_layBack) (maxL := 4) (ret := none) (by decide) rfl (Nat.le_of_ble_eq_true rfl) ?_
  intro p e s m below meth c ls hx hb hr hml hown hts hlocks hP hD hS hK hl
  have hown : s.vm.findClass RX5 = some m.cls := hown
  have hinX5 : ∀ w ∈ u_ws RX5 TX5 13, w ∈ wsX5_layBack := fun _ h9 => (List.mem_cons_of_mem _ (List.mem_append_right _ h9))
  obtain ⟨q, hq⟩ : ∃ q : (Nat → Nat → Int32), q = v_X5_layBack M b sh := ⟨_, rfl⟩
  rw [← hq]
  unfold v_X5_layBack at hq
  have hl : lv_has ls 4 [(0, .ref (u 0)), (1, .int (nI b)), (2, .int sh)] := hl
  refine lv_iconst (v := 0) hx hb dX5_layBack_0 (by decide) ?_
  refine lv_istore_n (lv' := [(3, .int 0), (0, .ref (u 0)), (1, .int (nI b)), (2, .int sh)]) hx hb dX5_layBack_1 rfl hl (by decide) rfl (fun ls hl => ?_)
  have L2 : ∀ (n : Nat) (i : Nat) (M1 : Nat → Nat → Int32), (i ≤ 300) → 300 - i < n → ∀ (H : Heap) (locs : List Loc), va_P D vwCl (zB_X5 (g 0) u M1 w) H → va_D (zA (zB_X5 (g 0) u M w)) (zB_X5 (g 0) u M1 w) → va_S (zA (zB_X5 (g 0) u M w)) s.heap H locs → ∀ (ls : Array Slot), lv_has ls 4 [(0, .ref (u 0)), (1, .int (nI b)), (2, .int sh), (3, .int (nI i))] → q = v_X5_layBack_2 b sh n i M1 → W p l e (rmOf 1 23) s m [.ref (u 0), .int (nI b), .int sh].toArray below meth c H locs 0 0 (MQ below (zQw D (zB_X5 (g 0) u M w) (none) (zB_X5 (g 0) u q w)) [.ref (u 0), .int (nI b), .int sh].toArray s 0 0 (zA (zB_X5 (g 0) u M w))) (F0 m 2 ls []) := by
    intro n
    induction n with
    | zero => intro i M1 v2_0 hn; exact absurd hn (Nat.not_lt_zero _)
    | succ n ih2 =>
      intro i M1 v2_0 hn2 H locs hP hD hS ls hl hq
      rw [v_X5_layBack_2] at hq
      refine lv_iload_n hx hb dX5_layBack_2 rfl (lv_at hl 3 rfl) ?_
      refine lv_sipush (v := 300) hx hb dX5_layBack_3 (by decide) ?_
      refine lv_icmp_ge (tgt := 30) hx hb dX5_layBack_6 (by decide) (fun c_1 => ?_) (fun c_1 => ?_)
      · have c_1 : 300 ≤ i := (nI_leI (a := 300) (b := i) (by omega) (by omega)).mp c_1
        have hq := hq.trans (if_pos c_1)
        refine lv_aload_n hx hb dX5_layBack_30 rfl (lv_at hl 0 rfl) ?_
        refine lv_iload_n hx hb dX5_layBack_31 rfl (lv_at hl 1 rfl) ?_
        refine lv_iconst (v := 3) hx hb dX5_layBack_32 (by decide) ?_
        refine lv_iload_n hx hb dX5_layBack_33 rfl (lv_at hl 2 rfl) ?_
        refine zcVw (ci := 5) (n := 3) (c_X5_put l D g u M1 w b 3 sh (by omega)) hx hb hml hown hts gX5_layBack_X5_put rfl ⟨rfl, by decide, by decide, by decide⟩ ⟨Nat.le_of_ble_eq_true rfl, Nat.le_of_ble_eq_true rfl⟩ ⟨rfl, rfl⟩ hK hP hD rfl rfl rfl hS hl.1 rfl rfl (Nat.le_of_ble_eq_true rfl) ⟨Nat.zero_le _, Nat.zero_le _⟩ dX5_layBack_34 (fun H1 locs hP1 hk1 hS => ?_)
        have hD := zD_addr (ws' := zB_X5 (g 0) u (v_X5_put M1 b 3 sh) w) hD (by simp only [zF, List.flatten_cons, List.flatten_nil, List.append_nil, List.map_append, List.map_cons, List.map_nil, zad_X0, zad_X1, zad_X2, zad_X3, zad_X4, zad_X5]); have hP := hP1
        clear hP1 hk1
        have hP : va_P D vwCl (zB_X5 (g 0) u (v_X5_put M1 b 3 sh) w) H1 := hP
        have hD : va_D (zA (zB_X5 (g 0) u M w)) (zB_X5 (g 0) u (v_X5_put M1 b 3 sh) w) := hD
        exact zretw_v hx hb hr hlocks dX5_layBack_37 hP hS (congrArg (fun z9 => zB_X5 (g 0) u z9 w) hq)
      · have c_1 : ¬ (300 ≤ i) := fun h9 => c_1 ((nI_leI (a := 300) (b := i) (by omega) (by omega)).mpr h9)
        have hq := hq.trans (if_neg c_1)
        refine lv_aload_n hx hb dX5_layBack_9 rfl (lv_at hl 0 rfl) ?_
        refine va_get (D := D) (ci := 5) (v := .ref (u 1)) (C := RX5) (T := TX5) (N := 13) hx hb hts hinX5 hown hK.1 hP 0 rfl rfl 0 (by decide) (hts (.fieldLink RX5 7 "SaltSharesModel" "z" "[I") (List.mem_of_getElem? (i := 1) rfl)) (fun _ h9 => h9) rfl dX5_layBack_10 ?_
        refine lv_bipush (v := 53) hx hb dX5_layBack_13 (by decide) ?_
        refine lv_iload_n hx hb dX5_layBack_15 rfl (lv_at hl 3 rfl) ?_
        refine lv_iadd hx hb dX5_layBack_16 ?_
        refine lv_is (show (53 : Int32) + (nI i) = (nI (53 + i)) from nI_add 53 i) ?_
        refine lv_aload_n hx hb dX5_layBack_17 rfl (lv_at hl 0 rfl) ?_
        refine va_get (D := D) (ci := 5) (v := .ref (u 12)) (C := RX5) (T := TX5) (N := 13) hx hb hts hinX5 hown hK.1 hP 0 rfl rfl 11 (by decide) (hts (.fieldLink RX5 25 "SaltSharesModel" "kept" "[I") (List.mem_of_getElem? (i := 2) rfl)) (fun _ h9 => h9) rfl dX5_layBack_18 ?_
        refine lv_iload_n hx hb dX5_layBack_21 rfl (lv_at hl 3 rfl) ?_
        refine z_iald (i := i) hx hb hK hP 6 0 rfl rfl (by omega) (by decide) dX5_layBack_22 ?_
        refine z_iast (i := 53 + i) (x := (M1 11 i)) hx hb hK hP hD hS 1 0 rfl rfl (by omega) (by decide) dX5_layBack_23 (fun H locs hP hD hS => ?_)
        have hP : va_P D vwCl (zB_X5 (g 0) u (zU M1 0 (upd (M1 0) (53 + i) (M1 11 i))) w) H := hP
        have hD : va_D (zA (zB_X5 (g 0) u M w)) (zB_X5 (g 0) u (zU M1 0 (upd (M1 0) (53 + i) (M1 11 i))) w) := hD
        refine lv_iinc (v := (nI (i + 1))) (lv' := [(3, .int (nI (i + 1))), (0, .ref (u 0)), (1, .int (nI b)), (2, .int sh)]) hx hb dX5_layBack_24 hl (k := 3) rfl (nI_add _ 1) (by decide) rfl (fun ls hl => ?_)
        refine lv_goto (tgt := 2) hx hb dX5_layBack_27 (by decide) ?_
        exact ih2 (i + 1) (zU M1 0 (upd (M1 0) (53 + i) (M1 11 i))) (by omega) (by omega) _ _ hP hD hS ls (lv_sub hl [1, 2, 3, 0] rfl) hq
  exact L2 301 0 M (by omega) (by omega) _ _ hP hD hS ls (lv_sub hl [1, 2, 3, 0] rfl) hq
