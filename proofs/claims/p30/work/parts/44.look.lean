theorem fa_of_nle' {a b : Int32} (h : ¬ a ≤ b) : b < a := by
  rw [Int32.le_iff_toInt_le] at h
  rw [Int32.lt_iff_toInt_lt]
  omega
theorem fa_le_trans {a b c : Int32} (h1 : a ≤ b) (h2 : b ≤ c) : a ≤ c := by
  rw [Int32.le_iff_toInt_le] at *
  omega
/-- the row of buckets, as far as it reaches, has buckets in it -/
def zROK (O : Nat → Nat → Int32) : Prop := vp_in (O 1 0) 101 ∧ ∀ i : Nat, i < 100 → nI i < O 1 0 → vp_in (O 0 i) 100
theorem zROK_add {O : Nat → Nat → Int32} {k : Nat} (hk : k < 100) (h : zROK O) : zROK (v_X2_addToRow O k) := by
  unfold v_X2_addToRow
  by_cases c : 100 ≤ O 1 0
  · rw [if_pos c]; exact h
  · rw [if_neg c]
    have h1 := zstep (n := 100) (by decide) h.1 c
    obtain ⟨r, hr, er⟩ := vp_in_of h1.1 (by decide)
    refine ⟨by rw [zU_s]; exact h1.2.1, fun i hi hlt => ?_⟩
    rw [zU_s, er, nI_1] at hlt
    have h3 : i < r + 1 := (nI_ltI (by omega) (by omega)).mp hlt
    rw [zU_n _ _ (by decide), zU_s, er, nI_clamp (by omega)]
    by_cases e : i = r
    · subst e; rw [pk_us]; exact vp_in_nI hk (by decide)
    · rw [pk_un e]
      exact h.2 i hi (by rw [er]; exact nI_lt (by omega) (by omega))
theorem zROK_47 (T : Nat → Nat → Int32) (b : Nat) : ∀ (n i : Nat) (O : Nat → Nat → Int32), 100 - i < n → zROK O → zROK (v_X2_lookAtBuckets_47 T b n i O) := by
  intro n
  induction n with
  | zero => intro i O h; exact absurd h (Nat.not_lt_zero _)
  | succ n ih =>
    intro i O h hO
    rw [v_X2_lookAtBuckets_47]
    by_cases c : 100 ≤ i
    · rw [if_pos c]; exact hO
    · rw [if_neg c]
      have hk : i < 100 := by omega
      have h2 : 100 - (i + 1) < n := by omega
      have a1 := ih (i + 1) O h2 hO
      have a2 := ih (i + 1) _ h2 (zROK_add hk hO)
      repeat' split
      all_goals with_reducible first | exact a1 | exact a2
theorem zROK_15 (T : Nat → Nat → Int32) (b : Nat) : ∀ (n i : Nat) (O : Nat → Nat → Int32), 100 - i < n → zROK O → zROK (v_X2_lookAtBuckets_15 T b n i O) := by
  intro n
  induction n with
  | zero => intro i O h; exact absurd h (Nat.not_lt_zero _)
  | succ n ih =>
    intro i O h hO
    rw [v_X2_lookAtBuckets_15]
    by_cases c : 100 ≤ i
    · rw [if_pos c]; exact zROK_47 T b 101 0 O (by omega) hO
    · rw [if_neg c]
      have hk : i < 100 := by omega
      have h2 : 100 - (i + 1) < n := by omega
      have a1 := ih (i + 1) O h2 hO
      have a2 := ih (i + 1) _ h2 (zROK_add hk hO)
      repeat' split
      all_goals with_reducible first | exact a1 | exact a2
theorem zROK_lookB (O T : Nat → Nat → Int32) (b : Nat) : zROK (v_X2_lookAtBuckets O T b) := by
  unfold v_X2_lookAtBuckets
  refine zROK_15 T b 101 0 _ (by omega) ⟨by rw [zU_s]; exact vp_in_nI (n := 0) (by decide) (by decide), fun i hi h => ?_⟩
  rw [zU_s] at h
  exact absurd h (nI_nlt (a := i) (b := 0) (Nat.zero_le _) (by omega))
theorem zper_40 (T : Nat → Nat → Int32) (b : Nat) : ∀ (n : Nat) (i : Int32) (O : Nat → Nat → Int32), (i.toInt + 1).toNat < n → (v_X2_lookAtPersons_40 T b n i O) 0 = O 0 ∧ (v_X2_lookAtPersons_40 T b n i O) 1 = O 1 := by
  intro n
  induction n with
  | zero => intro i O h; exact absurd h (Nat.not_lt_zero _)
  | succ n ih =>
    intro i O h
    rw [v_X2_lookAtPersons_40]
    by_cases c : i < 0
    · rw [if_pos c]; exact ⟨rfl, rfl⟩
    · rw [if_neg c]
      have h2 := zdec3 c h
      by_cases c2 : v_X3_isSure T (Int32.toNatClampNeg i) b = true
      · rw [if_pos c2]
        obtain ⟨a1, a2⟩ := ih _ (zU O 2 (fun _ => O 2 0 + 1)) h2
        rw [a1, a2, zU_n _ _ (by decide), zU_n _ _ (by decide)]; exact ⟨rfl, rfl⟩
      · rw [if_neg c2]
        by_cases c3 : v_X3_isHeldOut T (Int32.toNatClampNeg i) b = true
        · rw [if_pos c3]; exact ih _ O h2
        · rw [if_neg c3]
          have a := ih _ (zU (zU O 3 (upd (O 3) (v_X4_bucketBy i (v_X3_saltOf T b)) ((O 3 (v_X4_bucketBy i (v_X3_saltOf T b))) + 1))) 4 (upd (O 4) (v_X4_bucketBy i (v_X3_saltOf T b)) i)) h2
          rw [a.1, a.2, zU_n _ _ (by decide), zU_n _ _ (by decide), zU_n _ _ (by decide), zU_n _ _ (by decide)]; exact ⟨rfl, rfl⟩
theorem zper_14 (T : Nat → Nat → Int32) (b : Nat) : ∀ (n i : Nat) (O : Nat → Nat → Int32), 100 - i < n → (v_X2_lookAtPersons_14 T b n i O) 0 = O 0 ∧ (v_X2_lookAtPersons_14 T b n i O) 1 = O 1 := by
  intro n
  induction n with
  | zero => intro i O h; exact absurd h (Nat.not_lt_zero _)
  | succ n ih =>
    intro i O h
    rw [v_X2_lookAtPersons_14]
    by_cases c : 100 ≤ i
    · rw [if_pos c]; exact zper_40 T b 151 149 O (by decide)
    · rw [if_neg c]
      obtain ⟨a1, a2⟩ := ih (i + 1) (zU O 3 (upd (O 3) i 0)) (by omega)
      rw [a1, a2, zU_n _ _ (by decide), zU_n _ _ (by decide)]; exact ⟨rfl, rfl⟩
theorem zper (O T : Nat → Nat → Int32) (b : Nat) : (v_X2_lookAtPersons O T b) 0 = O 0 ∧ (v_X2_lookAtPersons O T b) 1 = O 1 := by
  unfold v_X2_lookAtPersons
  obtain ⟨a1, a2⟩ := zper_14 T b 101 0 (zU O 2 (fun _ => 0)) (by omega)
  rw [a1, a2, zU_n _ _ (by decide), zU_n _ _ (by decide)]; exact ⟨rfl, rfl⟩
theorem zROK_look (O T : Nat → Nat → Int32) (b : Nat) : zROK (v_X2_lookAt O T b) := by
  unfold v_X2_lookAt
  have h := zROK_lookB O T b
  obtain ⟨a1, a2⟩ := zper (v_X2_lookAtBuckets O T b) T b
  exact ⟨by rw [a2]; exact h.1, fun i hi hlt => by rw [a1]; rw [a2] at hlt; exact h.2 i hi hlt⟩
theorem zrowB {O T : Nat → Nat → Int32} {b i : Nat} (c : ¬ (v_X2_lookAt O T b) 1 0 ≤ nI i) (hi : i < 100) : vp_in ((v_X2_lookAt O T b) 0 i) 100 :=
  (zROK_look O T b).2 i hi (fa_of_nle' c)
theorem zrowA {O T : Nat → Nat → Int32} {b i : Nat} {sh : Int32} (c1 : sh ≤ (v_X2_lookAt O T b) 1 0) (c2 : ¬ sh ≤ nI i) (hi : i < 100) : vp_in ((v_X2_lookAt O T b) 0 i) 100 :=
  zrowB (fun h => c2 (fa_le_trans c1 h)) hi
def v_X2_eatersAt_35 (O : Nat → Nat → Int32) (T : Nat → Nat → Int32) (xb : Int32) (sh : Int32) : Nat → Int32 → Nat → Int32 × (Nat → Nat → Int32)
  | 0, _, _ => (0, (fun _ _ => 0))
  | n + 1, eaters1, i => (if sh ≤ (nI i) then (eaters1, v_X2_lookAt O T (Int32.toNatClampNeg xb)) else (if 100 ≤ i then (eaters1, v_X2_lookAt O T (Int32.toNatClampNeg xb)) else v_X2_eatersAt_35 O T xb sh n (eaters1 + (((v_X2_lookAt O T (Int32.toNatClampNeg xb)) 3) (Int32.toNatClampNeg (((v_X2_lookAt O T (Int32.toNatClampNeg xb)) 0) i)))) (i + 1)))
def v_X2_eatersAt (O : Nat → Nat → Int32) (T : Nat → Nat → Int32) (xb : Int32) (sh : Int32) : Int32 × (Nat → Nat → Int32) := (if (v_X3_isOpenBread T xb) = true then (if sh ≤ ((v_X2_lookAt O T (Int32.toNatClampNeg xb)) 1 0) then v_X2_eatersAt_35 O T xb sh 101 ((v_X2_lookAt O T (Int32.toNatClampNeg xb)) 2 0) 0 else ((-1), v_X2_lookAt O T (Int32.toNatClampNeg xb))) else ((-1), O))
set_option maxHeartbeats 400000 in
set_option maxRecDepth 100000 in
theorem c_X2_eatersAt (l : Launch) (D : va_G) (g : Nat → ClassId) (o : Nat → Nat) (h : Nat → Nat) (O : Nat → Nat → Int32) (T : Nat → Nat → Int32) (xb : Int32) (sh : Int32) : Wr l D (zT g) yX2_eatersAt wsX2_eatersAt (rmOf 4 89) [.ref (o 0), .ref (h 0), .int xb, .int sh] ((zB_X2 (g 0) o O) ++ (zB_X3 (g 0) h T)) (some (.int ((v_X2_eatersAt O T xb sh).1))) ((zB_X2 (g 0) o ((v_X2_eatersAt O T xb sh).2)) ++ (zB_X3 (g 0) h T)) := by
  refine Wr.of (cc := cX2_eatersAt) (maxL := 6) (ret := (some .int)) (by decide) rfl (Nat.le_of_ble_eq_true rfl) ?_
  intro p e s m below meth c ls hx hb hr hml hown hts hlocks hP hD hS hK hl
  have hown : s.vm.findClass RX2 = some m.cls := hown
  have hinX2 : ∀ w ∈ u_ws RX2 TX2 5, w ∈ wsX2_eatersAt := fun _ h9 => (List.mem_cons_of_mem _ (List.mem_append_left _ (List.mem_append_right _ h9)))
  obtain ⟨q, hq⟩ : ∃ q : Int32 × (Nat → Nat → Int32), q = v_X2_eatersAt O T xb sh := ⟨_, rfl⟩
  rw [← hq]
  unfold v_X2_eatersAt at hq
  have hl : lv_has ls 6 [(0, .ref (o 0)), (1, .ref (h 0)), (2, .int xb), (3, .int sh)] := hl
  refine lv_aload_n hx hb dX2_eatersAt_0 rfl (lv_at hl 1 rfl) ?_
  refine lv_iload_n hx hb dX2_eatersAt_1 rfl (lv_at hl 2 rfl) ?_
  refine zcV (ci := 3) (n := 1) (c_X3_isOpenBread l D g h T xb) hx hb hml hown hts gX2_eatersAt_X3_isOpenBread rfl ⟨rfl, by decide, by decide, by decide⟩ ⟨Nat.le_of_ble_eq_true rfl, Nat.le_of_ble_eq_true rfl⟩ ⟨rfl, rfl⟩ hK (hP.sub [4, 5, 6, 7, 8, 9, 10, 11, 12, 13, 14] rfl) rfl rfl rfl hl.1 rfl rfl (Nat.le_of_ble_eq_true rfl) ⟨Nat.zero_le _, Nat.zero_le _⟩ dX2_eatersAt_2 ?_
  refine zif_ne (tgt := 10) hx hb dX2_eatersAt_5 (by decide) (fun c_2 => ?_) (fun c_2 => ?_)
  · have hq := hq.trans (zif_t c_2)
    have w_3 := znat (zin_open (by with_reducible assumption))
    have w_3b := w_3.2
    have hl : lv_has ls 6 [(0, .ref (o 0)), (1, .ref (h 0)), (2, .int (nI (Int32.toNatClampNeg xb))), (3, .int sh)] := by rw [← w_3.1]; exact hl
    refine lv_aload_n hx hb dX2_eatersAt_10 rfl (lv_at hl 0 rfl) ?_
    refine lv_aload_n hx hb dX2_eatersAt_11 rfl (lv_at hl 1 rfl) ?_
    refine lv_iload_n hx hb dX2_eatersAt_12 rfl (lv_at hl 2 rfl) ?_
    refine zcVw (ci := 2) (n := 2) (c_X2_lookAt l D g o h O T (Int32.toNatClampNeg xb) (by omega)) hx hb hml hown hts gX2_eatersAt_X2_lookAt rfl ⟨rfl, by decide, by decide, by decide⟩ ⟨Nat.le_of_ble_eq_true rfl, Nat.le_of_ble_eq_true rfl⟩ ⟨rfl, rfl⟩ hK hP hD rfl rfl rfl hS hl.1 rfl rfl (Nat.le_of_ble_eq_true rfl) ⟨Nat.zero_le _, Nat.zero_le _⟩ dX2_eatersAt_13 (fun H1 locs hP1 hk1 hS => ?_)
    have hD := zD_addr (ws' := (zB_X2 (g 0) o (v_X2_lookAt O T (Int32.toNatClampNeg xb))) ++ (zB_X3 (g 0) h T)) hD rfl; have hP := hP1
    clear hP1 hk1
    have hP : va_P D vwCl ((zB_X2 (g 0) o (v_X2_lookAt O T (Int32.toNatClampNeg xb))) ++ (zB_X3 (g 0) h T)) H1 := hP
    have hD : va_D (zA ((zB_X2 (g 0) o O) ++ (zB_X3 (g 0) h T))) ((zB_X2 (g 0) o (v_X2_lookAt O T (Int32.toNatClampNeg xb))) ++ (zB_X3 (g 0) h T)) := hD
    refine lv_iload_n hx hb dX2_eatersAt_16 rfl (lv_at hl 3 rfl) ?_
    refine lv_aload_n hx hb dX2_eatersAt_17 rfl (lv_at hl 0 rfl) ?_
    refine va_get (D := D) (ci := 2) (v := .int ((v_X2_lookAt O T (Int32.toNatClampNeg xb)) 1 0)) (C := RX2) (T := TX2) (N := 5) hx hb hts hinX2 hown hK.1 hP 0 rfl rfl 1 (by decide) (hts (.fieldLink RX2 31 "SaltShares$Outlook" "reach" "I") (List.mem_of_getElem? (i := 1) rfl)) (fun _ h9 => h9) rfl dX2_eatersAt_18 ?_
    refine lv_icmp_le (tgt := 26) hx hb dX2_eatersAt_21 (by decide) (fun c_5 => ?_) (fun c_5 => ?_)
    · have c_5 : sh ≤ ((v_X2_lookAt O T (Int32.toNatClampNeg xb)) 1 0) := c_5
      have hq := hq.trans (if_pos c_5)
      refine lv_aload_n hx hb dX2_eatersAt_26 rfl (lv_at hl 0 rfl) ?_
      refine va_get (D := D) (ci := 2) (v := .int ((v_X2_lookAt O T (Int32.toNatClampNeg xb)) 2 0)) (C := RX2) (T := TX2) (N := 5) hx hb hts hinX2 hown hK.1 hP 0 rfl rfl 2 (by decide) (hts (.fieldLink RX2 35 "SaltShares$Outlook" "sure" "I") (List.mem_of_getElem? (i := 2) rfl)) (fun _ h9 => h9) rfl dX2_eatersAt_27 ?_
      refine lv_istore (lv' := [(4, .int ((v_X2_lookAt O T (Int32.toNatClampNeg xb)) 2 0)), (0, .ref (o 0)), (1, .ref (h 0)), (2, .int (nI (Int32.toNatClampNeg xb))), (3, .int sh)]) hx hb dX2_eatersAt_30 hl (by decide) rfl (fun ls hl => ?_)
      refine lv_iconst (v := 0) hx hb dX2_eatersAt_32 (by decide) ?_
      refine lv_istore (lv' := [(5, .int 0), (4, .int ((v_X2_lookAt O T (Int32.toNatClampNeg xb)) 2 0)), (0, .ref (o 0)), (1, .ref (h 0)), (2, .int (nI (Int32.toNatClampNeg xb))), (3, .int sh)]) hx hb dX2_eatersAt_33 hl (by decide) rfl (fun ls hl => ?_)
      have L35 : ∀ (n : Nat) (eaters1 : Int32) (i : Nat), (i ≤ 100) → 100 - i < n → ∀ (H : Heap) (locs : List Loc), va_P D vwCl ((zB_X2 (g 0) o (v_X2_lookAt O T (Int32.toNatClampNeg xb))) ++ (zB_X3 (g 0) h T)) H → va_D (zA ((zB_X2 (g 0) o O) ++ (zB_X3 (g 0) h T))) ((zB_X2 (g 0) o (v_X2_lookAt O T (Int32.toNatClampNeg xb))) ++ (zB_X3 (g 0) h T)) → va_S (zA ((zB_X2 (g 0) o O) ++ (zB_X3 (g 0) h T))) s.heap H locs → ∀ (ls : Array Slot), lv_has ls 6 [(0, .ref (o 0)), (1, .ref (h 0)), (2, .int (nI (Int32.toNatClampNeg xb))), (3, .int sh), (4, .int eaters1), (5, .int (nI i))] → q = v_X2_eatersAt_35 O T xb sh n eaters1 i → W p l e (rmOf 4 89) s m [.ref (o 0), .ref (h 0), .int xb, .int sh].toArray below meth c H locs 0 0 (MQ below (zQw D ((zB_X2 (g 0) o O) ++ (zB_X3 (g 0) h T)) (some (.int q.1)) ((zB_X2 (g 0) o q.2) ++ (zB_X3 (g 0) h T))) [.ref (o 0), .ref (h 0), .int xb, .int sh].toArray s 0 0 (zA ((zB_X2 (g 0) o O) ++ (zB_X3 (g 0) h T)))) (F0 m 35 ls []) := by
        intro n
        induction n with
        | zero => intro eaters1 i v35_0 hn; exact absurd hn (Nat.not_lt_zero _)
        | succ n ih35 =>
          intro eaters1 i v35_0 hn35 H locs hP hD hS ls hl hq
          rw [v_X2_eatersAt_35] at hq
          refine lv_iload hx hb dX2_eatersAt_35 (lv_at hl 5 rfl) ?_
          refine lv_iload_n hx hb dX2_eatersAt_37 rfl (lv_at hl 3 rfl) ?_
          refine lv_icmp_ge (tgt := 71) hx hb dX2_eatersAt_38 (by decide) (fun c_6 => ?_) (fun c_6 => ?_)
          · have c_6 : sh ≤ (nI i) := c_6
            have hq := hq.trans (if_pos c_6)
            refine lv_iload hx hb dX2_eatersAt_71 (lv_at hl 4 rfl) ?_
            exact zretw_i hx hb hr hlocks dX2_eatersAt_73 hP hS (congrArg (fun z9 => z9.1) hq) (congrArg (fun z9 => (zB_X2 (g 0) o z9.2) ++ (zB_X3 (g 0) h T)) hq)
          · have c_6 : ¬ (sh ≤ (nI i)) := c_6
            have hq := hq.trans (if_neg c_6)
            refine lv_iload hx hb dX2_eatersAt_41 (lv_at hl 5 rfl) ?_
            refine lv_bipush (v := 100) hx hb dX2_eatersAt_43 (by decide) ?_
            refine lv_icmp_ge (tgt := 71) hx hb dX2_eatersAt_45 (by decide) (fun c_7 => ?_) (fun c_7 => ?_)
            · have c_7 : 100 ≤ i := (nI_leI (a := 100) (b := i) (by omega) (by omega)).mp c_7
              have hq := hq.trans (if_pos c_7)
              refine lv_iload hx hb dX2_eatersAt_71 (lv_at hl 4 rfl) ?_
              exact zretw_i hx hb hr hlocks dX2_eatersAt_73 hP hS (congrArg (fun z9 => z9.1) hq) (congrArg (fun z9 => (zB_X2 (g 0) o z9.2) ++ (zB_X3 (g 0) h T)) hq)
            · have c_7 : ¬ (100 ≤ i) := fun h9 => c_7 ((nI_leI (a := 100) (b := i) (by omega) (by omega)).mpr h9)
              have hq := hq.trans (if_neg c_7)
              refine lv_iload hx hb dX2_eatersAt_48 (lv_at hl 4 rfl) ?_
              refine lv_aload_n hx hb dX2_eatersAt_50 rfl (lv_at hl 0 rfl) ?_
              refine va_get (D := D) (ci := 2) (v := .ref (o 4)) (C := RX2) (T := TX2) (N := 5) hx hb hts hinX2 hown hK.1 hP 0 rfl rfl 3 (by decide) (hts (.fieldLink RX2 15 "SaltShares$Outlook" "newcomers" "[I") (List.mem_of_getElem? (i := 3) rfl)) (fun _ h9 => h9) rfl dX2_eatersAt_51 ?_
              refine lv_aload_n hx hb dX2_eatersAt_54 rfl (lv_at hl 0 rfl) ?_
              refine va_get (D := D) (ci := 2) (v := .ref (o 1)) (C := RX2) (T := TX2) (N := 5) hx hb hts hinX2 hown hK.1 hP 0 rfl rfl 0 (by decide) (hts (.fieldLink RX2 9 "SaltShares$Outlook" "row" "[I") (List.mem_of_getElem? (i := 4) rfl)) (fun _ h9 => h9) rfl dX2_eatersAt_55 ?_
              refine lv_iload hx hb dX2_eatersAt_58 (lv_at hl 5 rfl) ?_
              refine z_iald (i := i) hx hb hK hP 1 0 rfl rfl (by omega) (by decide) dX2_eatersAt_60 ?_
              refine va_iald hx hb hK.1 hP 2 0 rfl rfl (zrowA (by with_reducible assumption) (by with_reducible assumption) (by omega)) dX2_eatersAt_61 ?_
              refine lv_iadd hx hb dX2_eatersAt_62 ?_
              refine lv_istore (lv' := [(4, .int (eaters1 + (((v_X2_lookAt O T (Int32.toNatClampNeg xb)) 3) (Int32.toNatClampNeg (((v_X2_lookAt O T (Int32.toNatClampNeg xb)) 0) i))))), (0, .ref (o 0)), (1, .ref (h 0)), (2, .int (nI (Int32.toNatClampNeg xb))), (3, .int sh), (5, .int (nI i))]) hx hb dX2_eatersAt_63 hl (by decide) rfl (fun ls hl => ?_)
              refine lv_iinc (v := (nI (i + 1))) (lv' := [(5, .int (nI (i + 1))), (4, .int (eaters1 + (((v_X2_lookAt O T (Int32.toNatClampNeg xb)) 3) (Int32.toNatClampNeg (((v_X2_lookAt O T (Int32.toNatClampNeg xb)) 0) i))))), (0, .ref (o 0)), (1, .ref (h 0)), (2, .int (nI (Int32.toNatClampNeg xb))), (3, .int sh)]) hx hb dX2_eatersAt_65 hl (k := 5) rfl (nI_add _ 1) (by decide) rfl (fun ls hl => ?_)
              refine lv_goto (tgt := 35) hx hb dX2_eatersAt_68 (by decide) ?_
              exact ih35 (eaters1 + (((v_X2_lookAt O T (Int32.toNatClampNeg xb)) 3) (Int32.toNatClampNeg (((v_X2_lookAt O T (Int32.toNatClampNeg xb)) 0) i)))) (i + 1) (by omega) (by omega) _ _ hP hD hS ls (lv_sub hl [2, 3, 4, 5, 1, 0] rfl) hq
      exact L35 101 ((v_X2_lookAt O T (Int32.toNatClampNeg xb)) 2 0) 0 (by omega) (by omega) _ _ hP hD hS ls (lv_sub hl [2, 3, 4, 5, 1, 0] rfl) hq
    · have c_5 : ¬ (sh ≤ ((v_X2_lookAt O T (Int32.toNatClampNeg xb)) 1 0)) := c_5
      have hq := hq.trans (if_neg c_5)
      refine lv_iconst (v := (-1)) hx hb dX2_eatersAt_24 (by decide) ?_
      exact zretw_i hx hb hr hlocks dX2_eatersAt_25 hP hS (congrArg (fun z9 => z9.1) hq) (congrArg (fun z9 => (zB_X2 (g 0) o z9.2) ++ (zB_X3 (g 0) h T)) hq)
  · have hq := hq.trans (zif_f c_2)
    refine lv_iconst (v := (-1)) hx hb dX2_eatersAt_8 (by decide) ?_
    exact zretw_i hx hb hr hlocks dX2_eatersAt_9 hP hS (congrArg (fun z9 => z9.1) hq) (congrArg (fun z9 => (zB_X2 (g 0) o z9.2) ++ (zB_X3 (g 0) h T)) hq)
