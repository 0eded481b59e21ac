theorem zmx_96 (M : Nat → Nat → Int32) (b : Nat) : ∀ (n pe : Nat) (w : Int64), 150 - pe < n → (v_X5_mixBread_96 M b n pe w).1 = (v_X5_nextNow (v_X5_saltFor (v_X5_leastShare (v_X5_sharedThen M b 50).2 b 75).2 b 100).2 b).2
  | 0, _, _, h => absurd h (Nat.not_lt_zero _)
  | n + 1, pe, w, h => by
    rw [v_X5_mixBread_96]
    by_cases c : 150 ≤ pe
    · rw [if_pos c]
    · rw [if_neg c]; exact zmx_96 M b n (pe + 1) _ (by omega)
theorem zmx_2 (M : Nat → Nat → Int32) (b : Nat) : ∀ (n wh : Nat) (w : Int64), 12 - wh < n → (v_X5_mixBread_2 M b n wh w).1 = (v_X5_nextNow (v_X5_saltFor (v_X5_leastShare (v_X5_sharedThen M b 50).2 b 75).2 b 100).2 b).2
  | 0, _, _, h => absurd h (Nat.not_lt_zero _)
  | n + 1, wh, w, h => by
    rw [v_X5_mixBread_2]
    by_cases c : 12 ≤ wh
    · rw [if_pos c]; exact zmx_96 M b 151 0 _ (by omega)
    · rw [if_neg c]; exact zmx_2 M b n (wh + 1) _ (by omega)
theorem zmx {M : Nat → Nat → Int32} {b : Nat} {w : Int64} (hb : b < 8) (hI : zI M) (hbr : b < (M 0 1).toNatClampNeg) : (v_X5_mixBread M w b).1 0 = M 0 ∧ ∀ j, j ≠ 0 → j ≠ 6 → j ≠ 11 → (v_X5_mixBread M w b).1 j = M j := by
  have e : (v_X5_mixBread M w b).1 = (v_X5_nextNow (v_X5_saltFor (v_X5_leastShare (v_X5_sharedThen M b 50).2 b 75).2 b 100).2 b).2 := by unfold v_X5_mixBread; exact zmx_2 M b 13 0 w (by omega)
  rw [e]
  exact ⟨zmx4 hb hI hbr, fun j a c d => zmx4k hb hI hbr a c d⟩
def v_X5_digest_152 (M1 : Nat → Nat → Int32) : Nat → Nat → Int64 → Int64 × (Nat → Nat → Int32) × Int64
  | 0, _, _ => (0, (fun _ _ => 0), 0)
  | n + 1, i, w1'''' => (if Int32.toNatClampNeg (M1 3 0) ≤ i then (w1'''', M1, w1'''') else v_X5_digest_152 M1 n (i + 1) (v_X5_mix M1 w1'''' (Int32.toInt64 (M1 4 i))))
def v_X5_digest_114 (M1 : Nat → Nat → Int32) : Nat → Nat → Int64 → Int64 × (Nat → Nat → Int32) × Int64
  | 0, _, _ => (0, (fun _ _ => 0), 0)
  | n + 1, k', w1''' => (if 300 ≤ k' then v_X5_digest_152 M1 61 0 (v_X5_mix M1 w1''' (Int32.toInt64 (M1 3 0))) else v_X5_digest_114 M1 n (k' + 1) (v_X5_mix M1 w1''' (Int32.toInt64 (M1 0 (53 + k')))))
def v_X5_digest_84 (M1 : Nat → Nat → Int32) : Nat → Nat → Int64 → Int64 × (Nat → Nat → Int32) × Int64
  | 0, _, _ => (0, (fun _ _ => 0), 0)
  | n + 1, k, w1'' => (if 750 ≤ k then v_X5_digest_114 M1 301 0 w1'' else v_X5_digest_84 M1 n (k + 1) (v_X5_mix M1 w1'' (Int32.toInt64 (v_X5_personNow M1 (k / 5) (k % 5)))))
def v_X5_digest_61  : Nat → Nat → (Nat → Nat → Int32) → Int64 → Int64 × (Nat → Nat → Int32) × Int64
  | 0, _, _, _ => (0, (fun _ _ => 0), 0)
  | n + 1, b, M1, w1' => (if (M1 0 1) ≤ (nI b) then v_X5_digest_84 M1 751 0 w1' else v_X5_digest_61 n (b + 1) ((v_X5_mixBread M1 w1' b).1) ((v_X5_mixBread M1 w1' b).2))
def v_X5_digest_14 (M : Nat → Nat → Int32) : Nat → Nat → Int64 → Int64 × (Nat → Nat → Int32) × Int64
  | 0, _, _ => (0, (fun _ _ => 0), 0)
  | n + 1, wh, w1 => (if 23 ≤ wh then v_X5_digest_61 9 0 (zU M 5 (fun _ => 0)) w1 else (if wh < 9 then v_X5_digest_14 M n (wh + 1) (v_X5_mix (zU M 5 (fun _ => 0)) w1 (Int32.toInt64 (v_X5_counted (zU M 5 (fun _ => 0)) wh))) else (if (v_X5_within (nI wh) 10 12) = true then v_X5_digest_14 M n (wh + 1) (v_X5_mix (zU M 5 (fun _ => 0)) w1 (Int32.toInt64 (v_X5_counted (zU M 5 (fun _ => 0)) wh))) else (if wh ≤ 19 then v_X5_digest_14 M n (wh + 1) w1 else v_X5_digest_14 M n (wh + 1) (v_X5_mix (zU M 5 (fun _ => 0)) w1 (Int32.toInt64 (v_X5_counted (zU M 5 (fun _ => 0)) wh)))))))
def v_X5_digest (M : Nat → Nat → Int32) (w : Int64) : Int64 × (Nat → Nat → Int32) × Int64 := v_X5_digest_14 M 24 0 2459
set_option maxHeartbeats 400000 in
set_option maxRecDepth 100000 in
theorem c_X5_digest (l : Launch) (D : va_G) (g : Nat → ClassId) (u : Nat → Nat) (M : Nat → Nat → Int32) (w : Int64) (z0 : zI M) (z1 : vp_in (M 3 0) 61) : Wr l D (zT g) yX5_digest wsX5_digest (rmOf 8 183) [.ref (u 0)] (zB_X5 (g 0) u M w) (some (.long ((v_X5_digest M w).1))) (zB_X5 (g 0) u ((v_X5_digest M w).2.1) ((v_X5_digest M w).2.2)) := by
  refine Wr.of (cc := cX5_digest) (maxL := 2) (ret := (some .long)) (by decide) rfl (Nat.le_of_ble_eq_true rfl) ?_
  intro p e s m below meth c ls hx hb hr hml hown hts hlocks hP hD hS hK hl
  have hown : s.vm.findClass RX5 = some m.cls := hown
  have hinX5 : ∀ w ∈ u_ws RX5 TX5 13, w ∈ wsX5_digest := fun _ h9 => (List.mem_cons_of_mem _ (List.mem_append_right _ h9))
  obtain ⟨q, hq⟩ : ∃ q : Int64 × (Nat → Nat → Int32) × Int64, q = v_X5_digest M w := ⟨_, rfl⟩
  rw [← hq]
  unfold v_X5_digest at hq
  have hl : lv_has ls 2 [(0, .ref (u 0))] := hl
  refine lv_aload_n hx hb dX5_digest_0 rfl (lv_at hl 0 rfl) ?_
  refine lv_iconst (v := 0) hx hb dX5_digest_1 (by decide) ?_
  refine va_put (D := D) (ci := 5) (v := .int 0) (ty := .int) (C := RX5) (T := TX5) (N := 13) hx hb hts hinX5 tyX5 tyX5_ok nmX5 hown hK.1 hP hD hS 0 rfl rfl 5 (by decide) (hts (.fieldLink RX5 28 "SaltSharesModel" "thrown" "I") (List.mem_of_getElem? (i := 1) rfl)) (fun _ h9 => h9) rfl (by decide +kernel) rfl rfl (Nat.le_of_ble_eq_true rfl) dX5_digest_2 (fun H locs hP hD hS => ?_)
  have hP : va_P D vwCl (zB_X5 (g 0) u (zU M 5 (fun _ => 0)) w) H := hP
  have hD : va_D (zA (zB_X5 (g 0) u M w)) (zB_X5 (g 0) u (zU M 5 (fun _ => 0)) w) := hD
  refine lv_aload_n hx hb dX5_digest_5 rfl (lv_at hl 0 rfl) ?_
  refine lv_ldc2 (v := 2459) hx hb hown (hts (.constantLong RX5 263 (2459)) (List.mem_of_getElem? (i := 2) rfl)) dX5_digest_6 ?_
  refine va_put (D := D) (ci := 5) (v := .long 2459) (ty := .long) (C := RX5) (T := TX5) (N := 13) hx hb hts hinX5 tyX5 tyX5_ok nmX5 hown hK.1 hP hD hS 0 rfl rfl 12 (by decide) (hts (.fieldLink RX5 249 "SaltSharesModel" "hash" "J") (List.mem_of_getElem? (i := 3) rfl)) (fun _ h9 => h9) rfl (by decide +kernel) rfl rfl (Nat.le_of_ble_eq_true rfl) dX5_digest_9 (fun H locs hP hD hS => ?_)
  have hP : va_P D vwCl (zB_X5 (g 0) u (zU M 5 (fun _ => 0)) 2459) H := hP
  have hD : va_D (zA (zB_X5 (g 0) u M w)) (zB_X5 (g 0) u (zU M 5 (fun _ => 0)) 2459) := hD
  refine lv_iconst (v := 0) hx hb dX5_digest_12 (by decide) ?_
  refine lv_istore_n (lv' := [(1, .int 0), (0, .ref (u 0))]) hx hb dX5_digest_13 rfl hl (by decide) rfl (fun ls hl => ?_)
  have L14 : ∀ (n : Nat) (wh : Nat) (w1 : Int64), (wh ≤ 23) → 23 - wh < n → ∀ (H : Heap) (locs : List Loc), va_P D vwCl (zB_X5 (g 0) u (zU M 5 (fun _ => 0)) w1) H → va_D (zA (zB_X5 (g 0) u M w)) (zB_X5 (g 0) u (zU M 5 (fun _ => 0)) w1) → va_S (zA (zB_X5 (g 0) u M w)) s.heap H locs → ∀ (ls : Array Slot), lv_has ls 2 [(0, .ref (u 0)), (1, .int (nI wh))] → q = v_X5_digest_14 M n wh w1 → W p l e (rmOf 8 183) s m [.ref (u 0)].toArray below meth c H locs 0 0 (MQ below (zQw D (zB_X5 (g 0) u M w) (some (.long q.1)) (zB_X5 (g 0) u q.2.1 q.2.2)) [.ref (u 0)].toArray s 0 0 (zA (zB_X5 (g 0) u M w))) (F0 m 14 ls []) := by
    intro n
    induction n with
    | zero => intro wh w1 v14_0 hn; exact absurd hn (Nat.not_lt_zero _)
    | succ n ih14 =>
      intro wh w1 v14_0 hn14 H locs hP hD hS ls hl hq
      rw [v_X5_digest_14] at hq
      refine lv_iload_n hx hb dX5_digest_14 rfl (lv_at hl 1 rfl) ?_
      refine lv_bipush (v := 23) hx hb dX5_digest_15 (by decide) ?_
      refine lv_icmp_ge (tgt := 59) hx hb dX5_digest_17 (by decide) (fun c_1 => ?_) (fun c_1 => ?_)
      · have c_1 : 23 ≤ wh := (nI_leI (a := 23) (b := wh) (by omega) (by omega)).mp c_1
        have hq := hq.trans (if_pos c_1)
        refine lv_iconst (v := 0) hx hb dX5_digest_59 (by decide) ?_
        refine lv_istore_n (lv' := [(1, .int 0), (0, .ref (u 0))]) hx hb dX5_digest_60 rfl hl (by decide) rfl (fun ls hl => ?_)
        have L61 : ∀ (n : Nat) (b : Nat) (M1 : Nat → Nat → Int32) (w1' : Int64), (b ≤ 8) → (M1 0 = M 0) → (M1 3 = M 3) → 8 - b < n → ∀ (H : Heap) (locs : List Loc), va_P D vwCl (zB_X5 (g 0) u M1 w1') H → va_D (zA (zB_X5 (g 0) u M w)) (zB_X5 (g 0) u M1 w1') → va_S (zA (zB_X5 (g 0) u M w)) s.heap H locs → ∀ (ls : Array Slot), lv_has ls 2 [(0, .ref (u 0)), (1, .int (nI b))] → q = v_X5_digest_61 n b M1 w1' → W p l e (rmOf 8 183) s m [.ref (u 0)].toArray below meth c H locs 0 0 (MQ below (zQw D (zB_X5 (g 0) u M w) (some (.long q.1)) (zB_X5 (g 0) u q.2.1 q.2.2)) [.ref (u 0)].toArray s 0 0 (zA (zB_X5 (g 0) u M w))) (F0 m 61 ls []) := by
          intro n
          induction n with
          | zero => intro b M1 w1' v61_0 v61_1 v61_2 hn; exact absurd hn (Nat.not_lt_zero _)
          | succ n ih61 =>
            intro b M1 w1' v61_0 v61_1 v61_2 hn61 H locs hP hD hS ls hl hq
            rw [v_X5_digest_61] at hq
            refine lv_iload_n hx hb dX5_digest_61 rfl (lv_at hl 1 rfl) ?_
            refine lv_aload_n hx hb dX5_digest_62 rfl (lv_at hl 0 rfl) ?_
            refine va_get (D := D) (ci := 5) (v := .ref (u 1)) (C := RX5) (T := TX5) (N := 13) hx hb hts hinX5 hown hK.1 hP 0 rfl rfl 0 (by decide) (hts (.fieldLink RX5 7 "SaltSharesModel" "z" "[I") (List.mem_of_getElem? (i := 4) rfl)) (fun _ h9 => h9) rfl dX5_digest_63 ?_
            refine lv_iconst (v := 1) hx hb dX5_digest_66 (by decide) ?_
            refine z_iald (i := 1) hx hb hK hP 1 0 rfl rfl (by omega) (by decide) dX5_digest_67 ?_
            refine lv_icmp_ge (tgt := 82) hx hb dX5_digest_68 (by decide) (fun c_2 => ?_) (fun c_2 => ?_)
            · have c_2 : (M1 0 1) ≤ (nI b) := c_2
              have hq := hq.trans (if_pos c_2)
              refine lv_iconst (v := 0) hx hb dX5_digest_82 (by decide) ?_
              refine lv_istore_n (lv' := [(1, .int 0), (0, .ref (u 0))]) hx hb dX5_digest_83 rfl hl (by decide) rfl (fun ls hl => ?_)
              have L84 : ∀ (n : Nat) (k : Nat) (w1'' : Int64), (k ≤ 750) → 750 - k < n → ∀ (H : Heap) (locs : List Loc), va_P D vwCl (zB_X5 (g 0) u M1 w1'') H → va_D (zA (zB_X5 (g 0) u M w)) (zB_X5 (g 0) u M1 w1'') → va_S (zA (zB_X5 (g 0) u M w)) s.heap H locs → ∀ (ls : Array Slot), lv_has ls 2 [(0, .ref (u 0)), (1, .int (nI k))] → q = v_X5_digest_84 M1 n k w1'' → W p l e (rmOf 8 183) s m [.ref (u 0)].toArray below meth c H locs 0 0 (MQ below (zQw D (zB_X5 (g 0) u M w) (some (.long q.1)) (zB_X5 (g 0) u q.2.1 q.2.2)) [.ref (u 0)].toArray s 0 0 (zA (zB_X5 (g 0) u M w))) (F0 m 84 ls []) := by
                intro n
                induction n with
                | zero => intro k w1'' v84_0 hn; exact absurd hn (Nat.not_lt_zero _)
                | succ n ih84 =>
                  intro k w1'' v84_0 hn84 H locs hP hD hS ls hl hq
                  rw [v_X5_digest_84] at hq
                  refine lv_iload_n hx hb dX5_digest_84 rfl (lv_at hl 1 rfl) ?_
                  refine lv_sipush (v := 750) hx hb dX5_digest_85 (by decide) ?_
                  refine lv_icmp_ge (tgt := 112) hx hb dX5_digest_88 (by decide) (fun c_3 => ?_) (fun c_3 => ?_)
                  · have c_3 : 750 ≤ k := (nI_leI (a := 750) (b := k) (by omega) (by omega)).mp c_3
                    have hq := hq.trans (if_pos c_3)
                    refine lv_iconst (v := 0) hx hb dX5_digest_112 (by decide) ?_
                    refine lv_istore_n (lv' := [(1, .int 0), (0, .ref (u 0))]) hx hb dX5_digest_113 rfl hl (by decide) rfl (fun ls hl => ?_)
                    have L114 : ∀ (n : Nat) (k' : Nat) (w1''' : Int64), (k' ≤ 300) → 300 - k' < n → ∀ (H : Heap) (locs : List Loc), va_P D vwCl (zB_X5 (g 0) u M1 w1''') H → va_D (zA (zB_X5 (g 0) u M w)) (zB_X5 (g 0) u M1 w1''') → va_S (zA (zB_X5 (g 0) u M w)) s.heap H locs → ∀ (ls : Array Slot), lv_has ls 2 [(0, .ref (u 0)), (1, .int (nI k'))] → q = v_X5_digest_114 M1 n k' w1''' → W p l e (rmOf 8 183) s m [.ref (u 0)].toArray below meth c H locs 0 0 (MQ below (zQw D (zB_X5 (g 0) u M w) (some (.long q.1)) (zB_X5 (g 0) u q.2.1 q.2.2)) [.ref (u 0)].toArray s 0 0 (zA (zB_X5 (g 0) u M w))) (F0 m 114 ls []) := by
                      intro n
                      induction n with
                      | zero => intro k' w1''' v114_0 hn; exact absurd hn (Nat.not_lt_zero _)
                      | succ n ih114 =>
                        intro k' w1''' v114_0 hn114 H locs hP hD hS ls hl hq
                        rw [v_X5_digest_114] at hq
                        refine lv_iload_n hx hb dX5_digest_114 rfl (lv_at hl 1 rfl) ?_
                        refine lv_sipush (v := 300) hx hb dX5_digest_115 (by decide) ?_
                        refine lv_icmp_ge (tgt := 141) hx hb dX5_digest_118 (by decide) (fun c_4 => ?_) (fun c_4 => ?_)
                        · have c_4 : 300 ≤ k' := (nI_leI (a := 300) (b := k') (by omega) (by omega)).mp c_4
                          have hq := hq.trans (if_pos c_4)
                          refine lv_aload_n hx hb dX5_digest_141 rfl (lv_at hl 0 rfl) ?_
                          refine lv_aload_n hx hb dX5_digest_142 rfl (lv_at hl 0 rfl) ?_
                          refine va_get (D := D) (ci := 5) (v := .int (M1 3 0)) (C := RX5) (T := TX5) (N := 13) hx hb hts hinX5 hown hK.1 hP 0 rfl rfl 3 (by decide) (hts (.fieldLink RX5 153 "SaltSharesModel" "length" "I") (List.mem_of_getElem? (i := 5) rfl)) (fun _ h9 => h9) rfl dX5_digest_143 ?_
                          refine lv_i2l hx hb dX5_digest_146 rfl ?_
                          refine zcVw (ci := 5) (n := 1) (c_X5_mix l D g u M1 w1''' (Int32.toInt64 (M1 3 0))) hx hb hml hown hts gX5_digest_X5_mix rfl ⟨rfl, by decide, by decide, by decide⟩ ⟨Nat.le_of_ble_eq_true rfl, Nat.le_of_ble_eq_true rfl⟩ ⟨rfl, rfl⟩ hK hP hD rfl rfl rfl hS hl.1 rfl rfl (Nat.le_of_ble_eq_true rfl) ⟨Nat.zero_le _, Nat.zero_le _⟩ dX5_digest_147 (fun H1 locs hP1 hk1 hS => ?_)
                          have hD := zD_addr (ws' := zB_X5 (g 0) u M1 (v_X5_mix M1 w1''' (Int32.toInt64 (M1 3 0)))) hD (by simp only [zF, List.flatten_cons, List.flatten_nil, List.append_nil, List.map_append, List.map_cons, List.map_nil, zad_X0, zad_X1, zad_X2, zad_X3, zad_X4, zad_X5]); have hP := hP1
                          clear hP1 hk1
                          have hP : va_P D vwCl (zB_X5 (g 0) u M1 (v_X5_mix M1 w1''' (Int32.toInt64 (M1 3 0)))) H1 := hP
                          have hD : va_D (zA (zB_X5 (g 0) u M w)) (zB_X5 (g 0) u M1 (v_X5_mix M1 w1''' (Int32.toInt64 (M1 3 0)))) := hD
                          refine lv_iconst (v := 0) hx hb dX5_digest_150 (by decide) ?_
                          refine lv_istore_n (lv' := [(1, .int 0), (0, .ref (u 0))]) hx hb dX5_digest_151 rfl hl (by decide) rfl (fun ls hl => ?_)
                          have L152 : ∀ (n : Nat) (i : Nat) (w1'''' : Int64), (i ≤ 60) → 60 - i < n → ∀ (H : Heap) (locs : List Loc), va_P D vwCl (zB_X5 (g 0) u M1 w1'''') H → va_D (zA (zB_X5 (g 0) u M w)) (zB_X5 (g 0) u M1 w1'''') → va_S (zA (zB_X5 (g 0) u M w)) s.heap H locs → ∀ (ls : Array Slot), lv_has ls 2 [(0, .ref (u 0)), (1, .int (nI i))] → q = v_X5_digest_152 M1 n i w1'''' → W p l e (rmOf 8 183) s m [.ref (u 0)].toArray below meth c H locs 0 0 (MQ below (zQw D (zB_X5 (g 0) u M w) (some (.long q.1)) (zB_X5 (g 0) u q.2.1 q.2.2)) [.ref (u 0)].toArray s 0 0 (zA (zB_X5 (g 0) u M w))) (F0 m 152 ls []) := by
                            intro n
                            induction n with
                            | zero => intro i w1'''' v152_0 hn; exact absurd hn (Nat.not_lt_zero _)
                            | succ n ih152 =>
                              intro i w1'''' v152_0 hn152 H locs hP hD hS ls hl hq
                              rw [v_X5_digest_152] at hq
                              refine lv_iload_n hx hb dX5_digest_152 rfl (lv_at hl 1 rfl) ?_
                              refine lv_aload_n hx hb dX5_digest_153 rfl (lv_at hl 0 rfl) ?_
                              refine va_get (D := D) (ci := 5) (v := .int (M1 3 0)) (C := RX5) (T := TX5) (N := 13) hx hb hts hinX5 hown hK.1 hP 0 rfl rfl 3 (by decide) (hts (.fieldLink RX5 153 "SaltSharesModel" "length" "I") (List.mem_of_getElem? (i := 5) rfl)) (fun _ h9 => h9) rfl dX5_digest_154 ?_
                              have w_6 := znat (show vp_in (M1 3 0) 61 from (by rw [v61_2]; exact z1))
                              have w_6b := w_6.2
                              refine lv_is w_6.1 ?_
                              refine lv_icmp_ge (tgt := 177) hx hb dX5_digest_157 (by decide) (fun c_7 => ?_) (fun c_7 => ?_)
                              · have c_7 : Int32.toNatClampNeg (M1 3 0) ≤ i := (nI_leI (a := Int32.toNatClampNeg (M1 3 0)) (b := i) (by omega) (by omega)).mp c_7
                                have hq := hq.trans (if_pos c_7)
                                refine lv_aload_n hx hb dX5_digest_177 rfl (lv_at hl 0 rfl) ?_
                                refine va_get (D := D) (ci := 5) (v := .long w1'''') (C := RX5) (T := TX5) (N := 13) hx hb hts hinX5 hown hK.1 hP 0 rfl rfl 12 (by decide) (hts (.fieldLink RX5 249 "SaltSharesModel" "hash" "J") (List.mem_of_getElem? (i := 3) rfl)) (fun _ h9 => h9) rfl dX5_digest_178 ?_
                                exact zretw_l hx hb hr hlocks dX5_digest_181 hP hS (by with_reducible exact congrArg (fun z9 => z9.1) hq) (by with_reducible exact congrArg (fun z9 => zB_X5 (g 0) u z9.2.1 z9.2.2) hq)
                              · have c_7 : ¬ (Int32.toNatClampNeg (M1 3 0) ≤ i) := fun h9 => c_7 ((nI_leI (a := Int32.toNatClampNeg (M1 3 0)) (b := i) (by omega) (by omega)).mpr h9)
                                have hq := hq.trans (if_neg c_7)
                                refine lv_aload_n hx hb dX5_digest_160 rfl (lv_at hl 0 rfl) ?_
                                refine lv_aload_n hx hb dX5_digest_161 rfl (lv_at hl 0 rfl) ?_
                                refine va_get (D := D) (ci := 5) (v := .ref (u 5)) (C := RX5) (T := TX5) (N := 13) hx hb hts hinX5 hown hK.1 hP 0 rfl rfl 4 (by decide) (hts (.fieldLink RX5 16 "SaltSharesModel" "text" "[I") (List.mem_of_getElem? (i := 6) rfl)) (fun _ h9 => h9) rfl dX5_digest_162 ?_
                                refine lv_iload_n hx hb dX5_digest_165 rfl (lv_at hl 1 rfl) ?_
                                refine z_iald (i := i) hx hb hK hP 3 0 rfl rfl (by omega) (by decide) dX5_digest_166 ?_
                                refine lv_i2l hx hb dX5_digest_167 rfl ?_
                                refine zcVw (ci := 5) (n := 1) (c_X5_mix l D g u M1 w1'''' (Int32.toInt64 (M1 4 i))) hx hb hml hown hts gX5_digest_X5_mix rfl ⟨rfl, by decide, by decide, by decide⟩ ⟨Nat.le_of_ble_eq_true rfl, Nat.le_of_ble_eq_true rfl⟩ ⟨rfl, rfl⟩ hK hP hD rfl rfl rfl hS hl.1 rfl rfl (Nat.le_of_ble_eq_true rfl) ⟨Nat.zero_le _, Nat.zero_le _⟩ dX5_digest_168 (fun H1 locs hP1 hk1 hS => ?_)
                                have hD := zD_addr (ws' := zB_X5 (g 0) u M1 (v_X5_mix M1 w1'''' (Int32.toInt64 (M1 4 i)))) hD (by simp only [zF, List.flatten_cons, List.flatten_nil, List.append_nil, List.map_append, List.map_cons, List.map_nil, zad_X0, zad_X1, zad_X2, zad_X3, zad_X4, zad_X5]); have hP := hP1
                                clear hP1 hk1
                                have hP : va_P D vwCl (zB_X5 (g 0) u M1 (v_X5_mix M1 w1'''' (Int32.toInt64 (M1 4 i)))) H1 := hP
                                have hD : va_D (zA (zB_X5 (g 0) u M w)) (zB_X5 (g 0) u M1 (v_X5_mix M1 w1'''' (Int32.toInt64 (M1 4 i)))) := hD
                                refine lv_iinc (v := (nI (i + 1))) (lv' := [(1, .int (nI (i + 1))), (0, .ref (u 0))]) hx hb dX5_digest_171 hl (k := 1) rfl (nI_add _ 1) (by decide) rfl (fun ls hl => ?_)
                                refine lv_goto (tgt := 152) hx hb dX5_digest_174 (by decide) ?_
                                exact ih152 (i + 1) (v_X5_mix M1 w1'''' (Int32.toInt64 (M1 4 i))) (by omega) (by omega) _ _ hP hD hS ls (lv_sub hl [1, 0] rfl) hq
                          exact L152 61 0 (v_X5_mix M1 w1''' (Int32.toInt64 (M1 3 0))) (by omega) (by omega) _ _ hP hD hS ls (lv_sub hl [1, 0] rfl) hq
                        · have c_4 : ¬ (300 ≤ k') := fun h9 => c_4 ((nI_leI (a := 300) (b := k') (by omega) (by omega)).mpr h9)
                          have hq := hq.trans (if_neg c_4)
                          refine lv_aload_n hx hb dX5_digest_121 rfl (lv_at hl 0 rfl) ?_
                          refine lv_aload_n hx hb dX5_digest_122 rfl (lv_at hl 0 rfl) ?_
                          refine va_get (D := D) (ci := 5) (v := .ref (u 1)) (C := RX5) (T := TX5) (N := 13) hx hb hts hinX5 hown hK.1 hP 0 rfl rfl 0 (by decide) (hts (.fieldLink RX5 7 "SaltSharesModel" "z" "[I") (List.mem_of_getElem? (i := 4) rfl)) (fun _ h9 => h9) rfl dX5_digest_123 ?_
                          refine lv_bipush (v := 53) hx hb dX5_digest_126 (by decide) ?_
                          refine lv_iload_n hx hb dX5_digest_128 rfl (lv_at hl 1 rfl) ?_
                          refine lv_iadd hx hb dX5_digest_129 ?_
                          refine lv_is (show (53 : Int32) + (nI k') = (nI (53 + k')) from nI_add 53 k') ?_
                          refine z_iald (i := 53 + k') hx hb hK hP 1 0 rfl rfl (by omega) (by decide) dX5_digest_130 ?_
                          refine lv_i2l hx hb dX5_digest_131 rfl ?_
                          refine zcVw (ci := 5) (n := 1) (c_X5_mix l D g u M1 w1''' (Int32.toInt64 (M1 0 (53 + k')))) hx hb hml hown hts gX5_digest_X5_mix rfl ⟨rfl, by decide, by decide, by decide⟩ ⟨Nat.le_of_ble_eq_true rfl, Nat.le_of_ble_eq_true rfl⟩ ⟨rfl, rfl⟩ hK hP hD rfl rfl rfl hS hl.1 rfl rfl (Nat.le_of_ble_eq_true rfl) ⟨Nat.zero_le _, Nat.zero_le _⟩ dX5_digest_132 (fun H1 locs hP1 hk1 hS => ?_)
                          have hD := zD_addr (ws' := zB_X5 (g 0) u M1 (v_X5_mix M1 w1''' (Int32.toInt64 (M1 0 (53 + k'))))) hD (by simp only [zF, List.flatten_cons, List.flatten_nil, List.append_nil, List.map_append, List.map_cons, List.map_nil, zad_X0, zad_X1, zad_X2, zad_X3, zad_X4, zad_X5]); have hP := hP1
                          clear hP1 hk1
                          have hP : va_P D vwCl (zB_X5 (g 0) u M1 (v_X5_mix M1 w1''' (Int32.toInt64 (M1 0 (53 + k'))))) H1 := hP
                          have hD : va_D (zA (zB_X5 (g 0) u M w)) (zB_X5 (g 0) u M1 (v_X5_mix M1 w1''' (Int32.toInt64 (M1 0 (53 + k'))))) := hD
                          refine lv_iinc (v := (nI (k' + 1))) (lv' := [(1, .int (nI (k' + 1))), (0, .ref (u 0))]) hx hb dX5_digest_135 hl (k := 1) rfl (nI_add _ 1) (by decide) rfl (fun ls hl => ?_)
                          refine lv_goto (tgt := 114) hx hb dX5_digest_138 (by decide) ?_
                          exact ih114 (k' + 1) (v_X5_mix M1 w1''' (Int32.toInt64 (M1 0 (53 + k')))) (by omega) (by omega) _ _ hP hD hS ls (lv_sub hl [1, 0] rfl) hq
                    exact L114 301 0 w1'' (by omega) (by omega) _ _ hP hD hS ls (lv_sub hl [1, 0] rfl) hq
                  · have c_3 : ¬ (750 ≤ k) := fun h9 => c_3 ((nI_leI (a := 750) (b := k) (by omega) (by omega)).mpr h9)
                    have hq := hq.trans (if_neg c_3)
                    refine lv_aload_n hx hb dX5_digest_91 rfl (lv_at hl 0 rfl) ?_
                    refine lv_aload_n hx hb dX5_digest_92 rfl (lv_at hl 0 rfl) ?_
                    refine lv_iload_n hx hb dX5_digest_93 rfl (lv_at hl 1 rfl) ?_
                    refine lv_iconst (v := 5) hx hb dX5_digest_94 (by decide) ?_
                    refine lv_idiv hx hb dX5_digest_95 (by decide) ?_
                    refine lv_is (show (nI k) / 5 = (nI (k / 5)) from (zdiv5 (by omega))) ?_
                    refine lv_iload_n hx hb dX5_digest_96 rfl (lv_at hl 1 rfl) ?_
                    refine lv_iconst (v := 5) hx hb dX5_digest_97 (by decide) ?_
                    refine lv_irem hx hb dX5_digest_98 (by decide) ?_
                    refine lv_is (show (nI k) - (nI k) / 5 * 5 = (nI (k % 5)) from (zrem5 (by omega))) ?_
                    refine zcV (ci := 5) (n := 2) (c_X5_personNow l D g u M1 w1'' (k / 5) (k % 5) (by omega) (zI_G (zI_row v61_1 z0)) (zI_B (zI_row v61_1 z0)) (by omega)) hx hb hml hown hts gX5_digest_X5_personNow rfl ⟨rfl, by decide, by decide, by decide⟩ ⟨Nat.le_of_ble_eq_true rfl, Nat.le_of_ble_eq_true rfl⟩ ⟨rfl, rfl⟩ hK hP rfl rfl rfl hl.1 rfl rfl (Nat.le_of_ble_eq_true rfl) ⟨Nat.zero_le _, Nat.zero_le _⟩ dX5_digest_99 ?_
                    refine lv_i2l hx hb dX5_digest_102 rfl ?_
                    refine zcVw (ci := 5) (n := 1) (c_X5_mix l D g u M1 w1'' (Int32.toInt64 (v_X5_personNow M1 (k / 5) (k % 5)))) hx hb hml hown hts gX5_digest_X5_mix rfl ⟨rfl, by decide, by decide, by decide⟩ ⟨Nat.le_of_ble_eq_true rfl, Nat.le_of_ble_eq_true rfl⟩ ⟨rfl, rfl⟩ hK hP hD rfl rfl rfl hS hl.1 rfl rfl (Nat.le_of_ble_eq_true rfl) ⟨Nat.zero_le _, Nat.zero_le _⟩ dX5_digest_103 (fun H1 locs hP1 hk1 hS => ?_)
                    have hD := zD_addr (ws' := zB_X5 (g 0) u M1 (v_X5_mix M1 w1'' (Int32.toInt64 (v_X5_personNow M1 (k / 5) (k % 5))))) hD (by simp only [zF, List.flatten_cons, List.flatten_nil, List.append_nil, List.map_append, List.map_cons, List.map_nil, zad_X0, zad_X1, zad_X2, zad_X3, zad_X4, zad_X5]); have hP := hP1
                    clear hP1 hk1
                    have hP : va_P D vwCl (zB_X5 (g 0) u M1 (v_X5_mix M1 w1'' (Int32.toInt64 (v_X5_personNow M1 (k / 5) (k % 5))))) H1 := hP
                    have hD : va_D (zA (zB_X5 (g 0) u M w)) (zB_X5 (g 0) u M1 (v_X5_mix M1 w1'' (Int32.toInt64 (v_X5_personNow M1 (k / 5) (k % 5))))) := hD
                    refine lv_iinc (v := (nI (k + 1))) (lv' := [(1, .int (nI (k + 1))), (0, .ref (u 0))]) hx hb dX5_digest_106 hl (k := 1) rfl (nI_add _ 1) (by decide) rfl (fun ls hl => ?_)
                    refine lv_goto (tgt := 84) hx hb dX5_digest_109 (by decide) ?_
                    exact ih84 (k + 1) (v_X5_mix M1 w1'' (Int32.toInt64 (v_X5_personNow M1 (k / 5) (k % 5)))) (by omega) (by omega) _ _ hP hD hS ls (lv_sub hl [1, 0] rfl) hq
              exact L84 751 0 w1' (by omega) (by omega) _ _ hP hD hS ls (lv_sub hl [1, 0] rfl) hq
            · have c_2 : ¬ ((M1 0 1) ≤ (nI b)) := c_2
              have hq := hq.trans (if_neg c_2)
              have i8 := zlt8 (by with_reducible assumption) (show vp_in (M1 0 1) 9 from (by rw [v61_1]; exact zI_B z0)) (by omega)
              have ir := zltn (by with_reducible assumption) (show vp_in (M1 0 1) 9 from (by rw [v61_1]; exact zI_B z0)) (by omega)
              refine lv_aload_n hx hb dX5_digest_71 rfl (lv_at hl 0 rfl) ?_
              refine lv_iload_n hx hb dX5_digest_72 rfl (lv_at hl 1 rfl) ?_
              refine zcVw (ci := 5) (n := 1) (c_X5_mixBread l D g u M1 w1' b i8 (zI_row v61_1 z0) ir) hx hb hml hown hts gX5_digest_X5_mixBread rfl ⟨rfl, by decide, by decide, by decide⟩ ⟨Nat.le_of_ble_eq_true rfl, Nat.le_of_ble_eq_true rfl⟩ ⟨rfl, rfl⟩ hK hP hD rfl rfl rfl hS hl.1 rfl rfl (Nat.le_of_ble_eq_true rfl) ⟨Nat.zero_le _, Nat.zero_le _⟩ dX5_digest_73 (fun H1 locs hP1 hk1 hS => ?_)
              have hD := zD_addr (ws' := zB_X5 (g 0) u ((v_X5_mixBread M1 w1' b).1) ((v_X5_mixBread M1 w1' b).2)) hD (by simp only [zF, List.flatten_cons, List.flatten_nil, List.append_nil, List.map_append, List.map_cons, List.map_nil, zad_X0, zad_X1, zad_X2, zad_X3, zad_X4, zad_X5]); have hP := hP1
              clear hP1 hk1
              have hP : va_P D vwCl (zB_X5 (g 0) u ((v_X5_mixBread M1 w1' b).1) ((v_X5_mixBread M1 w1' b).2)) H1 := hP
              have hD : va_D (zA (zB_X5 (g 0) u M w)) (zB_X5 (g 0) u ((v_X5_mixBread M1 w1' b).1) ((v_X5_mixBread M1 w1' b).2)) := hD
              refine lv_iinc (v := (nI (b + 1))) (lv' := [(1, .int (nI (b + 1))), (0, .ref (u 0))]) hx hb dX5_digest_76 hl (k := 1) rfl (nI_add _ 1) (by decide) rfl (fun ls hl => ?_)
              refine lv_goto (tgt := 61) hx hb dX5_digest_79 (by decide) ?_
              exact ih61 (b + 1) ((v_X5_mixBread M1 w1' b).1) ((v_X5_mixBread M1 w1' b).2) (by omega) ((zmx i8 (zI_row v61_1 z0) ir).1.trans v61_1) (((zmx i8 (zI_row v61_1 z0) ir).2 3 (by decide) (by decide) (by decide)).trans v61_2) (by omega) _ _ hP hD hS ls (lv_sub hl [1, 0] rfl) hq
        exact L61 9 0 (zU M 5 (fun _ => 0)) w1 (by omega) (by rw [zU_n _ _ (by decide)]) (by rw [zU_n _ _ (by decide)]) (by omega) _ _ hP hD hS ls (lv_sub hl [1, 0] rfl) hq
      · have c_1 : ¬ (23 ≤ wh) := fun h9 => c_1 ((nI_leI (a := 23) (b := wh) (by omega) (by omega)).mpr h9)
        have hq := hq.trans (if_neg c_1)
        refine lv_iload_n hx hb dX5_digest_20 rfl (lv_at hl 1 rfl) ?_
        refine lv_bipush (v := 9) hx hb dX5_digest_21 (by decide) ?_
        refine lv_icmp_lt (tgt := 43) hx hb dX5_digest_23 (by decide) (fun c_13 => ?_) (fun c_13 => ?_)
        · have c_13 : wh < 9 := (nI_ltI (a := wh) (b := 9) (by omega) (by omega)).mp c_13
          have hq := hq.trans (if_pos c_13)
          refine lv_aload_n hx hb dX5_digest_43 rfl (lv_at hl 0 rfl) ?_
          refine lv_aload_n hx hb dX5_digest_44 rfl (lv_at hl 0 rfl) ?_
          refine lv_iload_n hx hb dX5_digest_45 rfl (lv_at hl 1 rfl) ?_
          refine zcV (ci := 5) (n := 1) (c_X5_counted l D g u (zU M 5 (fun _ => 0)) w1 wh (zI_G (zI_U z0)) (zI_B (zI_U z0)) (by first | omega | exact Or.inr (Or.inl (zw1012 (by with_reducible assumption) (by omega))))) hx hb hml hown hts gX5_digest_X5_counted rfl ⟨rfl, by decide, by decide, by decide⟩ ⟨Nat.le_of_ble_eq_true rfl, Nat.le_of_ble_eq_true rfl⟩ ⟨rfl, rfl⟩ hK hP rfl rfl rfl hl.1 rfl rfl (Nat.le_of_ble_eq_true rfl) ⟨Nat.zero_le _, Nat.zero_le _⟩ dX5_digest_46 ?_
          refine lv_i2l hx hb dX5_digest_49 rfl ?_
          refine zcVw (ci := 5) (n := 1) (c_X5_mix l D g u (zU M 5 (fun _ => 0)) w1 (Int32.toInt64 (v_X5_counted (zU M 5 (fun _ => 0)) wh))) hx hb hml hown hts gX5_digest_X5_mix rfl ⟨rfl, by decide, by decide, by decide⟩ ⟨Nat.le_of_ble_eq_true rfl, Nat.le_of_ble_eq_true rfl⟩ ⟨rfl, rfl⟩ hK hP hD rfl rfl rfl hS hl.1 rfl rfl (Nat.le_of_ble_eq_true rfl) ⟨Nat.zero_le _, Nat.zero_le _⟩ dX5_digest_50 (fun H1 locs hP1 hk1 hS => ?_)
          have hD := zD_addr (ws' := zB_X5 (g 0) u (zU M 5 (fun _ => 0)) (v_X5_mix (zU M 5 (fun _ => 0)) w1 (Int32.toInt64 (v_X5_counted (zU M 5 (fun _ => 0)) wh)))) hD (by simp only [zF, List.flatten_cons, List.flatten_nil, List.append_nil, List.map_append, List.map_cons, List.map_nil, zad_X0, zad_X1, zad_X2, zad_X3, zad_X4, zad_X5]); have hP := hP1
          clear hP1 hk1
          have hP : va_P D vwCl (zB_X5 (g 0) u (zU M 5 (fun _ => 0)) (v_X5_mix (zU M 5 (fun _ => 0)) w1 (Int32.toInt64 (v_X5_counted (zU M 5 (fun _ => 0)) wh)))) H1 := hP
          have hD : va_D (zA (zB_X5 (g 0) u M w)) (zB_X5 (g 0) u (zU M 5 (fun _ => 0)) (v_X5_mix (zU M 5 (fun _ => 0)) w1 (Int32.toInt64 (v_X5_counted (zU M 5 (fun _ => 0)) wh)))) := hD
          refine lv_iinc (v := (nI (wh + 1))) (lv' := [(1, .int (nI (wh + 1))), (0, .ref (u 0))]) hx hb dX5_digest_53 hl (k := 1) rfl (nI_add _ 1) (by decide) rfl (fun ls hl => ?_)
          refine lv_goto (tgt := 14) hx hb dX5_digest_56 (by decide) ?_
          exact ih14 (wh + 1) (v_X5_mix (zU M 5 (fun _ => 0)) w1 (Int32.toInt64 (v_X5_counted (zU M 5 (fun _ => 0)) wh))) (by omega) (by omega) _ _ hP hD hS ls (lv_sub hl [1, 0] rfl) hq
        · have c_13 : ¬ (wh < 9) := fun h9 => c_13 ((nI_ltI (a := wh) (b := 9) (by omega) (by omega)).mpr h9)
          have hq := hq.trans (if_neg c_13)
          refine lv_iload_n hx hb dX5_digest_26 rfl (lv_at hl 1 rfl) ?_
          refine lv_bipush (v := 10) hx hb dX5_digest_27 (by decide) ?_
          refine lv_bipush (v := 12) hx hb dX5_digest_29 (by decide) ?_
          refine zcSO (n := 3) (c_X5_within l D g (nI wh) 10 12) hx hb hml hown hts gX5_digest_X5_within rfl ⟨by decide, by decide, by decide⟩ ⟨Nat.le_of_ble_eq_true rfl, Nat.le_of_ble_eq_true rfl⟩ ⟨rfl, rfl⟩ hK (hP.sub [] rfl) hl.1 rfl rfl (Nat.le_of_ble_eq_true rfl) ⟨Nat.zero_le _, Nat.zero_le _⟩ dX5_digest_31 ?_
          refine zif_ne (tgt := 43) hx hb dX5_digest_34 (by decide) (fun c_17 => ?_) (fun c_17 => ?_)
          · have hq := hq.trans (zif_t c_17)
            refine lv_aload_n hx hb dX5_digest_43 rfl (lv_at hl 0 rfl) ?_
            refine lv_aload_n hx hb dX5_digest_44 rfl (lv_at hl 0 rfl) ?_
            refine lv_iload_n hx hb dX5_digest_45 rfl (lv_at hl 1 rfl) ?_
            refine zcV (ci := 5) (n := 1) (c_X5_counted l D g u (zU M 5 (fun _ => 0)) w1 wh (zI_G (zI_U z0)) (zI_B (zI_U z0)) (by first | omega | exact Or.inr (Or.inl (zw1012 (by with_reducible assumption) (by omega))))) hx hb hml hown hts gX5_digest_X5_counted rfl ⟨rfl, by decide, by decide, by decide⟩ ⟨Nat.le_of_ble_eq_true rfl, Nat.le_of_ble_eq_true rfl⟩ ⟨rfl, rfl⟩ hK hP rfl rfl rfl hl.1 rfl rfl (Nat.le_of_ble_eq_true rfl) ⟨Nat.zero_le _, Nat.zero_le _⟩ dX5_digest_46 ?_
            refine lv_i2l hx hb dX5_digest_49 rfl ?_
            refine zcVw (ci := 5) (n := 1) (c_X5_mix l D g u (zU M 5 (fun _ => 0)) w1 (Int32.toInt64 (v_X5_counted (zU M 5 (fun _ => 0)) wh))) hx hb hml hown hts gX5_digest_X5_mix rfl ⟨rfl, by decide, by decide, by decide⟩ ⟨Nat.le_of_ble_eq_true rfl, Nat.le_of_ble_eq_true rfl⟩ ⟨rfl, rfl⟩ hK hP hD rfl rfl rfl hS hl.1 rfl rfl (Nat.le_of_ble_eq_true rfl) ⟨Nat.zero_le _, Nat.zero_le _⟩ dX5_digest_50 (fun H1 locs hP1 hk1 hS => ?_)
            have hD := zD_addr (ws' := zB_X5 (g 0) u (zU M 5 (fun _ => 0)) (v_X5_mix (zU M 5 (fun _ => 0)) w1 (Int32.toInt64 (v_X5_counted (zU M 5 (fun _ => 0)) wh)))) hD (by simp only [zF, List.flatten_cons, List.flatten_nil, List.append_nil, List.map_append, List.map_cons, List.map_nil, zad_X0, zad_X1, zad_X2, zad_X3, zad_X4, zad_X5]); have hP := hP1
            clear hP1 hk1
            have hP : va_P D vwCl (zB_X5 (g 0) u (zU M 5 (fun _ => 0)) (v_X5_mix (zU M 5 (fun _ => 0)) w1 (Int32.toInt64 (v_X5_counted (zU M 5 (fun _ => 0)) wh)))) H1 := hP
            have hD : va_D (zA (zB_X5 (g 0) u M w)) (zB_X5 (g 0) u (zU M 5 (fun _ => 0)) (v_X5_mix (zU M 5 (fun _ => 0)) w1 (Int32.toInt64 (v_X5_counted (zU M 5 (fun _ => 0)) wh)))) := hD
            refine lv_iinc (v := (nI (wh + 1))) (lv' := [(1, .int (nI (wh + 1))), (0, .ref (u 0))]) hx hb dX5_digest_53 hl (k := 1) rfl (nI_add _ 1) (by decide) rfl (fun ls hl => ?_)
            refine lv_goto (tgt := 14) hx hb dX5_digest_56 (by decide) ?_
            exact ih14 (wh + 1) (v_X5_mix (zU M 5 (fun _ => 0)) w1 (Int32.toInt64 (v_X5_counted (zU M 5 (fun _ => 0)) wh))) (by omega) (by omega) _ _ hP hD hS ls (lv_sub hl [1, 0] rfl) hq
          · have hq := hq.trans (zif_f c_17)
            refine lv_iload_n hx hb dX5_digest_37 rfl (lv_at hl 1 rfl) ?_
            refine lv_bipush (v := 19) hx hb dX5_digest_38 (by decide) ?_
            refine lv_icmp_le (tgt := 53) hx hb dX5_digest_40 (by decide) (fun c_20 => ?_) (fun c_20 => ?_)
            · have c_20 : wh ≤ 19 := (nI_leI (a := wh) (b := 19) (by omega) (by omega)).mp c_20
              have hq := hq.trans (if_pos c_20)
              refine lv_iinc (v := (nI (wh + 1))) (lv' := [(1, .int (nI (wh + 1))), (0, .ref (u 0))]) hx hb dX5_digest_53 hl (k := 1) rfl (nI_add _ 1) (by decide) rfl (fun ls hl => ?_)
              refine lv_goto (tgt := 14) hx hb dX5_digest_56 (by decide) ?_
              exact ih14 (wh + 1) w1 (by omega) (by omega) _ _ hP hD hS ls (lv_sub hl [1, 0] rfl) hq
            · have c_20 : ¬ (wh ≤ 19) := fun h9 => c_20 ((nI_leI (a := wh) (b := 19) (by omega) (by omega)).mpr h9)
              have hq := hq.trans (if_neg c_20)
              refine lv_aload_n hx hb dX5_digest_43 rfl (lv_at hl 0 rfl) ?_
              refine lv_aload_n hx hb dX5_digest_44 rfl (lv_at hl 0 rfl) ?_
              refine lv_iload_n hx hb dX5_digest_45 rfl (lv_at hl 1 rfl) ?_
              refine zcV (ci := 5) (n := 1) (c_X5_counted l D g u (zU M 5 (fun _ => 0)) w1 wh (zI_G (zI_U z0)) (zI_B (zI_U z0)) (by first | omega | exact Or.inr (Or.inl (zw1012 (by with_reducible assumption) (by omega))))) hx hb hml hown hts gX5_digest_X5_counted rfl ⟨rfl, by decide, by decide, by decide⟩ ⟨Nat.le_of_ble_eq_true rfl, Nat.le_of_ble_eq_true rfl⟩ ⟨rfl, rfl⟩ hK hP rfl rfl rfl hl.1 rfl rfl (Nat.le_of_ble_eq_true rfl) ⟨Nat.zero_le _, Nat.zero_le _⟩ dX5_digest_46 ?_
              refine lv_i2l hx hb dX5_digest_49 rfl ?_
              refine zcVw (ci := 5) (n := 1) (c_X5_mix l D g u (zU M 5 (fun _ => 0)) w1 (Int32.toInt64 (v_X5_counted (zU M 5 (fun _ => 0)) wh))) hx hb hml hown hts gX5_digest_X5_mix rfl ⟨rfl, by decide, by decide, by decide⟩ ⟨Nat.le_of_ble_eq_true rfl, Nat.le_of_ble_eq_true rfl⟩ ⟨rfl, rfl⟩ hK hP hD rfl rfl rfl hS hl.1 rfl rfl (Nat.le_of_ble_eq_true rfl) ⟨Nat.zero_le _, Nat.zero_le _⟩ dX5_digest_50 (fun H1 locs hP1 hk1 hS => ?_)
              have hD := zD_addr (ws' := zB_X5 (g 0) u (zU M 5 (fun _ => 0)) (v_X5_mix (zU M 5 (fun _ => 0)) w1 (Int32.toInt64 (v_X5_counted (zU M 5 (fun _ => 0)) wh)))) hD (by simp only [zF, List.flatten_cons, List.flatten_nil, List.append_nil, List.map_append, List.map_cons, List.map_nil, zad_X0, zad_X1, zad_X2, zad_X3, zad_X4, zad_X5]); have hP := hP1
              clear hP1 hk1
              have hP : va_P D vwCl (zB_X5 (g 0) u (zU M 5 (fun _ => 0)) (v_X5_mix (zU M 5 (fun _ => 0)) w1 (Int32.toInt64 (v_X5_counted (zU M 5 (fun _ => 0)) wh)))) H1 := hP
              have hD : va_D (zA (zB_X5 (g 0) u M w)) (zB_X5 (g 0) u (zU M 5 (fun _ => 0)) (v_X5_mix (zU M 5 (fun _ => 0)) w1 (Int32.toInt64 (v_X5_counted (zU M 5 (fun _ => 0)) wh)))) := hD
              refine lv_iinc (v := (nI (wh + 1))) (lv' := [(1, .int (nI (wh + 1))), (0, .ref (u 0))]) hx hb dX5_digest_53 hl (k := 1) rfl (nI_add _ 1) (by decide) rfl (fun ls hl => ?_)
              refine lv_goto (tgt := 14) hx hb dX5_digest_56 (by decide) ?_
              exact ih14 (wh + 1) (v_X5_mix (zU M 5 (fun _ => 0)) w1 (Int32.toInt64 (v_X5_counted (zU M 5 (fun _ => 0)) wh))) (by omega) (by omega) _ _ hP hD hS ls (lv_sub hl [1, 0] rfl) hq
  exact L14 24 0 2459 (by omega) (by omega) _ _ hP hD hS ls (lv_sub hl [1, 0] rfl) hq
