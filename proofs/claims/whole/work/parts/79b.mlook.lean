def v_X5_leastShare_2 (b : Nat) (many : Int32) : Nat → Nat → (Nat → Nat → Int32) → Int32 × (Nat → Nat → Int32)
  | 0, _, _ => (0, (fun _ _ => 0))
  | n + 1, i, M1 => (if 100 < i then ((-1), M1) else (if (v_X5_isOpen M1 b) = true then (if ((v_X5_sharedThen M1 b i).1) < many then v_X5_leastShare_2 b many n (i + 1) ((v_X5_sharedThen M1 b i).2) else ((nI i), (v_X5_sharedThen M1 b i).2)) else ((-1), M1)))
def v_X5_leastShare (M : Nat → Nat → Int32) (b : Nat) (many : Int32) : Int32 × (Nat → Nat → Int32) := v_X5_leastShare_2 b many 102 0 M
set_option maxHeartbeats 400000 in
set_option maxRecDepth 100000 in
theorem c_X5_leastShare (l : Launch) (D : va_G) (g : Nat → ClassId) (u : Nat → Nat) (M : Nat → Nat → Int32) (w : Int64) (b : Nat) (many : Int32) (z0 : b < 8) (z1 : zI M) (z2 : b < Int32.toNatClampNeg (M 0 1)) : Wr l D (zT g) yX5_leastShare wsX5_leastShare (rmOf 6 135) [.ref (u 0), .int (nI b), .int many] (zB_X5 (g 0) u M w) (some (.int ((v_X5_leastShare M b many).1))) (zB_X5 (g 0) u ((v_X5_leastShare M b many).2) w) := by
  refine Wr.of (cc := cX5_leastShare) (maxL := 4) (ret := (some .int)) (by decide) rfl (Nat.le_of_ble_eq_true rfl) ?_
  intro p e s m below meth c ls hx hb hr hml hown hts hlocks hP hD hS hK hl
  have hown : s.vm.findClass RX5 = some m.cls := hown
  obtain ⟨q, hq⟩ : ∃ q : Int32 × (Nat → Nat → Int32), q = v_X5_leastShare M b many := ⟨_, rfl⟩
  rw [← hq]
  unfold v_X5_leastShare at hq
  have hl : lv_has ls 4 [(0, .ref (u 0)), (1, .int (nI b)), (2, .int many)] := hl
  refine lv_iconst (v := 0) hx hb dX5_leastShare_0 (by decide) ?_
  refine lv_istore_n (lv' := [(3, .int 0), (0, .ref (u 0)), (1, .int (nI b)), (2, .int many)]) hx hb dX5_leastShare_1 rfl hl (by decide) rfl (fun ls hl => ?_)
  have L2 : ∀ (n : Nat) (i : Nat) (M1 : Nat → Nat → Int32), (i ≤ 101) → (M1 0 = M 0) → 101 - i < n → ∀ (H : Heap) (locs : List Loc), va_P D vwCl (zB_X5 (g 0) u M1 w) H → va_D (zA (zB_X5 (g 0) u M w)) (zB_X5 (g 0) u M1 w) → va_S (zA (zB_X5 (g 0) u M w)) s.heap H locs → ∀ (ls : Array Slot), lv_has ls 4 [(0, .ref (u 0)), (1, .int (nI b)), (2, .int many), (3, .int (nI i))] → q = v_X5_leastShare_2 b many n i M1 → W p l e (rmOf 6 135) s m [.ref (u 0), .int (nI b), .int many].toArray below meth c H locs 0 0 (MQ below (zQw D (zB_X5 (g 0) u M w) (some (.int q.1)) (zB_X5 (g 0) u q.2 w)) [.ref (u 0), .int (nI b), .int many].toArray s 0 0 (zA (zB_X5 (g 0) u M w))) (F0 m 2 ls []) := by
    intro n
    induction n with
    | zero => intro i M1 v2_0 v2_1 hn; exact absurd hn (Nat.not_lt_zero _)
    | succ n ih2 =>
      intro i M1 v2_0 v2_1 hn2 H locs hP hD hS ls hl hq
      rw [v_X5_leastShare_2] at hq
      refine lv_iload_n hx hb dX5_leastShare_2 rfl (lv_at hl 3 rfl) ?_
      refine lv_bipush (v := 100) hx hb dX5_leastShare_3 (by decide) ?_
      refine lv_icmp_gt (tgt := 34) hx hb dX5_leastShare_5 (by decide) (fun c_1 => ?_) (fun c_1 => ?_)
      · have c_1 : 100 < i := (nI_ltI (a := 100) (b := i) (by omega) (by omega)).mp c_1
        have hq := hq.trans (if_pos c_1)
        refine lv_iconst (v := (-1)) hx hb dX5_leastShare_34 (by decide) ?_
        exact zretw_i hx hb hr hlocks dX5_leastShare_35 hP hS (congrArg (fun z9 => z9.1) hq) (by with_reducible exact congrArg (fun z9 => zB_X5 (g 0) u z9.2 w) hq)
      · have c_1 : ¬ (100 < i) := fun h9 => c_1 ((nI_ltI (a := 100) (b := i) (by omega) (by omega)).mpr h9)
        have hq := hq.trans (if_neg c_1)
        refine lv_aload_n hx hb dX5_leastShare_8 rfl (lv_at hl 0 rfl) ?_
        refine lv_iload_n hx hb dX5_leastShare_9 rfl (lv_at hl 1 rfl) ?_
        refine zcV (ci := 5) (n := 1) (c_X5_isOpen l D g u M1 w b z0) hx hb hml hown hts gX5_leastShare_X5_isOpen rfl ⟨rfl, by decide, by decide, by decide⟩ ⟨Nat.le_of_ble_eq_true rfl, Nat.le_of_ble_eq_true rfl⟩ ⟨rfl, rfl⟩ hK hP rfl rfl rfl hl.1 rfl rfl (Nat.le_of_ble_eq_true rfl) ⟨Nat.zero_le _, Nat.zero_le _⟩ dX5_leastShare_10 ?_
        refine zif_eq (tgt := 34) hx hb dX5_leastShare_13 (by decide) (fun c_3 => ?_) (fun c_3 => ?_)
        · have hq := hq.trans (zif_f c_3)
          refine lv_iconst (v := (-1)) hx hb dX5_leastShare_34 (by decide) ?_
          exact zretw_i hx hb hr hlocks dX5_leastShare_35 hP hS (congrArg (fun z9 => z9.1) hq) (by with_reducible exact congrArg (fun z9 => zB_X5 (g 0) u z9.2 w) hq)
        · have hq := hq.trans (zif_t c_3)
          refine lv_aload_n hx hb dX5_leastShare_16 rfl (lv_at hl 0 rfl) ?_
          refine lv_iload_n hx hb dX5_leastShare_17 rfl (lv_at hl 1 rfl) ?_
          refine lv_iload_n hx hb dX5_leastShare_18 rfl (lv_at hl 3 rfl) ?_
          refine zcVw (ci := 5) (n := 2) (c_X5_sharedThen l D g u M1 w b i z0 (zI_row v2_1 z1) (by omega) (by rw [v2_1]; exact z2)) hx hb hml hown hts gX5_leastShare_X5_sharedThen rfl ⟨rfl, by decide, by decide, by decide⟩ ⟨Nat.le_of_ble_eq_true rfl, Nat.le_of_ble_eq_true rfl⟩ ⟨rfl, rfl⟩ hK hP hD rfl rfl rfl hS hl.1 rfl rfl (Nat.le_of_ble_eq_true rfl) ⟨Nat.zero_le _, Nat.zero_le _⟩ dX5_leastShare_19 (fun H1 locs hP1 hk1 hS => ?_)
          have hD := zD_addr (ws' := zB_X5 (g 0) u ((v_X5_sharedThen M1 b i).2) w) hD (by simp only [zF, List.flatten_cons, List.flatten_nil, List.append_nil, List.map_append, List.map_cons, List.map_nil, zad_X0, zad_X1, zad_X2, zad_X3, zad_X4, zad_X5]); have hP := hP1
          clear hP1 hk1
          have hP : va_P D vwCl (zB_X5 (g 0) u ((v_X5_sharedThen M1 b i).2) w) H1 := hP
          have hD : va_D (zA (zB_X5 (g 0) u M w)) (zB_X5 (g 0) u ((v_X5_sharedThen M1 b i).2) w) := hD
          refine lv_iload_n hx hb dX5_leastShare_22 rfl (lv_at hl 2 rfl) ?_
          refine lv_icmp_lt (tgt := 28) hx hb dX5_leastShare_23 (by decide) (fun c_5 => ?_) (fun c_5 => ?_)
          · have c_5 : ((v_X5_sharedThen M1 b i).1) < many := c_5
            have hq := hq.trans (if_pos c_5)
            refine lv_iinc (v := (nI (i + 1))) (lv' := [(3, .int (nI (i + 1))), (0, .ref (u 0)), (1, .int (nI b)), (2, .int many)]) hx hb dX5_leastShare_28 hl (k := 3) rfl (nI_add _ 1) (by decide) rfl (fun ls hl => ?_)
            refine lv_goto (tgt := 2) hx hb dX5_leastShare_31 (by decide) ?_
            exact ih2 (i + 1) ((v_X5_sharedThen M1 b i).2) (by omega) ((zst_row z0 (zI_row v2_1 z1) (by omega) (by rw [v2_1]; exact z2)).trans v2_1) (by omega) _ _ hP hD hS ls (lv_sub hl [1, 2, 3, 0] rfl) hq
          · have c_5 : ¬ (((v_X5_sharedThen M1 b i).1) < many) := c_5
            have hq := hq.trans (if_neg c_5)
            refine lv_iload_n hx hb dX5_leastShare_26 rfl (lv_at hl 3 rfl) ?_
            exact zretw_i hx hb hr hlocks dX5_leastShare_27 hP hS (congrArg (fun z9 => z9.1) hq) (by with_reducible exact congrArg (fun z9 => zB_X5 (g 0) u z9.2 w) hq)
  exact L2 102 0 M (by decide) rfl (by decide) _ _ hP hD hS ls (lv_sub hl [1, 2, 3, 0] rfl) hq
