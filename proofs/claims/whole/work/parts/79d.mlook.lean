def v_X5_saltFor_26 (M : Nat → Nat → Int32) (b : Nat) (sal : Nat) : Nat → Int32 → Int32 → Nat → (Nat → Nat → Int32) → Int32 × (Nat → Nat → Int32)
  | 0, _, _, _, _ => (0, (fun _ _ => 0))
  | n + 1, best, most, x, M1 => (if sal + 20 ≤ x then (best, v_X5_put M1 b 2 (v_X5_of M b 2)) else (if (v_X5_isSalt (nI x)) = true then (if (v_X5_eaters (v_X5_put M1 b 2 (nI x)) b) ≤ most then (if (v_X5_eaters (v_X5_put M1 b 2 (nI x)) b) ≤ most then v_X5_saltFor_26 M b sal n best most (x + 1) (v_X5_put M1 b 2 (nI x)) else v_X5_saltFor_26 M b sal n best (v_X5_eaters (v_X5_put M1 b 2 (nI x)) b) (x + 1) (v_X5_put M1 b 2 (nI x))) else (if (v_X5_eaters (v_X5_put M1 b 2 (nI x)) b) ≤ most then v_X5_saltFor_26 M b sal n (nI x) most (x + 1) (v_X5_put M1 b 2 (nI x)) else v_X5_saltFor_26 M b sal n (nI x) (v_X5_eaters (v_X5_put M1 b 2 (nI x)) b) (x + 1) (v_X5_put M1 b 2 (nI x)))) else (best, v_X5_put M1 b 2 (v_X5_of M b 2))))
def v_X5_saltFor (M : Nat → Nat → Int32) (b : Nat) (sal : Nat) : Int32 × (Nat → Nat → Int32) := (if (v_X5_hasOwnSalt M b) = true then v_X5_saltFor_26 M b sal 21 (-1) (-1) sal M else ((-1), M))
set_option maxHeartbeats 400000 in
set_option maxRecDepth 100000 in
theorem c_X5_saltFor (l : Launch) (D : va_G) (g : Nat → ClassId) (u : Nat → Nat) (M : Nat → Nat → Int32) (w : Int64) (b : Nat) (sal : Nat) (z0 : b < 8) (z1 : zI M) (z2 : sal ≤ 9999) : Wr l D (zT g) yX5_saltFor wsX5_saltFor (rmOf 5 111) [.ref (u 0), .int (nI b), .int (nI sal)] (zB_X5 (g 0) u M w) (some (.int ((v_X5_saltFor M b sal).1))) (zB_X5 (g 0) u ((v_X5_saltFor M b sal).2) w) := by
  refine Wr.of (cc := cX5_saltFor) (maxL := 8) (ret := (some .int)) (by decide) rfl (Nat.le_of_ble_eq_true rfl) ?_
  intro p e s m below meth c ls hx hb hr hml hown hts hlocks hP hD hS hK hl
  have hown : s.vm.findClass RX5 = some m.cls := hown
  obtain ⟨q, hq⟩ : ∃ q : Int32 × (Nat → Nat → Int32), q = v_X5_saltFor M b sal := ⟨_, rfl⟩
  rw [← hq]
  unfold v_X5_saltFor at hq
  have hl : lv_has ls 8 [(0, .ref (u 0)), (1, .int (nI b)), (2, .int (nI sal))] := hl
  refine lv_aload_n hx hb dX5_saltFor_0 rfl (lv_at hl 0 rfl) ?_
  refine lv_iload_n hx hb dX5_saltFor_1 rfl (lv_at hl 1 rfl) ?_
  refine zcV (ci := 5) (n := 1) (c_X5_hasOwnSalt l D g u M w b z0) hx hb hml hown hts gX5_saltFor_X5_hasOwnSalt rfl ⟨rfl, by decide, by decide, by decide⟩ ⟨Nat.le_of_ble_eq_true rfl, Nat.le_of_ble_eq_true rfl⟩ ⟨rfl, rfl⟩ hK hP rfl rfl rfl hl.1 rfl rfl (Nat.le_of_ble_eq_true rfl) ⟨Nat.zero_le _, Nat.zero_le _⟩ dX5_saltFor_2 ?_
  refine zif_ne (tgt := 10) hx hb dX5_saltFor_5 (by decide) (fun c_2 => ?_) (fun c_2 => ?_)
  · have hq := hq.trans (zif_t c_2)
    refine lv_aload_n hx hb dX5_saltFor_10 rfl (lv_at hl 0 rfl) ?_
    refine lv_iload_n hx hb dX5_saltFor_11 rfl (lv_at hl 1 rfl) ?_
    refine lv_iconst (v := 2) hx hb dX5_saltFor_12 (by decide) ?_
    refine zcV (ci := 5) (n := 2) (c_X5_of l D g u M w b 2 (by omega)) hx hb hml hown hts gX5_saltFor_X5_of rfl ⟨rfl, by decide, by decide, by decide⟩ ⟨Nat.le_of_ble_eq_true rfl, Nat.le_of_ble_eq_true rfl⟩ ⟨rfl, rfl⟩ hK hP rfl rfl rfl hl.1 rfl rfl (Nat.le_of_ble_eq_true rfl) ⟨Nat.zero_le _, Nat.zero_le _⟩ dX5_saltFor_13 ?_
    refine lv_istore_n (lv' := [(3, .int (v_X5_of M b 2)), (0, .ref (u 0)), (1, .int (nI b)), (2, .int (nI sal))]) hx hb dX5_saltFor_16 rfl hl (by decide) rfl (fun ls hl => ?_)
    refine lv_iconst (v := (-1)) hx hb dX5_saltFor_17 (by decide) ?_
    refine lv_istore (lv' := [(4, .int (-1)), (3, .int (v_X5_of M b 2)), (0, .ref (u 0)), (1, .int (nI b)), (2, .int (nI sal))]) hx hb dX5_saltFor_18 hl (by decide) rfl (fun ls hl => ?_)
    refine lv_iconst (v := (-1)) hx hb dX5_saltFor_20 (by decide) ?_
    refine lv_istore (lv' := [(5, .int (-1)), (4, .int (-1)), (3, .int (v_X5_of M b 2)), (0, .ref (u 0)), (1, .int (nI b)), (2, .int (nI sal))]) hx hb dX5_saltFor_21 hl (by decide) rfl (fun ls hl => ?_)
    refine lv_iload_n hx hb dX5_saltFor_23 rfl (lv_at hl 5 rfl) ?_
    refine lv_istore (lv' := [(6, .int (nI sal)), (5, .int (-1)), (4, .int (-1)), (3, .int (v_X5_of M b 2)), (0, .ref (u 0)), (1, .int (nI b)), (2, .int (nI sal))]) hx hb dX5_saltFor_24 hl (by decide) rfl (fun ls hl => ?_)
    have L26 : ∀ (n : Nat) (best : Int32) (most : Int32) (x : Nat) (M1 : Nat → Nat → Int32), (sal ≤ x) → (x ≤ sal + 20) → (zI M1) → sal + 20 - x < n → ∀ (H : Heap) (locs : List Loc), va_P D vwCl (zB_X5 (g 0) u M1 w) H → va_D (zA (zB_X5 (g 0) u M w)) (zB_X5 (g 0) u M1 w) → va_S (zA (zB_X5 (g 0) u M w)) s.heap H locs → ∀ (ls : Array Slot), lv_has ls 8 [(0, .ref (u 0)), (1, .int (nI b)), (2, .int (nI sal)), (3, .int (v_X5_of M b 2)), (4, .int best), (5, .int most), (6, .int (nI x))] → q = v_X5_saltFor_26 M b sal n best most x M1 → W p l e (rmOf 5 111) s m [.ref (u 0), .int (nI b), .int (nI sal)].toArray below meth c H locs 0 0 (MQ below (zQw D (zB_X5 (g 0) u M w) (some (.int q.1)) (zB_X5 (g 0) u q.2 w)) [.ref (u 0), .int (nI b), .int (nI sal)].toArray s 0 0 (zA (zB_X5 (g 0) u M w))) (F0 m 26 ls []) := by
      intro n
      induction n with
      | zero => intro best most x M1 v26_0 v26_1 v26_2 hn; exact absurd hn (Nat.not_lt_zero _)
      | succ n ih26 =>
        intro best most x M1 v26_0 v26_1 v26_2 hn26 H locs hP hD hS ls hl hq
        rw [v_X5_saltFor_26] at hq
        refine lv_iload hx hb dX5_saltFor_26 (lv_at hl 6 rfl) ?_
        refine lv_iload_n hx hb dX5_saltFor_28 rfl (lv_at hl 2 rfl) ?_
        refine lv_bipush (v := 20) hx hb dX5_saltFor_29 (by decide) ?_
        refine lv_iadd hx hb dX5_saltFor_31 ?_
        refine lv_is (show (nI sal) + 20 = (nI (sal + 20)) from nI_add sal 20) ?_
        refine lv_icmp_ge (tgt := 96) hx hb dX5_saltFor_32 (by decide) (fun c_4 => ?_) (fun c_4 => ?_)
        · have c_4 : sal + 20 ≤ x := (nI_leI (a := sal + 20) (b := x) (by omega) (by omega)).mp c_4
          have hq := hq.trans (if_pos c_4)
          refine lv_aload_n hx hb dX5_saltFor_96 rfl (lv_at hl 0 rfl) ?_
          refine lv_iload_n hx hb dX5_saltFor_97 rfl (lv_at hl 1 rfl) ?_
          refine lv_iconst (v := 2) hx hb dX5_saltFor_98 (by decide) ?_
          refine lv_iload_n hx hb dX5_saltFor_99 rfl (lv_at hl 3 rfl) ?_
          refine zcVw (ci := 5) (n := 3) (c_X5_put l D g u M1 w b 2 (v_X5_of M b 2) (by omega)) hx hb hml hown hts gX5_saltFor_X5_put rfl ⟨rfl, by decide, by decide, by decide⟩ ⟨Nat.le_of_ble_eq_true rfl, Nat.le_of_ble_eq_true rfl⟩ ⟨rfl, rfl⟩ hK hP hD rfl rfl rfl hS hl.1 rfl rfl (Nat.le_of_ble_eq_true rfl) ⟨Nat.zero_le _, Nat.zero_le _⟩ dX5_saltFor_100 (fun H1 locs hP1 hk1 hS => ?_)
          have hD := zD_addr (ws' := zB_X5 (g 0) u (v_X5_put M1 b 2 (v_X5_of M b 2)) w) hD (by simp only [zF, List.flatten_cons, List.flatten_nil, List.append_nil, List.map_append, List.map_cons, List.map_nil, zad_X0, zad_X1, zad_X2, zad_X3, zad_X4, zad_X5]); have hP := hP1
          clear hP1 hk1
          have hP : va_P D vwCl (zB_X5 (g 0) u (v_X5_put M1 b 2 (v_X5_of M b 2)) w) H1 := hP
          have hD : va_D (zA (zB_X5 (g 0) u M w)) (zB_X5 (g 0) u (v_X5_put M1 b 2 (v_X5_of M b 2)) w) := hD
          refine lv_iload hx hb dX5_saltFor_103 (lv_at hl 4 rfl) ?_
          exact zretw_i hx hb hr hlocks dX5_saltFor_105 hP hS (congrArg (fun z9 => z9.1) hq) (by with_reducible exact congrArg (fun z9 => zB_X5 (g 0) u z9.2 w) hq)
        · have c_4 : ¬ (sal + 20 ≤ x) := fun h9 => c_4 ((nI_leI (a := sal + 20) (b := x) (by omega) (by omega)).mpr h9)
          have hq := hq.trans (if_neg c_4)
          refine lv_iload hx hb dX5_saltFor_35 (lv_at hl 6 rfl) ?_
          refine zcSO (n := 1) (c_X5_isSalt l D g (nI x)) hx hb hml hown hts gX5_saltFor_X5_isSalt rfl ⟨by decide, by decide, by decide⟩ ⟨Nat.le_of_ble_eq_true rfl, Nat.le_of_ble_eq_true rfl⟩ ⟨rfl, rfl⟩ hK (hP.sub [] rfl) hl.1 rfl rfl (Nat.le_of_ble_eq_true rfl) ⟨Nat.zero_le _, Nat.zero_le _⟩ dX5_saltFor_37 ?_
          refine zif_eq (tgt := 96) hx hb dX5_saltFor_40 (by decide) (fun c_7 => ?_) (fun c_7 => ?_)
          · have hq := hq.trans (zif_f c_7)
            refine lv_aload_n hx hb dX5_saltFor_96 rfl (lv_at hl 0 rfl) ?_
            refine lv_iload_n hx hb dX5_saltFor_97 rfl (lv_at hl 1 rfl) ?_
            refine lv_iconst (v := 2) hx hb dX5_saltFor_98 (by decide) ?_
            refine lv_iload_n hx hb dX5_saltFor_99 rfl (lv_at hl 3 rfl) ?_
            refine zcVw (ci := 5) (n := 3) (c_X5_put l D g u M1 w b 2 (v_X5_of M b 2) (by omega)) hx hb hml hown hts gX5_saltFor_X5_put rfl ⟨rfl, by decide, by decide, by decide⟩ ⟨Nat.le_of_ble_eq_true rfl, Nat.le_of_ble_eq_true rfl⟩ ⟨rfl, rfl⟩ hK hP hD rfl rfl rfl hS hl.1 rfl rfl (Nat.le_of_ble_eq_true rfl) ⟨Nat.zero_le _, Nat.zero_le _⟩ dX5_saltFor_100 (fun H1 locs hP1 hk1 hS => ?_)
            have hD := zD_addr (ws' := zB_X5 (g 0) u (v_X5_put M1 b 2 (v_X5_of M b 2)) w) hD (by simp only [zF, List.flatten_cons, List.flatten_nil, List.append_nil, List.map_append, List.map_cons, List.map_nil, zad_X0, zad_X1, zad_X2, zad_X3, zad_X4, zad_X5]); have hP := hP1
            clear hP1 hk1
            have hP : va_P D vwCl (zB_X5 (g 0) u (v_X5_put M1 b 2 (v_X5_of M b 2)) w) H1 := hP
            have hD : va_D (zA (zB_X5 (g 0) u M w)) (zB_X5 (g 0) u (v_X5_put M1 b 2 (v_X5_of M b 2)) w) := hD
            refine lv_iload hx hb dX5_saltFor_103 (lv_at hl 4 rfl) ?_
            exact zretw_i hx hb hr hlocks dX5_saltFor_105 hP hS (congrArg (fun z9 => z9.1) hq) (by with_reducible exact congrArg (fun z9 => zB_X5 (g 0) u z9.2 w) hq)
          · have hq := hq.trans (zif_t c_7)
            refine lv_aload_n hx hb dX5_saltFor_43 rfl (lv_at hl 0 rfl) ?_
            refine lv_iload_n hx hb dX5_saltFor_44 rfl (lv_at hl 1 rfl) ?_
            refine lv_iconst (v := 2) hx hb dX5_saltFor_45 (by decide) ?_
            refine lv_iload hx hb dX5_saltFor_46 (lv_at hl 6 rfl) ?_
            refine zcVw (ci := 5) (n := 3) (c_X5_put l D g u M1 w b 2 (nI x) (by omega)) hx hb hml hown hts gX5_saltFor_X5_put rfl ⟨rfl, by decide, by decide, by decide⟩ ⟨Nat.le_of_ble_eq_true rfl, Nat.le_of_ble_eq_true rfl⟩ ⟨rfl, rfl⟩ hK hP hD rfl rfl rfl hS hl.1 rfl rfl (Nat.le_of_ble_eq_true rfl) ⟨Nat.zero_le _, Nat.zero_le _⟩ dX5_saltFor_48 (fun H1 locs hP1 hk1 hS => ?_)
            have hD := zD_addr (ws' := zB_X5 (g 0) u (v_X5_put M1 b 2 (nI x)) w) hD (by simp only [zF, List.flatten_cons, List.flatten_nil, List.append_nil, List.map_append, List.map_cons, List.map_nil, zad_X0, zad_X1, zad_X2, zad_X3, zad_X4, zad_X5]); have hP := hP1
            clear hP1 hk1
            have hP : va_P D vwCl (zB_X5 (g 0) u (v_X5_put M1 b 2 (nI x)) w) H1 := hP
            have hD : va_D (zA (zB_X5 (g 0) u M w)) (zB_X5 (g 0) u (v_X5_put M1 b 2 (nI x)) w) := hD
            refine lv_aload_n hx hb dX5_saltFor_51 rfl (lv_at hl 0 rfl) ?_
            refine lv_iload_n hx hb dX5_saltFor_52 rfl (lv_at hl 1 rfl) ?_
            refine zcV (ci := 5) (n := 1) (c_X5_eaters l D g u (v_X5_put M1 b 2 (nI x)) w b z0 (zI_G (zI_put (k := 2) z0 (by decide) v26_2))) hx hb hml hown hts gX5_saltFor_X5_eaters rfl ⟨rfl, by decide, by decide, by decide⟩ ⟨Nat.le_of_ble_eq_true rfl, Nat.le_of_ble_eq_true rfl⟩ ⟨rfl, rfl⟩ hK hP rfl rfl rfl hl.1 rfl rfl (Nat.le_of_ble_eq_true rfl) ⟨Nat.zero_le _, Nat.zero_le _⟩ dX5_saltFor_53 ?_
            refine lv_istore (lv' := [(7, .int (v_X5_eaters (v_X5_put M1 b 2 (nI x)) b)), (0, .ref (u 0)), (1, .int (nI b)), (2, .int (nI sal)), (3, .int (v_X5_of M b 2)), (4, .int best), (5, .int most), (6, .int (nI x))]) hx hb dX5_saltFor_56 hl (by decide) rfl (fun ls hl => ?_)
            refine lv_iload hx hb dX5_saltFor_58 (lv_at hl 0 rfl) ?_
            refine lv_iload hx hb dX5_saltFor_60 (lv_at hl 6 rfl) ?_
            refine lv_icmp_le (tgt := 70) hx hb dX5_saltFor_62 (by decide) (fun c_11 => ?_) (fun c_11 => ?_)
            · have c_11 : (v_X5_eaters (v_X5_put M1 b 2 (nI x)) b) ≤ most := c_11
              have hq := hq.trans (if_pos c_11)
              refine lv_iload hx hb dX5_saltFor_70 (lv_at hl 5 rfl) ?_
              refine lv_istore (lv' := [(4, .int best), (7, .int (v_X5_eaters (v_X5_put M1 b 2 (nI x)) b)), (0, .ref (u 0)), (1, .int (nI b)), (2, .int (nI sal)), (3, .int (v_X5_of M b 2)), (5, .int most), (6, .int (nI x))]) hx hb dX5_saltFor_72 hl (by decide) rfl (fun ls hl => ?_)
              refine lv_iload hx hb dX5_saltFor_74 (lv_at hl 1 rfl) ?_
              refine lv_iload hx hb dX5_saltFor_76 (lv_at hl 6 rfl) ?_
              refine lv_icmp_le (tgt := 86) hx hb dX5_saltFor_78 (by decide) (fun c_12 => ?_) (fun c_12 => ?_)
              · have c_12 : (v_X5_eaters (v_X5_put M1 b 2 (nI x)) b) ≤ most := c_12
                have hq := hq.trans (if_pos c_12)
                refine lv_iload hx hb dX5_saltFor_86 (lv_at hl 6 rfl) ?_
                refine lv_istore (lv' := [(5, .int most), (4, .int best), (7, .int (v_X5_eaters (v_X5_put M1 b 2 (nI x)) b)), (0, .ref (u 0)), (1, .int (nI b)), (2, .int (nI sal)), (3, .int (v_X5_of M b 2)), (6, .int (nI x))]) hx hb dX5_saltFor_88 hl (by decide) rfl (fun ls hl => ?_)
                refine lv_iinc (v := (nI (x + 1))) (lv' := [(6, .int (nI (x + 1))), (5, .int most), (4, .int best), (7, .int (v_X5_eaters (v_X5_put M1 b 2 (nI x)) b)), (0, .ref (u 0)), (1, .int (nI b)), (2, .int (nI sal)), (3, .int (v_X5_of M b 2))]) hx hb dX5_saltFor_90 hl (k := 7) rfl (nI_add _ 1) (by decide) rfl (fun ls hl => ?_)
                refine lv_goto (tgt := 26) hx hb dX5_saltFor_93 (by decide) ?_
                exact ih26 best most (x + 1) (v_X5_put M1 b 2 (nI x)) (by omega) (by omega) (zI_put (k := 2) z0 (by decide) v26_2) (by omega) _ _ hP hD hS ls (lv_sub hl [4, 5, 6, 7, 2, 1, 0] rfl) hq
              · have c_12 : ¬ ((v_X5_eaters (v_X5_put M1 b 2 (nI x)) b) ≤ most) := c_12
                have hq := hq.trans (if_neg c_12)
                refine lv_iload hx hb dX5_saltFor_81 (lv_at hl 1 rfl) ?_
                refine lv_goto (tgt := 88) hx hb dX5_saltFor_83 (by decide) ?_
                refine lv_istore (lv' := [(5, .int (v_X5_eaters (v_X5_put M1 b 2 (nI x)) b)), (4, .int best), (7, .int (v_X5_eaters (v_X5_put M1 b 2 (nI x)) b)), (0, .ref (u 0)), (1, .int (nI b)), (2, .int (nI sal)), (3, .int (v_X5_of M b 2)), (6, .int (nI x))]) hx hb dX5_saltFor_88 hl (by decide) rfl (fun ls hl => ?_)
                refine lv_iinc (v := (nI (x + 1))) (lv' := [(6, .int (nI (x + 1))), (5, .int (v_X5_eaters (v_X5_put M1 b 2 (nI x)) b)), (4, .int best), (7, .int (v_X5_eaters (v_X5_put M1 b 2 (nI x)) b)), (0, .ref (u 0)), (1, .int (nI b)), (2, .int (nI sal)), (3, .int (v_X5_of M b 2))]) hx hb dX5_saltFor_90 hl (k := 7) rfl (nI_add _ 1) (by decide) rfl (fun ls hl => ?_)
                refine lv_goto (tgt := 26) hx hb dX5_saltFor_93 (by decide) ?_
                exact ih26 best (v_X5_eaters (v_X5_put M1 b 2 (nI x)) b) (x + 1) (v_X5_put M1 b 2 (nI x)) (by omega) (by omega) (zI_put (k := 2) z0 (by decide) v26_2) (by omega) _ _ hP hD hS ls (lv_sub hl [4, 5, 6, 7, 2, 1, 0] rfl) hq
            · have c_11 : ¬ ((v_X5_eaters (v_X5_put M1 b 2 (nI x)) b) ≤ most) := c_11
              have hq := hq.trans (if_neg c_11)
              refine lv_iload hx hb dX5_saltFor_65 (lv_at hl 7 rfl) ?_
              refine lv_goto (tgt := 72) hx hb dX5_saltFor_67 (by decide) ?_
              refine lv_istore (lv' := [(4, .int (nI x)), (7, .int (v_X5_eaters (v_X5_put M1 b 2 (nI x)) b)), (0, .ref (u 0)), (1, .int (nI b)), (2, .int (nI sal)), (3, .int (v_X5_of M b 2)), (5, .int most), (6, .int (nI x))]) hx hb dX5_saltFor_72 hl (by decide) rfl (fun ls hl => ?_)
              refine lv_iload hx hb dX5_saltFor_74 (lv_at hl 1 rfl) ?_
              refine lv_iload hx hb dX5_saltFor_76 (lv_at hl 6 rfl) ?_
              refine lv_icmp_le (tgt := 86) hx hb dX5_saltFor_78 (by decide) (fun c_13 => ?_) (fun c_13 => ?_)
              · have c_13 : (v_X5_eaters (v_X5_put M1 b 2 (nI x)) b) ≤ most := c_13
                have hq := hq.trans (if_pos c_13)
                refine lv_iload hx hb dX5_saltFor_86 (lv_at hl 6 rfl) ?_
                refine lv_istore (lv' := [(5, .int most), (4, .int (nI x)), (7, .int (v_X5_eaters (v_X5_put M1 b 2 (nI x)) b)), (0, .ref (u 0)), (1, .int (nI b)), (2, .int (nI sal)), (3, .int (v_X5_of M b 2)), (6, .int (nI x))]) hx hb dX5_saltFor_88 hl (by decide) rfl (fun ls hl => ?_)
                refine lv_iinc (v := (nI (x + 1))) (lv' := [(6, .int (nI (x + 1))), (5, .int most), (4, .int (nI x)), (7, .int (v_X5_eaters (v_X5_put M1 b 2 (nI x)) b)), (0, .ref (u 0)), (1, .int (nI b)), (2, .int (nI sal)), (3, .int (v_X5_of M b 2))]) hx hb dX5_saltFor_90 hl (k := 7) rfl (nI_add _ 1) (by decide) rfl (fun ls hl => ?_)
                refine lv_goto (tgt := 26) hx hb dX5_saltFor_93 (by decide) ?_
                exact ih26 (nI x) most (x + 1) (v_X5_put M1 b 2 (nI x)) (by omega) (by omega) (zI_put (k := 2) z0 (by decide) v26_2) (by omega) _ _ hP hD hS ls (lv_sub hl [4, 5, 6, 7, 2, 1, 0] rfl) hq
              · have c_13 : ¬ ((v_X5_eaters (v_X5_put M1 b 2 (nI x)) b) ≤ most) := c_13
                have hq := hq.trans (if_neg c_13)
                refine lv_iload hx hb dX5_saltFor_81 (lv_at hl 1 rfl) ?_
                refine lv_goto (tgt := 88) hx hb dX5_saltFor_83 (by decide) ?_
                refine lv_istore (lv' := [(5, .int (v_X5_eaters (v_X5_put M1 b 2 (nI x)) b)), (4, .int (nI x)), (7, .int (v_X5_eaters (v_X5_put M1 b 2 (nI x)) b)), (0, .ref (u 0)), (1, .int (nI b)), (2, .int (nI sal)), (3, .int (v_X5_of M b 2)), (6, .int (nI x))]) hx hb dX5_saltFor_88 hl (by decide) rfl (fun ls hl => ?_)
                refine lv_iinc (v := (nI (x + 1))) (lv' := [(6, .int (nI (x + 1))), (5, .int (v_X5_eaters (v_X5_put M1 b 2 (nI x)) b)), (4, .int (nI x)), (7, .int (v_X5_eaters (v_X5_put M1 b 2 (nI x)) b)), (0, .ref (u 0)), (1, .int (nI b)), (2, .int (nI sal)), (3, .int (v_X5_of M b 2))]) hx hb dX5_saltFor_90 hl (k := 7) rfl (nI_add _ 1) (by decide) rfl (fun ls hl => ?_)
                refine lv_goto (tgt := 26) hx hb dX5_saltFor_93 (by decide) ?_
                exact ih26 (nI x) (v_X5_eaters (v_X5_put M1 b 2 (nI x)) b) (x + 1) (v_X5_put M1 b 2 (nI x)) (by omega) (by omega) (zI_put (k := 2) z0 (by decide) v26_2) (by omega) _ _ hP hD hS ls (lv_sub hl [4, 5, 6, 7, 2, 1, 0] rfl) hq
    exact L26 21 (-1) (-1) sal M (by omega) (by omega) z1 (by omega) _ _ hP hD hS ls (lv_sub hl [4, 5, 6, 3, 2, 1, 0] rfl) hq
  · have hq := hq.trans (zif_f c_2)
    refine lv_iconst (v := (-1)) hx hb dX5_saltFor_8 (by decide) ?_
    exact zretw_i hx hb hr hlocks dX5_saltFor_9 hP hS (congrArg (fun z9 => z9.1) hq) (by with_reducible exact congrArg (fun z9 => zB_X5 (g 0) u z9.2 w) hq)
