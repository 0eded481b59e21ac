theorem zrd23 {x : Int32} (h : vp_in x 23) : vp_in x 24 := by
  have := vp_in_iff.mp h
  exact vp_in_iff.mpr ⟨this.1, by omega⟩
def v_X5_takes (M : Nat → Nat → Int32) (code : Int32) : Bool × (Nat → Nat → Int32) := (if code = 59 then (if (v_X5_isEnded M) = true then (true, zU (zU M 8 (fun _ => ((M 8 0) + 1))) 10 (fun _ => 0)) else (if (M 10 0) = 0 then ((v_X5_begins M code).1, (v_X5_begins M code).2) else (if (M 10 0) = 1 then ((v_X5_takesBread M code 2).1, (v_X5_takesBread M code 2).2) else (if (M 10 0) = 2 then (if code = 61 then (true, zU M 10 (fun _ => 3)) else (false, zU M 10 (fun _ => 3))) else (if (M 10 0) = 3 then ((v_X5_takesDigit M (code - 48)).1, (v_X5_takesDigit M (code - 48)).2) else (if (M 10 0) = 4 then (if code = 64 then (if (M 9 0) = (-1) then ((v_X5_takesDigit M (code - 48)).1, (v_X5_takesDigit M (code - 48)).2) else (true, zU M 10 (fun _ => 5))) else ((v_X5_takesDigit M (code - 48)).1, (v_X5_takesDigit M (code - 48)).2)) else (if (M 10 0) = 5 then ((v_X5_takesBread M code 6).1, (v_X5_takesBread M code 6).2) else (if (M 10 0) = 6 then (false, M) else (if code = 64 then (if (M 9 0) = (-1) then ((v_X5_takesDigit M (code - 48)).1, (v_X5_takesDigit M (code - 48)).2) else (true, zU M 10 (fun _ => 5))) else ((v_X5_takesDigit M (code - 48)).1, (v_X5_takesDigit M (code - 48)).2)))))))))) else (if (M 10 0) = 0 then ((v_X5_begins M code).1, (v_X5_begins M code).2) else (if (M 10 0) = 1 then ((v_X5_takesBread M code 2).1, (v_X5_takesBread M code 2).2) else (if (M 10 0) = 2 then (if code = 61 then (true, zU M 10 (fun _ => 3)) else (false, zU M 10 (fun _ => 3))) else (if (M 10 0) = 3 then ((v_X5_takesDigit M (code - 48)).1, (v_X5_takesDigit M (code - 48)).2) else (if (M 10 0) = 4 then (if code = 64 then (if (M 9 0) = (-1) then ((v_X5_takesDigit M (code - 48)).1, (v_X5_takesDigit M (code - 48)).2) else (true, zU M 10 (fun _ => 5))) else ((v_X5_takesDigit M (code - 48)).1, (v_X5_takesDigit M (code - 48)).2)) else (if (M 10 0) = 5 then ((v_X5_takesBread M code 6).1, (v_X5_takesBread M code 6).2) else (if (M 10 0) = 6 then (false, M) else (if code = 64 then (if (M 9 0) = (-1) then ((v_X5_takesDigit M (code - 48)).1, (v_X5_takesDigit M (code - 48)).2) else (true, zU M 10 (fun _ => 5))) else ((v_X5_takesDigit M (code - 48)).1, (v_X5_takesDigit M (code - 48)).2))))))))))
set_option maxHeartbeats 400000 in
set_option maxRecDepth 100000 in
theorem c_X5_takes (l : Launch) (D : va_G) (g : Nat → ClassId) (u : Nat → Nat) (M : Nat → Nat → Int32) (w : Int64) (code : Int32) (z0 : vp_in (M 8 0) 23) : Wr l D (zT g) yX5_takes wsX5_takes (rmOf 2 47) [.ref (u 0), .int code] (zB_X5 (g 0) u M w) (some (.int (bI ((v_X5_takes M code).1)))) (zB_X5 (g 0) u ((v_X5_takes M code).2) w) := by
  refine Wr.of (cc := cX5_takes) (maxL := 2) (ret := (some .boolean)) (by decide) rfl (Nat.le_of_ble_eq_true rfl) ?_
  intro p e s m below meth c ls hx hb hr hml hown hts hlocks hP hD hS hK hl
  have hown : s.vm.findClass RX5 = some m.cls := hown
  have hinX5 : ∀ w ∈ u_ws RX5 TX5 13, w ∈ wsX5_takes := fun _ h9 => (List.mem_cons_of_mem _ (List.mem_append_right _ h9))
  obtain ⟨q, hq⟩ : ∃ q : Bool × (Nat → Nat → Int32), q = v_X5_takes M code := ⟨_, rfl⟩
  rw [← hq]
  unfold v_X5_takes at hq
  have hl : lv_has ls 2 [(0, .ref (u 0)), (1, .int code)] := hl
  refine lv_iload_n hx hb dX5_takes_0 rfl (lv_at hl 1 rfl) ?_
  refine lv_bipush (v := 59) hx hb dX5_takes_1 (by decide) ?_
  refine lv_icmp_ne (tgt := 30) hx hb dX5_takes_3 (by decide) (fun c_1 => ?_) (fun c_1 => ?_)
  · have c_1 : ¬ (code = 59) := c_1
    have hq := hq.trans (if_neg c_1)
    refine lv_aload_n hx hb dX5_takes_30 rfl (lv_at hl 0 rfl) ?_
    refine va_get (D := D) (ci := 5) (v := .int (M 10 0)) (C := RX5) (T := TX5) (N := 13) hx hb hts hinX5 hown hK.1 hP 0 rfl rfl 10 (by decide) (hts (.fieldLink RX5 162 "SaltSharesModel" "due" "I") (List.mem_of_getElem? (i := 2) rfl)) (fun _ h9 => h9) rfl dX5_takes_31 ?_
    by_cases c_2 : (M 10 0) = 0
    · have hq := hq.trans (if_pos c_2)
      have c_2I : Int32.toInt (M 10 0) = 0 := (congrArg Int32.toInt c_2).trans (by decide)
      refine lv_tableIn (off := 42) (tgt := 76) hx hb dX5_takes_34 (by rw [c_2I]; decide) (by rw [c_2I]; decide) (by rw [c_2I]; rfl) (by decide) ?_
      refine lv_aload_n hx hb dX5_takes_76 rfl (lv_at hl 0 rfl) ?_
      refine lv_iload_n hx hb dX5_takes_77 rfl (lv_at hl 1 rfl) ?_
      refine zcVw (ci := 5) (n := 1) (c_X5_begins l D g u M w code (zrd23 z0)) hx hb hml hown hts gX5_takes_X5_begins rfl ⟨rfl, by decide, by decide, by decide⟩ ⟨Nat.le_of_ble_eq_true rfl, Nat.le_of_ble_eq_true rfl⟩ ⟨rfl, rfl⟩ hK hP hD rfl rfl rfl hS hl.1 rfl rfl (Nat.le_of_ble_eq_true rfl) ⟨Nat.zero_le _, Nat.zero_le _⟩ dX5_takes_78 (fun H1 locs hP1 hk1 hS => ?_)
      have hD := zD_addr (ws' := zB_X5 (g 0) u ((v_X5_begins M code).2) w) hD (by simp only [zF, List.flatten_cons, List.flatten_nil, List.append_nil, List.map_append, List.map_cons, List.map_nil, zad_X0, zad_X1, zad_X2, zad_X3, zad_X4, zad_X5]); have hP := hP1
      clear hP1 hk1
      have hP : va_P D vwCl (zB_X5 (g 0) u ((v_X5_begins M code).2) w) H1 := hP
      have hD : va_D (zA (zB_X5 (g 0) u M w)) (zB_X5 (g 0) u ((v_X5_begins M code).2) w) := hD
      exact zretw_z (q' := ((v_X5_begins M code).1)) hx hb hr hlocks dX5_takes_81 hP hS (by with_reducible exact congrArg (fun z9 => z9.1) hq) (by with_reducible exact congrArg (fun z9 => zB_X5 (g 0) u z9.2 w) hq)
    · have hq := hq.trans (if_neg c_2)
      by_cases c_4 : (M 10 0) = 1
      · have hq := hq.trans (if_pos c_4)
        have c_4I : Int32.toInt (M 10 0) = 1 := (congrArg Int32.toInt c_4).trans (by decide)
        refine lv_tableIn (off := 48) (tgt := 82) hx hb dX5_takes_34 (by rw [c_4I]; decide) (by rw [c_4I]; decide) (by rw [c_4I]; rfl) (by decide) ?_
        refine lv_aload_n hx hb dX5_takes_82 rfl (lv_at hl 0 rfl) ?_
        refine lv_iload_n hx hb dX5_takes_83 rfl (lv_at hl 1 rfl) ?_
        refine lv_iconst (v := 2) hx hb dX5_takes_84 (by decide) ?_
        refine zcVw (ci := 5) (n := 2) (c_X5_takesBread l D g u M w code 2 (zrd23 z0)) hx hb hml hown hts gX5_takes_X5_takesBread rfl ⟨rfl, by decide, by decide, by decide⟩ ⟨Nat.le_of_ble_eq_true rfl, Nat.le_of_ble_eq_true rfl⟩ ⟨rfl, rfl⟩ hK hP hD rfl rfl rfl hS hl.1 rfl rfl (Nat.le_of_ble_eq_true rfl) ⟨Nat.zero_le _, Nat.zero_le _⟩ dX5_takes_85 (fun H1 locs hP1 hk1 hS => ?_)
        have hD := zD_addr (ws' := zB_X5 (g 0) u ((v_X5_takesBread M code 2).2) w) hD (by simp only [zF, List.flatten_cons, List.flatten_nil, List.append_nil, List.map_append, List.map_cons, List.map_nil, zad_X0, zad_X1, zad_X2, zad_X3, zad_X4, zad_X5]); have hP := hP1
        clear hP1 hk1
        have hP : va_P D vwCl (zB_X5 (g 0) u ((v_X5_takesBread M code 2).2) w) H1 := hP
        have hD : va_D (zA (zB_X5 (g 0) u M w)) (zB_X5 (g 0) u ((v_X5_takesBread M code 2).2) w) := hD
        exact zretw_z (q' := ((v_X5_takesBread M code 2).1)) hx hb hr hlocks dX5_takes_88 hP hS (by with_reducible exact congrArg (fun z9 => z9.1) hq) (by with_reducible exact congrArg (fun z9 => zB_X5 (g 0) u z9.2 w) hq)
      · have hq := hq.trans (if_neg c_4)
        by_cases c_6 : (M 10 0) = 2
        · have hq := hq.trans (if_pos c_6)
          have c_6I : Int32.toInt (M 10 0) = 2 := (congrArg Int32.toInt c_6).trans (by decide)
          refine lv_tableIn (off := 55) (tgt := 89) hx hb dX5_takes_34 (by rw [c_6I]; decide) (by rw [c_6I]; decide) (by rw [c_6I]; rfl) (by decide) ?_
          refine lv_aload_n hx hb dX5_takes_89 rfl (lv_at hl 0 rfl) ?_
          refine lv_iconst (v := 3) hx hb dX5_takes_90 (by decide) ?_
          refine va_put (D := D) (ci := 5) (v := .int 3) (ty := .int) (C := RX5) (T := TX5) (N := 13) hx hb hts hinX5 tyX5 tyX5_ok nmX5 hown hK.1 hP hD hS 0 rfl rfl 10 (by decide) (hts (.fieldLink RX5 162 "SaltSharesModel" "due" "I") (List.mem_of_getElem? (i := 2) rfl)) (fun _ h9 => h9) rfl (by decide +kernel) rfl rfl (Nat.le_of_ble_eq_true rfl) dX5_takes_91 (fun H locs hP hD hS => ?_)
          have hP : va_P D vwCl (zB_X5 (g 0) u (zU M 10 (fun _ => 3)) w) H := hP
          have hD : va_D (zA (zB_X5 (g 0) u M w)) (zB_X5 (g 0) u (zU M 10 (fun _ => 3)) w) := hD
          refine lv_iload_n hx hb dX5_takes_94 rfl (lv_at hl 1 rfl) ?_
          refine lv_bipush (v := 61) hx hb dX5_takes_95 (by decide) ?_
          refine lv_icmp_ne (tgt := 104) hx hb dX5_takes_97 (by decide) (fun c_7 => ?_) (fun c_7 => ?_)
          · have c_7 : ¬ (code = 61) := c_7
            have hq := hq.trans (if_neg c_7)
            refine lv_iconst (v := 0) hx hb dX5_takes_104 (by decide) ?_
            exact zretw_z (q' := false) hx hb hr hlocks dX5_takes_105 hP hS (by with_reducible exact congrArg (fun z9 => z9.1) hq) (by with_reducible exact congrArg (fun z9 => zB_X5 (g 0) u z9.2 w) hq)
          · have c_7 : code = 61 := c_7
            have hq := hq.trans (if_pos c_7)
            refine lv_iconst (v := 1) hx hb dX5_takes_100 (by decide) ?_
            refine lv_goto (tgt := 105) hx hb dX5_takes_101 (by decide) ?_
            exact zretw_z (q' := true) hx hb hr hlocks dX5_takes_105 hP hS (by with_reducible exact congrArg (fun z9 => z9.1) hq) (by with_reducible exact congrArg (fun z9 => zB_X5 (g 0) u z9.2 w) hq)
        · have hq := hq.trans (if_neg c_6)
          by_cases c_8 : (M 10 0) = 3
          · have hq := hq.trans (if_pos c_8)
            have c_8I : Int32.toInt (M 10 0) = 3 := (congrArg Int32.toInt c_8).trans (by decide)
            refine lv_tableIn (off := 72) (tgt := 106) hx hb dX5_takes_34 (by rw [c_8I]; decide) (by rw [c_8I]; decide) (by rw [c_8I]; rfl) (by decide) ?_
            refine lv_aload_n hx hb dX5_takes_106 rfl (lv_at hl 0 rfl) ?_
            refine lv_iload_n hx hb dX5_takes_107 rfl (lv_at hl 1 rfl) ?_
            refine lv_bipush (v := 48) hx hb dX5_takes_108 (by decide) ?_
            refine lv_isub hx hb dX5_takes_110 ?_
            refine zcVw (ci := 5) (n := 1) (c_X5_takesDigit l D g u M w (code - 48) (zrd23 z0)) hx hb hml hown hts gX5_takes_X5_takesDigit rfl ⟨rfl, by decide, by decide, by decide⟩ ⟨Nat.le_of_ble_eq_true rfl, Nat.le_of_ble_eq_true rfl⟩ ⟨rfl, rfl⟩ hK hP hD rfl rfl rfl hS hl.1 rfl rfl (Nat.le_of_ble_eq_true rfl) ⟨Nat.zero_le _, Nat.zero_le _⟩ dX5_takes_111 (fun H1 locs hP1 hk1 hS => ?_)
            have hD := zD_addr (ws' := zB_X5 (g 0) u ((v_X5_takesDigit M (code - 48)).2) w) hD (by simp only [zF, List.flatten_cons, List.flatten_nil, List.append_nil, List.map_append, List.map_cons, List.map_nil, zad_X0, zad_X1, zad_X2, zad_X3, zad_X4, zad_X5]); have hP := hP1
            clear hP1 hk1
            have hP : va_P D vwCl (zB_X5 (g 0) u ((v_X5_takesDigit M (code - 48)).2) w) H1 := hP
            have hD : va_D (zA (zB_X5 (g 0) u M w)) (zB_X5 (g 0) u ((v_X5_takesDigit M (code - 48)).2) w) := hD
            exact zretw_z (q' := ((v_X5_takesDigit M (code - 48)).1)) hx hb hr hlocks dX5_takes_114 hP hS (by with_reducible exact congrArg (fun z9 => z9.1) hq) (by with_reducible exact congrArg (fun z9 => zB_X5 (g 0) u z9.2 w) hq)
          · have hq := hq.trans (if_neg c_8)
            by_cases c_10 : (M 10 0) = 4
            · have hq := hq.trans (if_pos c_10)
              have c_10I : Int32.toInt (M 10 0) = 4 := (congrArg Int32.toInt c_10).trans (by decide)
              refine lv_tableIn (off := 91) (tgt := 125) hx hb dX5_takes_34 (by rw [c_10I]; decide) (by rw [c_10I]; decide) (by rw [c_10I]; rfl) (by decide) ?_
              refine lv_iload_n hx hb dX5_takes_125 rfl (lv_at hl 1 rfl) ?_
              refine lv_bipush (v := 64) hx hb dX5_takes_126 (by decide) ?_
              refine lv_icmp_ne (tgt := 146) hx hb dX5_takes_128 (by decide) (fun c_11 => ?_) (fun c_11 => ?_)
              · have c_11 : ¬ (code = 64) := c_11
                have hq := hq.trans (if_neg c_11)
                refine lv_aload_n hx hb dX5_takes_146 rfl (lv_at hl 0 rfl) ?_
                refine lv_iload_n hx hb dX5_takes_147 rfl (lv_at hl 1 rfl) ?_
                refine lv_bipush (v := 48) hx hb dX5_takes_148 (by decide) ?_
                refine lv_isub hx hb dX5_takes_150 ?_
                refine zcVw (ci := 5) (n := 1) (c_X5_takesDigit l D g u M w (code - 48) (zrd23 z0)) hx hb hml hown hts gX5_takes_X5_takesDigit rfl ⟨rfl, by decide, by decide, by decide⟩ ⟨Nat.le_of_ble_eq_true rfl, Nat.le_of_ble_eq_true rfl⟩ ⟨rfl, rfl⟩ hK hP hD rfl rfl rfl hS hl.1 rfl rfl (Nat.le_of_ble_eq_true rfl) ⟨Nat.zero_le _, Nat.zero_le _⟩ dX5_takes_151 (fun H1 locs hP1 hk1 hS => ?_)
                have hD := zD_addr (ws' := zB_X5 (g 0) u ((v_X5_takesDigit M (code - 48)).2) w) hD (by simp only [zF, List.flatten_cons, List.flatten_nil, List.append_nil, List.map_append, List.map_cons, List.map_nil, zad_X0, zad_X1, zad_X2, zad_X3, zad_X4, zad_X5]); have hP := hP1
                clear hP1 hk1
                have hP : va_P D vwCl (zB_X5 (g 0) u ((v_X5_takesDigit M (code - 48)).2) w) H1 := hP
                have hD : va_D (zA (zB_X5 (g 0) u M w)) (zB_X5 (g 0) u ((v_X5_takesDigit M (code - 48)).2) w) := hD
                exact zretw_z (q' := ((v_X5_takesDigit M (code - 48)).1)) hx hb hr hlocks dX5_takes_154 hP hS (by with_reducible exact congrArg (fun z9 => z9.1) hq) (by with_reducible exact congrArg (fun z9 => zB_X5 (g 0) u z9.2 w) hq)
              · have c_11 : code = 64 := c_11
                have hq := hq.trans (if_pos c_11)
                refine lv_aload_n hx hb dX5_takes_131 rfl (lv_at hl 0 rfl) ?_
                refine va_get (D := D) (ci := 5) (v := .int (M 9 0)) (C := RX5) (T := TX5) (N := 13) hx hb hts hinX5 hown hK.1 hP 0 rfl rfl 9 (by decide) (hts (.fieldLink RX5 159 "SaltSharesModel" "number" "I") (List.mem_of_getElem? (i := 3) rfl)) (fun _ h9 => h9) rfl dX5_takes_132 ?_
                refine lv_iconst (v := (-1)) hx hb dX5_takes_135 (by decide) ?_
                refine lv_icmp_eq (tgt := 146) hx hb dX5_takes_136 (by decide) (fun c_13 => ?_) (fun c_13 => ?_)
                · have c_13 : (M 9 0) = (-1) := c_13
                  have hq := hq.trans (if_pos c_13)
                  refine lv_aload_n hx hb dX5_takes_146 rfl (lv_at hl 0 rfl) ?_
                  refine lv_iload_n hx hb dX5_takes_147 rfl (lv_at hl 1 rfl) ?_
                  refine lv_bipush (v := 48) hx hb dX5_takes_148 (by decide) ?_
                  refine lv_isub hx hb dX5_takes_150 ?_
                  refine zcVw (ci := 5) (n := 1) (c_X5_takesDigit l D g u M w (code - 48) (zrd23 z0)) hx hb hml hown hts gX5_takes_X5_takesDigit rfl ⟨rfl, by decide, by decide, by decide⟩ ⟨Nat.le_of_ble_eq_true rfl, Nat.le_of_ble_eq_true rfl⟩ ⟨rfl, rfl⟩ hK hP hD rfl rfl rfl hS hl.1 rfl rfl (Nat.le_of_ble_eq_true rfl) ⟨Nat.zero_le _, Nat.zero_le _⟩ dX5_takes_151 (fun H1 locs hP1 hk1 hS => ?_)
                  have hD := zD_addr (ws' := zB_X5 (g 0) u ((v_X5_takesDigit M (code - 48)).2) w) hD (by simp only [zF, List.flatten_cons, List.flatten_nil, List.append_nil, List.map_append, List.map_cons, List.map_nil, zad_X0, zad_X1, zad_X2, zad_X3, zad_X4, zad_X5]); have hP := hP1
                  clear hP1 hk1
                  have hP : va_P D vwCl (zB_X5 (g 0) u ((v_X5_takesDigit M (code - 48)).2) w) H1 := hP
                  have hD : va_D (zA (zB_X5 (g 0) u M w)) (zB_X5 (g 0) u ((v_X5_takesDigit M (code - 48)).2) w) := hD
                  exact zretw_z (q' := ((v_X5_takesDigit M (code - 48)).1)) hx hb hr hlocks dX5_takes_154 hP hS (by with_reducible exact congrArg (fun z9 => z9.1) hq) (by with_reducible exact congrArg (fun z9 => zB_X5 (g 0) u z9.2 w) hq)
                · have c_13 : ¬ ((M 9 0) = (-1)) := c_13
                  have hq := hq.trans (if_neg c_13)
                  refine lv_aload_n hx hb dX5_takes_139 rfl (lv_at hl 0 rfl) ?_
                  refine lv_iconst (v := 5) hx hb dX5_takes_140 (by decide) ?_
                  refine va_put (D := D) (ci := 5) (v := .int 5) (ty := .int) (C := RX5) (T := TX5) (N := 13) hx hb hts hinX5 tyX5 tyX5_ok nmX5 hown hK.1 hP hD hS 0 rfl rfl 10 (by decide) (hts (.fieldLink RX5 162 "SaltSharesModel" "due" "I") (List.mem_of_getElem? (i := 2) rfl)) (fun _ h9 => h9) rfl (by decide +kernel) rfl rfl (Nat.le_of_ble_eq_true rfl) dX5_takes_141 (fun H locs hP hD hS => ?_)
                  have hP : va_P D vwCl (zB_X5 (g 0) u (zU M 10 (fun _ => 5)) w) H := hP
                  have hD : va_D (zA (zB_X5 (g 0) u M w)) (zB_X5 (g 0) u (zU M 10 (fun _ => 5)) w) := hD
                  refine lv_iconst (v := 1) hx hb dX5_takes_144 (by decide) ?_
                  exact zretw_z (q' := true) hx hb hr hlocks dX5_takes_145 hP hS (by with_reducible exact congrArg (fun z9 => z9.1) hq) (by with_reducible exact congrArg (fun z9 => zB_X5 (g 0) u z9.2 w) hq)
            · have hq := hq.trans (if_neg c_10)
              by_cases c_15 : (M 10 0) = 5
              · have hq := hq.trans (if_pos c_15)
                have c_15I : Int32.toInt (M 10 0) = 5 := (congrArg Int32.toInt c_15).trans (by decide)
                refine lv_tableIn (off := 81) (tgt := 115) hx hb dX5_takes_34 (by rw [c_15I]; decide) (by rw [c_15I]; decide) (by rw [c_15I]; rfl) (by decide) ?_
                refine lv_aload_n hx hb dX5_takes_115 rfl (lv_at hl 0 rfl) ?_
                refine lv_iload_n hx hb dX5_takes_116 rfl (lv_at hl 1 rfl) ?_
                refine lv_bipush (v := 6) hx hb dX5_takes_117 (by decide) ?_
                refine zcVw (ci := 5) (n := 2) (c_X5_takesBread l D g u M w code 6 (zrd23 z0)) hx hb hml hown hts gX5_takes_X5_takesBread rfl ⟨rfl, by decide, by decide, by decide⟩ ⟨Nat.le_of_ble_eq_true rfl, Nat.le_of_ble_eq_true rfl⟩ ⟨rfl, rfl⟩ hK hP hD rfl rfl rfl hS hl.1 rfl rfl (Nat.le_of_ble_eq_true rfl) ⟨Nat.zero_le _, Nat.zero_le _⟩ dX5_takes_119 (fun H1 locs hP1 hk1 hS => ?_)
                have hD := zD_addr (ws' := zB_X5 (g 0) u ((v_X5_takesBread M code 6).2) w) hD (by simp only [zF, List.flatten_cons, List.flatten_nil, List.append_nil, List.map_append, List.map_cons, List.map_nil, zad_X0, zad_X1, zad_X2, zad_X3, zad_X4, zad_X5]); have hP := hP1
                clear hP1 hk1
                have hP : va_P D vwCl (zB_X5 (g 0) u ((v_X5_takesBread M code 6).2) w) H1 := hP
                have hD : va_D (zA (zB_X5 (g 0) u M w)) (zB_X5 (g 0) u ((v_X5_takesBread M code 6).2) w) := hD
                exact zretw_z (q' := ((v_X5_takesBread M code 6).1)) hx hb hr hlocks dX5_takes_122 hP hS (by with_reducible exact congrArg (fun z9 => z9.1) hq) (by with_reducible exact congrArg (fun z9 => zB_X5 (g 0) u z9.2 w) hq)
              · have hq := hq.trans (if_neg c_15)
                by_cases c_17 : (M 10 0) = 6
                · have hq := hq.trans (if_pos c_17)
                  have c_17I : Int32.toInt (M 10 0) = 6 := (congrArg Int32.toInt c_17).trans (by decide)
                  refine lv_tableIn (off := 89) (tgt := 123) hx hb dX5_takes_34 (by rw [c_17I]; decide) (by rw [c_17I]; decide) (by rw [c_17I]; rfl) (by decide) ?_
                  refine lv_iconst (v := 0) hx hb dX5_takes_123 (by decide) ?_
                  exact zretw_z (q' := false) hx hb hr hlocks dX5_takes_124 hP hS (by with_reducible exact congrArg (fun z9 => z9.1) hq) (by with_reducible exact congrArg (fun z9 => zB_X5 (g 0) u z9.2 w) hq)
                · have hq := hq.trans (if_neg c_17)
                  have c_2N : ¬ Int32.toInt (M 10 0) = 0 := lv_neT c_2 (by decide)
                  have c_4N : ¬ Int32.toInt (M 10 0) = 1 := lv_neT c_4 (by decide)
                  have c_6N : ¬ Int32.toInt (M 10 0) = 2 := lv_neT c_6 (by decide)
                  have c_8N : ¬ Int32.toInt (M 10 0) = 3 := lv_neT c_8 (by decide)
                  have c_10N : ¬ Int32.toInt (M 10 0) = 4 := lv_neT c_10 (by decide)
                  have c_15N : ¬ Int32.toInt (M 10 0) = 5 := lv_neT c_15 (by decide)
                  have c_17N : ¬ Int32.toInt (M 10 0) = 6 := lv_neT c_17 (by decide)
                  refine lv_tableOut (tgt := 125) hx hb dX5_takes_34 (by omega) (by decide) ?_
                  refine lv_iload_n hx hb dX5_takes_125 rfl (lv_at hl 1 rfl) ?_
                  refine lv_bipush (v := 64) hx hb dX5_takes_126 (by decide) ?_
                  refine lv_icmp_ne (tgt := 146) hx hb dX5_takes_128 (by decide) (fun c_18 => ?_) (fun c_18 => ?_)
                  · have c_18 : ¬ (code = 64) := c_18
                    have hq := hq.trans (if_neg c_18)
                    refine lv_aload_n hx hb dX5_takes_146 rfl (lv_at hl 0 rfl) ?_
                    refine lv_iload_n hx hb dX5_takes_147 rfl (lv_at hl 1 rfl) ?_
                    refine lv_bipush (v := 48) hx hb dX5_takes_148 (by decide) ?_
                    refine lv_isub hx hb dX5_takes_150 ?_
                    refine zcVw (ci := 5) (n := 1) (c_X5_takesDigit l D g u M w (code - 48) (zrd23 z0)) hx hb hml hown hts gX5_takes_X5_takesDigit rfl ⟨rfl, by decide, by decide, by decide⟩ ⟨Nat.le_of_ble_eq_true rfl, Nat.le_of_ble_eq_true rfl⟩ ⟨rfl, rfl⟩ hK hP hD rfl rfl rfl hS hl.1 rfl rfl (Nat.le_of_ble_eq_true rfl) ⟨Nat.zero_le _, Nat.zero_le _⟩ dX5_takes_151 (fun H1 locs hP1 hk1 hS => ?_)
                    have hD := zD_addr (ws' := zB_X5 (g 0) u ((v_X5_takesDigit M (code - 48)).2) w) hD (by simp only [zF, List.flatten_cons, List.flatten_nil, List.append_nil, List.map_append, List.map_cons, List.map_nil, zad_X0, zad_X1, zad_X2, zad_X3, zad_X4, zad_X5]); have hP := hP1
                    clear hP1 hk1
                    have hP : va_P D vwCl (zB_X5 (g 0) u ((v_X5_takesDigit M (code - 48)).2) w) H1 := hP
                    have hD : va_D (zA (zB_X5 (g 0) u M w)) (zB_X5 (g 0) u ((v_X5_takesDigit M (code - 48)).2) w) := hD
                    exact zretw_z (q' := ((v_X5_takesDigit M (code - 48)).1)) hx hb hr hlocks dX5_takes_154 hP hS (by with_reducible exact congrArg (fun z9 => z9.1) hq) (by with_reducible exact congrArg (fun z9 => zB_X5 (g 0) u z9.2 w) hq)
                  · have c_18 : code = 64 := c_18
                    have hq := hq.trans (if_pos c_18)
                    refine lv_aload_n hx hb dX5_takes_131 rfl (lv_at hl 0 rfl) ?_
                    refine va_get (D := D) (ci := 5) (v := .int (M 9 0)) (C := RX5) (T := TX5) (N := 13) hx hb hts hinX5 hown hK.1 hP 0 rfl rfl 9 (by decide) (hts (.fieldLink RX5 159 "SaltSharesModel" "number" "I") (List.mem_of_getElem? (i := 3) rfl)) (fun _ h9 => h9) rfl dX5_takes_132 ?_
                    refine lv_iconst (v := (-1)) hx hb dX5_takes_135 (by decide) ?_
                    refine lv_icmp_eq (tgt := 146) hx hb dX5_takes_136 (by decide) (fun c_20 => ?_) (fun c_20 => ?_)
                    · have c_20 : (M 9 0) = (-1) := c_20
                      have hq := hq.trans (if_pos c_20)
                      refine lv_aload_n hx hb dX5_takes_146 rfl (lv_at hl 0 rfl) ?_
                      refine lv_iload_n hx hb dX5_takes_147 rfl (lv_at hl 1 rfl) ?_
                      refine lv_bipush (v := 48) hx hb dX5_takes_148 (by decide) ?_
                      refine lv_isub hx hb dX5_takes_150 ?_
                      refine zcVw (ci := 5) (n := 1) (c_X5_takesDigit l D g u M w (code - 48) (zrd23 z0)) hx hb hml hown hts gX5_takes_X5_takesDigit rfl ⟨rfl, by decide, by decide, by decide⟩ ⟨Nat.le_of_ble_eq_true rfl, Nat.le_of_ble_eq_true rfl⟩ ⟨rfl, rfl⟩ hK hP hD rfl rfl rfl hS hl.1 rfl rfl (Nat.le_of_ble_eq_true rfl) ⟨Nat.zero_le _, Nat.zero_le _⟩ dX5_takes_151 (fun H1 locs hP1 hk1 hS => ?_)
                      have hD := zD_addr (ws' := zB_X5 (g 0) u ((v_X5_takesDigit M (code - 48)).2) w) hD (by simp only [zF, List.flatten_cons, List.flatten_nil, List.append_nil, List.map_append, List.map_cons, List.map_nil, zad_X0, zad_X1, zad_X2, zad_X3, zad_X4, zad_X5]); have hP := hP1
                      clear hP1 hk1
                      have hP : va_P D vwCl (zB_X5 (g 0) u ((v_X5_takesDigit M (code - 48)).2) w) H1 := hP
                      have hD : va_D (zA (zB_X5 (g 0) u M w)) (zB_X5 (g 0) u ((v_X5_takesDigit M (code - 48)).2) w) := hD
                      exact zretw_z (q' := ((v_X5_takesDigit M (code - 48)).1)) hx hb hr hlocks dX5_takes_154 hP hS (by with_reducible exact congrArg (fun z9 => z9.1) hq) (by with_reducible exact congrArg (fun z9 => zB_X5 (g 0) u z9.2 w) hq)
                    · have c_20 : ¬ ((M 9 0) = (-1)) := c_20
                      have hq := hq.trans (if_neg c_20)
                      refine lv_aload_n hx hb dX5_takes_139 rfl (lv_at hl 0 rfl) ?_
                      refine lv_iconst (v := 5) hx hb dX5_takes_140 (by decide) ?_
                      refine va_put (D := D) (ci := 5) (v := .int 5) (ty := .int) (C := RX5) (T := TX5) (N := 13) hx hb hts hinX5 tyX5 tyX5_ok nmX5 hown hK.1 hP hD hS 0 rfl rfl 10 (by decide) (hts (.fieldLink RX5 162 "SaltSharesModel" "due" "I") (List.mem_of_getElem? (i := 2) rfl)) (fun _ h9 => h9) rfl (by decide +kernel) rfl rfl (Nat.le_of_ble_eq_true rfl) dX5_takes_141 (fun H locs hP hD hS => ?_)
                      have hP : va_P D vwCl (zB_X5 (g 0) u (zU M 10 (fun _ => 5)) w) H := hP
                      have hD : va_D (zA (zB_X5 (g 0) u M w)) (zB_X5 (g 0) u (zU M 10 (fun _ => 5)) w) := hD
                      refine lv_iconst (v := 1) hx hb dX5_takes_144 (by decide) ?_
                      exact zretw_z (q' := true) hx hb hr hlocks dX5_takes_145 hP hS (by with_reducible exact congrArg (fun z9 => z9.1) hq) (by with_reducible exact congrArg (fun z9 => zB_X5 (g 0) u z9.2 w) hq)
  · have c_1 : code = 59 := c_1
    have hq := hq.trans (if_pos c_1)
    refine lv_aload_n hx hb dX5_takes_6 rfl (lv_at hl 0 rfl) ?_
    refine zcV (ci := 5) (n := 0) (c_X5_isEnded l D g u M w) hx hb hml hown hts gX5_takes_X5_isEnded rfl ⟨rfl, by decide, by decide, by decide⟩ ⟨Nat.le_of_ble_eq_true rfl, Nat.le_of_ble_eq_true rfl⟩ ⟨rfl, rfl⟩ hK hP rfl rfl rfl hl.1 rfl rfl (Nat.le_of_ble_eq_true rfl) ⟨Nat.zero_le _, Nat.zero_le _⟩ dX5_takes_7 ?_
    refine zif_eq (tgt := 30) hx hb dX5_takes_10 (by decide) (fun c_23 => ?_) (fun c_23 => ?_)
    · have hq := hq.trans (zif_f c_23)
      refine lv_aload_n hx hb dX5_takes_30 rfl (lv_at hl 0 rfl) ?_
      refine va_get (D := D) (ci := 5) (v := .int (M 10 0)) (C := RX5) (T := TX5) (N := 13) hx hb hts hinX5 hown hK.1 hP 0 rfl rfl 10 (by decide) (hts (.fieldLink RX5 162 "SaltSharesModel" "due" "I") (List.mem_of_getElem? (i := 2) rfl)) (fun _ h9 => h9) rfl dX5_takes_31 ?_
      by_cases c_24 : (M 10 0) = 0
      · have hq := hq.trans (if_pos c_24)
        have c_24I : Int32.toInt (M 10 0) = 0 := (congrArg Int32.toInt c_24).trans (by decide)
        refine lv_tableIn (off := 42) (tgt := 76) hx hb dX5_takes_34 (by rw [c_24I]; decide) (by rw [c_24I]; decide) (by rw [c_24I]; rfl) (by decide) ?_
        refine lv_aload_n hx hb dX5_takes_76 rfl (lv_at hl 0 rfl) ?_
        refine lv_iload_n hx hb dX5_takes_77 rfl (lv_at hl 1 rfl) ?_
        refine zcVw (ci := 5) (n := 1) (c_X5_begins l D g u M w code (zrd23 z0)) hx hb hml hown hts gX5_takes_X5_begins rfl ⟨rfl, by decide, by decide, by decide⟩ ⟨Nat.le_of_ble_eq_true rfl, Nat.le_of_ble_eq_true rfl⟩ ⟨rfl, rfl⟩ hK hP hD rfl rfl rfl hS hl.1 rfl rfl (Nat.le_of_ble_eq_true rfl) ⟨Nat.zero_le _, Nat.zero_le _⟩ dX5_takes_78 (fun H1 locs hP1 hk1 hS => ?_)
        have hD := zD_addr (ws' := zB_X5 (g 0) u ((v_X5_begins M code).2) w) hD (by simp only [zF, List.flatten_cons, List.flatten_nil, List.append_nil, List.map_append, List.map_cons, List.map_nil, zad_X0, zad_X1, zad_X2, zad_X3, zad_X4, zad_X5]); have hP := hP1
        clear hP1 hk1
        have hP : va_P D vwCl (zB_X5 (g 0) u ((v_X5_begins M code).2) w) H1 := hP
        have hD : va_D (zA (zB_X5 (g 0) u M w)) (zB_X5 (g 0) u ((v_X5_begins M code).2) w) := hD
        exact zretw_z (q' := ((v_X5_begins M code).1)) hx hb hr hlocks dX5_takes_81 hP hS (by with_reducible exact congrArg (fun z9 => z9.1) hq) (by with_reducible exact congrArg (fun z9 => zB_X5 (g 0) u z9.2 w) hq)
      · have hq := hq.trans (if_neg c_24)
        by_cases c_26 : (M 10 0) = 1
        · have hq := hq.trans (if_pos c_26)
          have c_26I : Int32.toInt (M 10 0) = 1 := (congrArg Int32.toInt c_26).trans (by decide)
          refine lv_tableIn (off := 48) (tgt := 82) hx hb dX5_takes_34 (by rw [c_26I]; decide) (by rw [c_26I]; decide) (by rw [c_26I]; rfl) (by decide) ?_
          refine lv_aload_n hx hb dX5_takes_82 rfl (lv_at hl 0 rfl) ?_
          refine lv_iload_n hx hb dX5_takes_83 rfl (lv_at hl 1 rfl) ?_
          refine lv_iconst (v := 2) hx hb dX5_takes_84 (by decide) ?_
          refine zcVw (ci := 5) (n := 2) (c_X5_takesBread l D g u M w code 2 (zrd23 z0)) hx hb hml hown hts gX5_takes_X5_takesBread rfl ⟨rfl, by decide, by decide, by decide⟩ ⟨Nat.le_of_ble_eq_true rfl, Nat.le_of_ble_eq_true rfl⟩ ⟨rfl, rfl⟩ hK hP hD rfl rfl rfl hS hl.1 rfl rfl (Nat.le_of_ble_eq_true rfl) ⟨Nat.zero_le _, Nat.zero_le _⟩ dX5_takes_85 (fun H1 locs hP1 hk1 hS => ?_)
          have hD := zD_addr (ws' := zB_X5 (g 0) u ((v_X5_takesBread M code 2).2) w) hD (by simp only [zF, List.flatten_cons, List.flatten_nil, List.append_nil, List.map_append, List.map_cons, List.map_nil, zad_X0, zad_X1, zad_X2, zad_X3, zad_X4, zad_X5]); have hP := hP1
          clear hP1 hk1
          have hP : va_P D vwCl (zB_X5 (g 0) u ((v_X5_takesBread M code 2).2) w) H1 := hP
          have hD : va_D (zA (zB_X5 (g 0) u M w)) (zB_X5 (g 0) u ((v_X5_takesBread M code 2).2) w) := hD
          exact zretw_z (q' := ((v_X5_takesBread M code 2).1)) hx hb hr hlocks dX5_takes_88 hP hS (by with_reducible exact congrArg (fun z9 => z9.1) hq) (by with_reducible exact congrArg (fun z9 => zB_X5 (g 0) u z9.2 w) hq)
        · have hq := hq.trans (if_neg c_26)
          by_cases c_28 : (M 10 0) = 2
          · have hq := hq.trans (if_pos c_28)
            have c_28I : Int32.toInt (M 10 0) = 2 := (congrArg Int32.toInt c_28).trans (by decide)
            refine lv_tableIn (off := 55) (tgt := 89) hx hb dX5_takes_34 (by rw [c_28I]; decide) (by rw [c_28I]; decide) (by rw [c_28I]; rfl) (by decide) ?_
            refine lv_aload_n hx hb dX5_takes_89 rfl (lv_at hl 0 rfl) ?_
            refine lv_iconst (v := 3) hx hb dX5_takes_90 (by decide) ?_
            refine va_put (D := D) (ci := 5) (v := .int 3) (ty := .int) (C := RX5) (T := TX5) (N := 13) hx hb hts hinX5 tyX5 tyX5_ok nmX5 hown hK.1 hP hD hS 0 rfl rfl 10 (by decide) (hts (.fieldLink RX5 162 "SaltSharesModel" "due" "I") (List.mem_of_getElem? (i := 2) rfl)) (fun _ h9 => h9) rfl (by decide +kernel) rfl rfl (Nat.le_of_ble_eq_true rfl) dX5_takes_91 (fun H locs hP hD hS => ?_)
            have hP : va_P D vwCl (zB_X5 (g 0) u (zU M 10 (fun _ => 3)) w) H := hP
            have hD : va_D (zA (zB_X5 (g 0) u M w)) (zB_X5 (g 0) u (zU M 10 (fun _ => 3)) w) := hD
            refine lv_iload_n hx hb dX5_takes_94 rfl (lv_at hl 1 rfl) ?_
            refine lv_bipush (v := 61) hx hb dX5_takes_95 (by decide) ?_
            refine lv_icmp_ne (tgt := 104) hx hb dX5_takes_97 (by decide) (fun c_29 => ?_) (fun c_29 => ?_)
            · have c_29 : ¬ (code = 61) := c_29
              have hq := hq.trans (if_neg c_29)
              refine lv_iconst (v := 0) hx hb dX5_takes_104 (by decide) ?_
              exact zretw_z (q' := false) hx hb hr hlocks dX5_takes_105 hP hS (by with_reducible exact congrArg (fun z9 => z9.1) hq) (by with_reducible exact congrArg (fun z9 => zB_X5 (g 0) u z9.2 w) hq)
            · have c_29 : code = 61 := c_29
              have hq := hq.trans (if_pos c_29)
              refine lv_iconst (v := 1) hx hb dX5_takes_100 (by decide) ?_
              refine lv_goto (tgt := 105) hx hb dX5_takes_101 (by decide) ?_
              exact zretw_z (q' := true) hx hb hr hlocks dX5_takes_105 hP hS (by with_reducible exact congrArg (fun z9 => z9.1) hq) (by with_reducible exact congrArg (fun z9 => zB_X5 (g 0) u z9.2 w) hq)
          · have hq := hq.trans (if_neg c_28)
            by_cases c_30 : (M 10 0) = 3
            · have hq := hq.trans (if_pos c_30)
              have c_30I : Int32.toInt (M 10 0) = 3 := (congrArg Int32.toInt c_30).trans (by decide)
              refine lv_tableIn (off := 72) (tgt := 106) hx hb dX5_takes_34 (by rw [c_30I]; decide) (by rw [c_30I]; decide) (by rw [c_30I]; rfl) (by decide) ?_
              refine lv_aload_n hx hb dX5_takes_106 rfl (lv_at hl 0 rfl) ?_
              refine lv_iload_n hx hb dX5_takes_107 rfl (lv_at hl 1 rfl) ?_
              refine lv_bipush (v := 48) hx hb dX5_takes_108 (by decide) ?_
              refine lv_isub hx hb dX5_takes_110 ?_
              refine zcVw (ci := 5) (n := 1) (c_X5_takesDigit l D g u M w (code - 48) (zrd23 z0)) hx hb hml hown hts gX5_takes_X5_takesDigit rfl ⟨rfl, by decide, by decide, by decide⟩ ⟨Nat.le_of_ble_eq_true rfl, Nat.le_of_ble_eq_true rfl⟩ ⟨rfl, rfl⟩ hK hP hD rfl rfl rfl hS hl.1 rfl rfl (Nat.le_of_ble_eq_true rfl) ⟨Nat.zero_le _, Nat.zero_le _⟩ dX5_takes_111 (fun H1 locs hP1 hk1 hS => ?_)
              have hD := zD_addr (ws' := zB_X5 (g 0) u ((v_X5_takesDigit M (code - 48)).2) w) hD (by simp only [zF, List.flatten_cons, List.flatten_nil, List.append_nil, List.map_append, List.map_cons, List.map_nil, zad_X0, zad_X1, zad_X2, zad_X3, zad_X4, zad_X5]); have hP := hP1
              clear hP1 hk1
              have hP : va_P D vwCl (zB_X5 (g 0) u ((v_X5_takesDigit M (code - 48)).2) w) H1 := hP
              have hD : va_D (zA (zB_X5 (g 0) u M w)) (zB_X5 (g 0) u ((v_X5_takesDigit M (code - 48)).2) w) := hD
              exact zretw_z (q' := ((v_X5_takesDigit M (code - 48)).1)) hx hb hr hlocks dX5_takes_114 hP hS (by with_reducible exact congrArg (fun z9 => z9.1) hq) (by with_reducible exact congrArg (fun z9 => zB_X5 (g 0) u z9.2 w) hq)
            · have hq := hq.trans (if_neg c_30)
              by_cases c_32 : (M 10 0) = 4
              · have hq := hq.trans (if_pos c_32)
                have c_32I : Int32.toInt (M 10 0) = 4 := (congrArg Int32.toInt c_32).trans (by decide)
                refine lv_tableIn (off := 91) (tgt := 125) hx hb dX5_takes_34 (by rw [c_32I]; decide) (by rw [c_32I]; decide) (by rw [c_32I]; rfl) (by decide) ?_
                refine lv_iload_n hx hb dX5_takes_125 rfl (lv_at hl 1 rfl) ?_
                refine lv_bipush (v := 64) hx hb dX5_takes_126 (by decide) ?_
                refine lv_icmp_ne (tgt := 146) hx hb dX5_takes_128 (by decide) (fun c_33 => ?_) (fun c_33 => ?_)
                · have c_33 : ¬ (code = 64) := c_33
                  have hq := hq.trans (if_neg c_33)
                  refine lv_aload_n hx hb dX5_takes_146 rfl (lv_at hl 0 rfl) ?_
                  refine lv_iload_n hx hb dX5_takes_147 rfl (lv_at hl 1 rfl) ?_
                  refine lv_bipush (v := 48) hx hb dX5_takes_148 (by decide) ?_
                  refine lv_isub hx hb dX5_takes_150 ?_
                  refine zcVw (ci := 5) (n := 1) (c_X5_takesDigit l D g u M w (code - 48) (zrd23 z0)) hx hb hml hown hts gX5_takes_X5_takesDigit rfl ⟨rfl, by decide, by decide, by decide⟩ ⟨Nat.le_of_ble_eq_true rfl, Nat.le_of_ble_eq_true rfl⟩ ⟨rfl, rfl⟩ hK hP hD rfl rfl rfl hS hl.1 rfl rfl (Nat.le_of_ble_eq_true rfl) ⟨Nat.zero_le _, Nat.zero_le _⟩ dX5_takes_151 (fun H1 locs hP1 hk1 hS => ?_)
                  have hD := zD_addr (ws' := zB_X5 (g 0) u ((v_X5_takesDigit M (code - 48)).2) w) hD (by simp only [zF, List.flatten_cons, List.flatten_nil, List.append_nil, List.map_append, List.map_cons, List.map_nil, zad_X0, zad_X1, zad_X2, zad_X3, zad_X4, zad_X5]); have hP := hP1
                  clear hP1 hk1
                  have hP : va_P D vwCl (zB_X5 (g 0) u ((v_X5_takesDigit M (code - 48)).2) w) H1 := hP
                  have hD : va_D (zA (zB_X5 (g 0) u M w)) (zB_X5 (g 0) u ((v_X5_takesDigit M (code - 48)).2) w) := hD
                  exact zretw_z (q' := ((v_X5_takesDigit M (code - 48)).1)) hx hb hr hlocks dX5_takes_154 hP hS (by with_reducible exact congrArg (fun z9 => z9.1) hq) (by with_reducible exact congrArg (fun z9 => zB_X5 (g 0) u z9.2 w) hq)
                · have c_33 : code = 64 := c_33
                  have hq := hq.trans (if_pos c_33)
                  refine lv_aload_n hx hb dX5_takes_131 rfl (lv_at hl 0 rfl) ?_
                  refine va_get (D := D) (ci := 5) (v := .int (M 9 0)) (C := RX5) (T := TX5) (N := 13) hx hb hts hinX5 hown hK.1 hP 0 rfl rfl 9 (by decide) (hts (.fieldLink RX5 159 "SaltSharesModel" "number" "I") (List.mem_of_getElem? (i := 3) rfl)) (fun _ h9 => h9) rfl dX5_takes_132 ?_
                  refine lv_iconst (v := (-1)) hx hb dX5_takes_135 (by decide) ?_
                  refine lv_icmp_eq (tgt := 146) hx hb dX5_takes_136 (by decide) (fun c_35 => ?_) (fun c_35 => ?_)
                  · have c_35 : (M 9 0) = (-1) := c_35
                    have hq := hq.trans (if_pos c_35)
                    refine lv_aload_n hx hb dX5_takes_146 rfl (lv_at hl 0 rfl) ?_
                    refine lv_iload_n hx hb dX5_takes_147 rfl (lv_at hl 1 rfl) ?_
                    refine lv_bipush (v := 48) hx hb dX5_takes_148 (by decide) ?_
                    refine lv_isub hx hb dX5_takes_150 ?_
                    refine zcVw (ci := 5) (n := 1) (c_X5_takesDigit l D g u M w (code - 48) (zrd23 z0)) hx hb hml hown hts gX5_takes_X5_takesDigit rfl ⟨rfl, by decide, by decide, by decide⟩ ⟨Nat.le_of_ble_eq_true rfl, Nat.le_of_ble_eq_true rfl⟩ ⟨rfl, rfl⟩ hK hP hD rfl rfl rfl hS hl.1 rfl rfl (Nat.le_of_ble_eq_true rfl) ⟨Nat.zero_le _, Nat.zero_le _⟩ dX5_takes_151 (fun H1 locs hP1 hk1 hS => ?_)
                    have hD := zD_addr (ws' := zB_X5 (g 0) u ((v_X5_takesDigit M (code - 48)).2) w) hD (by simp only [zF, List.flatten_cons, List.flatten_nil, List.append_nil, List.map_append, List.map_cons, List.map_nil, zad_X0, zad_X1, zad_X2, zad_X3, zad_X4, zad_X5]); have hP := hP1
                    clear hP1 hk1
                    have hP : va_P D vwCl (zB_X5 (g 0) u ((v_X5_takesDigit M (code - 48)).2) w) H1 := hP
                    have hD : va_D (zA (zB_X5 (g 0) u M w)) (zB_X5 (g 0) u ((v_X5_takesDigit M (code - 48)).2) w) := hD
                    exact zretw_z (q' := ((v_X5_takesDigit M (code - 48)).1)) hx hb hr hlocks dX5_takes_154 hP hS (by with_reducible exact congrArg (fun z9 => z9.1) hq) (by with_reducible exact congrArg (fun z9 => zB_X5 (g 0) u z9.2 w) hq)
                  · have c_35 : ¬ ((M 9 0) = (-1)) := c_35
                    have hq := hq.trans (if_neg c_35)
                    refine lv_aload_n hx hb dX5_takes_139 rfl (lv_at hl 0 rfl) ?_
                    refine lv_iconst (v := 5) hx hb dX5_takes_140 (by decide) ?_
                    refine va_put (D := D) (ci := 5) (v := .int 5) (ty := .int) (C := RX5) (T := TX5) (N := 13) hx hb hts hinX5 tyX5 tyX5_ok nmX5 hown hK.1 hP hD hS 0 rfl rfl 10 (by decide) (hts (.fieldLink RX5 162 "SaltSharesModel" "due" "I") (List.mem_of_getElem? (i := 2) rfl)) (fun _ h9 => h9) rfl (by decide +kernel) rfl rfl (Nat.le_of_ble_eq_true rfl) dX5_takes_141 (fun H locs hP hD hS => ?_)
                    have hP : va_P D vwCl (zB_X5 (g 0) u (zU M 10 (fun _ => 5)) w) H := hP
                    have hD : va_D (zA (zB_X5 (g 0) u M w)) (zB_X5 (g 0) u (zU M 10 (fun _ => 5)) w) := hD
                    refine lv_iconst (v := 1) hx hb dX5_takes_144 (by decide) ?_
                    exact zretw_z (q' := true) hx hb hr hlocks dX5_takes_145 hP hS (by with_reducible exact congrArg (fun z9 => z9.1) hq) (by with_reducible exact congrArg (fun z9 => zB_X5 (g 0) u z9.2 w) hq)
              · have hq := hq.trans (if_neg c_32)
                by_cases c_37 : (M 10 0) = 5
                · have hq := hq.trans (if_pos c_37)
                  have c_37I : Int32.toInt (M 10 0) = 5 := (congrArg Int32.toInt c_37).trans (by decide)
                  refine lv_tableIn (off := 81) (tgt := 115) hx hb dX5_takes_34 (by rw [c_37I]; decide) (by rw [c_37I]; decide) (by rw [c_37I]; rfl) (by decide) ?_
                  refine lv_aload_n hx hb dX5_takes_115 rfl (lv_at hl 0 rfl) ?_
                  refine lv_iload_n hx hb dX5_takes_116 rfl (lv_at hl 1 rfl) ?_
                  refine lv_bipush (v := 6) hx hb dX5_takes_117 (by decide) ?_
                  refine zcVw (ci := 5) (n := 2) (c_X5_takesBread l D g u M w code 6 (zrd23 z0)) hx hb hml hown hts gX5_takes_X5_takesBread rfl ⟨rfl, by decide, by decide, by decide⟩ ⟨Nat.le_of_ble_eq_true rfl, Nat.le_of_ble_eq_true rfl⟩ ⟨rfl, rfl⟩ hK hP hD rfl rfl rfl hS hl.1 rfl rfl (Nat.le_of_ble_eq_true rfl) ⟨Nat.zero_le _, Nat.zero_le _⟩ dX5_takes_119 (fun H1 locs hP1 hk1 hS => ?_)
                  have hD := zD_addr (ws' := zB_X5 (g 0) u ((v_X5_takesBread M code 6).2) w) hD (by simp only [zF, List.flatten_cons, List.flatten_nil, List.append_nil, List.map_append, List.map_cons, List.map_nil, zad_X0, zad_X1, zad_X2, zad_X3, zad_X4, zad_X5]); have hP := hP1
                  clear hP1 hk1
                  have hP : va_P D vwCl (zB_X5 (g 0) u ((v_X5_takesBread M code 6).2) w) H1 := hP
                  have hD : va_D (zA (zB_X5 (g 0) u M w)) (zB_X5 (g 0) u ((v_X5_takesBread M code 6).2) w) := hD
                  exact zretw_z (q' := ((v_X5_takesBread M code 6).1)) hx hb hr hlocks dX5_takes_122 hP hS (by with_reducible exact congrArg (fun z9 => z9.1) hq) (by with_reducible exact congrArg (fun z9 => zB_X5 (g 0) u z9.2 w) hq)
                · have hq := hq.trans (if_neg c_37)
                  by_cases c_39 : (M 10 0) = 6
                  · have hq := hq.trans (if_pos c_39)
                    have c_39I : Int32.toInt (M 10 0) = 6 := (congrArg Int32.toInt c_39).trans (by decide)
                    refine lv_tableIn (off := 89) (tgt := 123) hx hb dX5_takes_34 (by rw [c_39I]; decide) (by rw [c_39I]; decide) (by rw [c_39I]; rfl) (by decide) ?_
                    refine lv_iconst (v := 0) hx hb dX5_takes_123 (by decide) ?_
                    exact zretw_z (q' := false) hx hb hr hlocks dX5_takes_124 hP hS (by with_reducible exact congrArg (fun z9 => z9.1) hq) (by with_reducible exact congrArg (fun z9 => zB_X5 (g 0) u z9.2 w) hq)
                  · have hq := hq.trans (if_neg c_39)
                    have c_24N : ¬ Int32.toInt (M 10 0) = 0 := lv_neT c_24 (by decide)
                    have c_26N : ¬ Int32.toInt (M 10 0) = 1 := lv_neT c_26 (by decide)
                    have c_28N : ¬ Int32.toInt (M 10 0) = 2 := lv_neT c_28 (by decide)
                    have c_30N : ¬ Int32.toInt (M 10 0) = 3 := lv_neT c_30 (by decide)
                    have c_32N : ¬ Int32.toInt (M 10 0) = 4 := lv_neT c_32 (by decide)
                    have c_37N : ¬ Int32.toInt (M 10 0) = 5 := lv_neT c_37 (by decide)
                    have c_39N : ¬ Int32.toInt (M 10 0) = 6 := lv_neT c_39 (by decide)
                    refine lv_tableOut (tgt := 125) hx hb dX5_takes_34 (by omega) (by decide) ?_
                    refine lv_iload_n hx hb dX5_takes_125 rfl (lv_at hl 1 rfl) ?_
                    refine lv_bipush (v := 64) hx hb dX5_takes_126 (by decide) ?_
                    refine lv_icmp_ne (tgt := 146) hx hb dX5_takes_128 (by decide) (fun c_40 => ?_) (fun c_40 => ?_)
                    · have c_40 : ¬ (code = 64) := c_40
                      have hq := hq.trans (if_neg c_40)
                      refine lv_aload_n hx hb dX5_takes_146 rfl (lv_at hl 0 rfl) ?_
                      refine lv_iload_n hx hb dX5_takes_147 rfl (lv_at hl 1 rfl) ?_
                      refine lv_bipush (v := 48) hx hb dX5_takes_148 (by decide) ?_
                      refine lv_isub hx hb dX5_takes_150 ?_
                      refine zcVw (ci := 5) (n := 1) (c_X5_takesDigit l D g u M w (code - 48) (zrd23 z0)) hx hb hml hown hts gX5_takes_X5_takesDigit rfl ⟨rfl, by decide, by decide, by decide⟩ ⟨Nat.le_of_ble_eq_true rfl, Nat.le_of_ble_eq_true rfl⟩ ⟨rfl, rfl⟩ hK hP hD rfl rfl rfl hS hl.1 rfl rfl (Nat.le_of_ble_eq_true rfl) ⟨Nat.zero_le _, Nat.zero_le _⟩ dX5_takes_151 (fun H1 locs hP1 hk1 hS => ?_)
                      have hD := zD_addr (ws' := zB_X5 (g 0) u ((v_X5_takesDigit M (code - 48)).2) w) hD (by simp only [zF, List.flatten_cons, List.flatten_nil, List.append_nil, List.map_append, List.map_cons, List.map_nil, zad_X0, zad_X1, zad_X2, zad_X3, zad_X4, zad_X5]); have hP := hP1
                      clear hP1 hk1
                      have hP : va_P D vwCl (zB_X5 (g 0) u ((v_X5_takesDigit M (code - 48)).2) w) H1 := hP
                      have hD : va_D (zA (zB_X5 (g 0) u M w)) (zB_X5 (g 0) u ((v_X5_takesDigit M (code - 48)).2) w) := hD
                      exact zretw_z (q' := ((v_X5_takesDigit M (code - 48)).1)) hx hb hr hlocks dX5_takes_154 hP hS (by with_reducible exact congrArg (fun z9 => z9.1) hq) (by with_reducible exact congrArg (fun z9 => zB_X5 (g 0) u z9.2 w) hq)
                    · have c_40 : code = 64 := c_40
                      have hq := hq.trans (if_pos c_40)
                      refine lv_aload_n hx hb dX5_takes_131 rfl (lv_at hl 0 rfl) ?_
                      refine va_get (D := D) (ci := 5) (v := .int (M 9 0)) (C := RX5) (T := TX5) (N := 13) hx hb hts hinX5 hown hK.1 hP 0 rfl rfl 9 (by decide) (hts (.fieldLink RX5 159 "SaltSharesModel" "number" "I") (List.mem_of_getElem? (i := 3) rfl)) (fun _ h9 => h9) rfl dX5_takes_132 ?_
                      refine lv_iconst (v := (-1)) hx hb dX5_takes_135 (by decide) ?_
                      refine lv_icmp_eq (tgt := 146) hx hb dX5_takes_136 (by decide) (fun c_42 => ?_) (fun c_42 => ?_)
                      · have c_42 : (M 9 0) = (-1) := c_42
                        have hq := hq.trans (if_pos c_42)
                        refine lv_aload_n hx hb dX5_takes_146 rfl (lv_at hl 0 rfl) ?_
                        refine lv_iload_n hx hb dX5_takes_147 rfl (lv_at hl 1 rfl) ?_
                        refine lv_bipush (v := 48) hx hb dX5_takes_148 (by decide) ?_
                        refine lv_isub hx hb dX5_takes_150 ?_
                        refine zcVw (ci := 5) (n := 1) (c_X5_takesDigit l D g u M w (code - 48) (zrd23 z0)) hx hb hml hown hts gX5_takes_X5_takesDigit rfl ⟨rfl, by decide, by decide, by decide⟩ ⟨Nat.le_of_ble_eq_true rfl, Nat.le_of_ble_eq_true rfl⟩ ⟨rfl, rfl⟩ hK hP hD rfl rfl rfl hS hl.1 rfl rfl (Nat.le_of_ble_eq_true rfl) ⟨Nat.zero_le _, Nat.zero_le _⟩ dX5_takes_151 (fun H1 locs hP1 hk1 hS => ?_)
                        have hD := zD_addr (ws' := zB_X5 (g 0) u ((v_X5_takesDigit M (code - 48)).2) w) hD (by simp only [zF, List.flatten_cons, List.flatten_nil, List.append_nil, List.map_append, List.map_cons, List.map_nil, zad_X0, zad_X1, zad_X2, zad_X3, zad_X4, zad_X5]); have hP := hP1
                        clear hP1 hk1
                        have hP : va_P D vwCl (zB_X5 (g 0) u ((v_X5_takesDigit M (code - 48)).2) w) H1 := hP
                        have hD : va_D (zA (zB_X5 (g 0) u M w)) (zB_X5 (g 0) u ((v_X5_takesDigit M (code - 48)).2) w) := hD
                        exact zretw_z (q' := ((v_X5_takesDigit M (code - 48)).1)) hx hb hr hlocks dX5_takes_154 hP hS (by with_reducible exact congrArg (fun z9 => z9.1) hq) (by with_reducible exact congrArg (fun z9 => zB_X5 (g 0) u z9.2 w) hq)
                      · have c_42 : ¬ ((M 9 0) = (-1)) := c_42
                        have hq := hq.trans (if_neg c_42)
                        refine lv_aload_n hx hb dX5_takes_139 rfl (lv_at hl 0 rfl) ?_
                        refine lv_iconst (v := 5) hx hb dX5_takes_140 (by decide) ?_
                        refine va_put (D := D) (ci := 5) (v := .int 5) (ty := .int) (C := RX5) (T := TX5) (N := 13) hx hb hts hinX5 tyX5 tyX5_ok nmX5 hown hK.1 hP hD hS 0 rfl rfl 10 (by decide) (hts (.fieldLink RX5 162 "SaltSharesModel" "due" "I") (List.mem_of_getElem? (i := 2) rfl)) (fun _ h9 => h9) rfl (by decide +kernel) rfl rfl (Nat.le_of_ble_eq_true rfl) dX5_takes_141 (fun H locs hP hD hS => ?_)
                        have hP : va_P D vwCl (zB_X5 (g 0) u (zU M 10 (fun _ => 5)) w) H := hP
                        have hD : va_D (zA (zB_X5 (g 0) u M w)) (zB_X5 (g 0) u (zU M 10 (fun _ => 5)) w) := hD
                        refine lv_iconst (v := 1) hx hb dX5_takes_144 (by decide) ?_
                        exact zretw_z (q' := true) hx hb hr hlocks dX5_takes_145 hP hS (by with_reducible exact congrArg (fun z9 => z9.1) hq) (by with_reducible exact congrArg (fun z9 => zB_X5 (g 0) u z9.2 w) hq)
    · have hq := hq.trans (zif_t c_23)
      refine lv_aload_n hx hb dX5_takes_13 rfl (lv_at hl 0 rfl) ?_
      refine lv_dup hx hb dX5_takes_14 rfl ?_
      refine va_get (D := D) (ci := 5) (v := .int (M 8 0)) (C := RX5) (T := TX5) (N := 13) hx hb hts hinX5 hown hK.1 hP 0 rfl rfl 8 (by decide) (hts (.fieldLink RX5 156 "SaltSharesModel" "read" "I") (List.mem_of_getElem? (i := 1) rfl)) (fun _ h9 => h9) rfl dX5_takes_15 ?_
      refine lv_iconst (v := 1) hx hb dX5_takes_18 (by decide) ?_
      refine lv_iadd hx hb dX5_takes_19 ?_
      refine va_put (D := D) (ci := 5) (v := .int ((M 8 0) + 1)) (ty := .int) (C := RX5) (T := TX5) (N := 13) hx hb hts hinX5 tyX5 tyX5_ok nmX5 hown hK.1 hP hD hS 0 rfl rfl 8 (by decide) (hts (.fieldLink RX5 156 "SaltSharesModel" "read" "I") (List.mem_of_getElem? (i := 1) rfl)) (fun _ h9 => h9) rfl (by decide +kernel) rfl rfl (Nat.le_of_ble_eq_true rfl) dX5_takes_20 (fun H locs hP hD hS => ?_)
      have hP : va_P D vwCl (zB_X5 (g 0) u (zU M 8 (fun _ => ((M 8 0) + 1))) w) H := hP
      have hD : va_D (zA (zB_X5 (g 0) u M w)) (zB_X5 (g 0) u (zU M 8 (fun _ => ((M 8 0) + 1))) w) := hD
      refine lv_aload_n hx hb dX5_takes_23 rfl (lv_at hl 0 rfl) ?_
      refine lv_iconst (v := 0) hx hb dX5_takes_24 (by decide) ?_
      refine va_put (D := D) (ci := 5) (v := .int 0) (ty := .int) (C := RX5) (T := TX5) (N := 13) hx hb hts hinX5 tyX5 tyX5_ok nmX5 hown hK.1 hP hD hS 0 rfl rfl 10 (by decide) (hts (.fieldLink RX5 162 "SaltSharesModel" "due" "I") (List.mem_of_getElem? (i := 2) rfl)) (fun _ h9 => h9) rfl (by decide +kernel) rfl rfl (Nat.le_of_ble_eq_true rfl) dX5_takes_25 (fun H locs hP hD hS => ?_)
      have hP : va_P D vwCl (zB_X5 (g 0) u (zU (zU M 8 (fun _ => ((M 8 0) + 1))) 10 (fun _ => 0)) w) H := hP
      have hD : va_D (zA (zB_X5 (g 0) u M w)) (zB_X5 (g 0) u (zU (zU M 8 (fun _ => ((M 8 0) + 1))) 10 (fun _ => 0)) w) := hD
      refine lv_iconst (v := 1) hx hb dX5_takes_28 (by decide) ?_
      exact zretw_z (q' := true) hx hb hr hlocks dX5_takes_29 hP hS (by with_reducible exact congrArg (fun z9 => z9.1) hq) (by with_reducible exact congrArg (fun z9 => zB_X5 (g 0) u z9.2 w) hq)
