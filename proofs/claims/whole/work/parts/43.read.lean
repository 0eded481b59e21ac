def v_X0_readCommand_19  : Nat → Bool → (Nat → Nat → Int32) → Bool × (Nat → Nat → Int32)
  | 0, _, _ => (false, (fun _ _ => 0))
  | n + 1, within1, X1 => (if within1 = true then (if (X1 1 0) ≤ (X1 2 0) then (false, X1) else (if 60 ≤ (X1 2 0) then (false, X1) else (if ((v_X0_take X1 (X1 0 (Int32.toNatClampNeg (X1 2 0)))).1) = true then (if (X1 0 (Int32.toNatClampNeg (X1 2 0))) = 59 then v_X0_readCommand_19 n false (zU ((v_X0_take X1 (X1 0 (Int32.toNatClampNeg (X1 2 0)))).2) 2 (fun _ => ((((v_X0_take X1 (X1 0 (Int32.toNatClampNeg (X1 2 0)))).2) 2 0) + 1))) else v_X0_readCommand_19 n true (zU ((v_X0_take X1 (X1 0 (Int32.toNatClampNeg (X1 2 0)))).2) 2 (fun _ => ((((v_X0_take X1 (X1 0 (Int32.toNatClampNeg (X1 2 0)))).2) 2 0) + 1)))) else v_X0_readCommand_19 n false (zU ((v_X0_take X1 (X1 0 (Int32.toNatClampNeg (X1 2 0)))).2) 2 (fun _ => ((((v_X0_take X1 (X1 0 (Int32.toNatClampNeg (X1 2 0)))).2) 2 0) + 1)))))) else (false, X1))
def v_X0_readCommand_19b  : Nat → Bool → (Nat → Nat → Int32) → Bool × (Nat → Nat → Int32)
  | 0, _, _ => (false, (fun _ _ => 0))
  | n + 1, within1, X1 => (if within1 = true then (if (X1 1 0) ≤ (X1 2 0) then (true, X1) else (if 60 ≤ (X1 2 0) then (true, X1) else (if ((v_X0_take X1 (X1 0 (Int32.toNatClampNeg (X1 2 0)))).1) = true then (if (X1 0 (Int32.toNatClampNeg (X1 2 0))) = 59 then v_X0_readCommand_19b n false (zU ((v_X0_take X1 (X1 0 (Int32.toNatClampNeg (X1 2 0)))).2) 2 (fun _ => ((((v_X0_take X1 (X1 0 (Int32.toNatClampNeg (X1 2 0)))).2) 2 0) + 1))) else v_X0_readCommand_19b n true (zU ((v_X0_take X1 (X1 0 (Int32.toNatClampNeg (X1 2 0)))).2) 2 (fun _ => ((((v_X0_take X1 (X1 0 (Int32.toNatClampNeg (X1 2 0)))).2) 2 0) + 1)))) else v_X0_readCommand_19b n false (zU ((v_X0_take X1 (X1 0 (Int32.toNatClampNeg (X1 2 0)))).2) 2 (fun _ => ((((v_X0_take X1 (X1 0 (Int32.toNatClampNeg (X1 2 0)))).2) 2 0) + 1)))))) else (true, X1))
def v_X0_readCommand (X : Nat → Nat → Int32) : Bool × (Nat → Nat → Int32) := (if (X 1 0) ≤ (X 2 0) then v_X0_readCommand_19 61 false X else v_X0_readCommand_19b 61 true X)
set_option maxHeartbeats 400000 in
set_option maxRecDepth 100000 in
theorem c_X0_readCommand (l : Launch) (D : va_G) (g : Nat → ClassId) (x : Nat → Nat) (X : Nat → Nat → Int32) (z0 : vp_in (X 2 0) 61) : Wr l D (zT g) yX0_readCommand wsX0_readCommand (rmOf 4 83) [.ref (x 0)] (zB_X0 (g 0) x X) (some (.int (bI ((v_X0_readCommand X).1)))) (zB_X0 (g 0) x ((v_X0_readCommand X).2)) := by
  refine Wr.of (cc := cX0_readCommand) (maxL := 4) (ret := (some .boolean)) (by decide) rfl (Nat.le_of_ble_eq_true rfl) ?_
  intro p e s m below meth c ls hx hb hr hml hown hts hlocks hP hD hS hK hl
  have hown : s.vm.findClass RX0 = some m.cls := hown
  have hinX0 : ∀ w ∈ u_ws RX0 TX0 7, w ∈ wsX0_readCommand := fun _ h9 => (List.mem_cons_of_mem _ (List.mem_append_right _ h9))
  obtain ⟨q, hq⟩ : ∃ q : Bool × (Nat → Nat → Int32), q = v_X0_readCommand X := ⟨_, rfl⟩
  rw [← hq]
  unfold v_X0_readCommand at hq
  have hl : lv_has ls 4 [(0, .ref (x 0))] := hl
  refine lv_aload_n hx hb dX0_readCommand_0 rfl (lv_at hl 0 rfl) ?_
  refine va_get (D := D) (ci := 0) (v := .int (X 2 0)) (C := RX0) (T := TX0) (N := 7) hx hb hts hinX0 hown hK.1 hP 0 rfl rfl 2 (by decide) (hts (.fieldLink RX0 37 "SaltShares$CommandText" "at" "I") (List.mem_of_getElem? (i := 1) rfl)) (fun _ h9 => h9) rfl dX0_readCommand_1 ?_
  refine lv_aload_n hx hb dX0_readCommand_4 rfl (lv_at hl 0 rfl) ?_
  refine va_get (D := D) (ci := 0) (v := .int (X 1 0)) (C := RX0) (T := TX0) (N := 7) hx hb hts hinX0 hown hK.1 hP 0 rfl rfl 1 (by decide) (hts (.fieldLink RX0 15 "SaltShares$CommandText" "length" "I") (List.mem_of_getElem? (i := 2) rfl)) (fun _ h9 => h9) rfl dX0_readCommand_5 ?_
  refine lv_icmp_ge (tgt := 15) hx hb dX0_readCommand_8 (by decide) (fun c_1 => ?_) (fun c_1 => ?_)
  · have c_1 : (X 1 0) ≤ (X 2 0) := c_1
    have hq := hq.trans (if_pos c_1)
    refine lv_iconst (v := 0) hx hb dX0_readCommand_15 (by decide) ?_
    refine lv_istore_n (lv' := [(1, .int 0), (0, .ref (x 0))]) hx hb dX0_readCommand_16 rfl hl (by decide) rfl (fun ls hl => ?_)
    refine lv_iload_n hx hb dX0_readCommand_17 rfl (lv_at hl 0 rfl) ?_
    refine lv_istore_n (lv' := [(2, .int 0), (1, .int 0), (0, .ref (x 0))]) hx hb dX0_readCommand_18 rfl hl (by decide) rfl (fun ls hl => ?_)
    have L19 : ∀ (n : Nat) (within1 : Bool) (X1 : Nat → Nat → Int32), (vp_in (X1 2 0) 61) → 60 - Int32.toNatClampNeg (X1 2 0) < n → ∀ (H : Heap) (locs : List Loc), va_P D vwCl (zB_X0 (g 0) x X1) H → va_D (zA (zB_X0 (g 0) x X)) (zB_X0 (g 0) x X1) → va_S (zA (zB_X0 (g 0) x X)) s.heap H locs → ∀ (ls : Array Slot), lv_has ls 4 [(0, .ref (x 0)), (1, .int 0), (2, .int (bI within1))] → q = v_X0_readCommand_19 n within1 X1 → W p l e (rmOf 4 83) s m [.ref (x 0)].toArray below meth c H locs 0 0 (MQ below (zQw D (zB_X0 (g 0) x X) (some (.int (bI q.1))) (zB_X0 (g 0) x q.2)) [.ref (x 0)].toArray s 0 0 (zA (zB_X0 (g 0) x X))) (F0 m 19 ls []) := by
      intro n
      induction n with
      | zero => intro within1 X1 v19_0 hn; exact absurd hn (Nat.not_lt_zero _)
      | succ n ih19 =>
        intro within1 X1 v19_0 hn19 H locs hP hD hS ls hl hq
        rw [v_X0_readCommand_19] at hq
        refine lv_iload_n hx hb dX0_readCommand_19 rfl (lv_at hl 2 rfl) ?_
        refine zif_eq (tgt := 86) hx hb dX0_readCommand_20 (by decide) (fun c_2 => ?_) (fun c_2 => ?_)
        · have hq := hq.trans (zif_f c_2)
          refine lv_iload_n hx hb dX0_readCommand_86 rfl (lv_at hl 1 rfl) ?_
          exact zretw_z (q' := false) hx hb hr hlocks dX0_readCommand_87 hP hS (congrArg (fun z9 => z9.1) hq) (congrArg (fun z9 => zB_X0 (g 0) x z9.2) hq)
        · have hq := hq.trans (zif_t c_2)
          refine lv_aload_n hx hb dX0_readCommand_23 rfl (lv_at hl 0 rfl) ?_
          refine va_get (D := D) (ci := 0) (v := .int (X1 2 0)) (C := RX0) (T := TX0) (N := 7) hx hb hts hinX0 hown hK.1 hP 0 rfl rfl 2 (by decide) (hts (.fieldLink RX0 37 "SaltShares$CommandText" "at" "I") (List.mem_of_getElem? (i := 1) rfl)) (fun _ h9 => h9) rfl dX0_readCommand_24 ?_
          refine lv_aload_n hx hb dX0_readCommand_27 rfl (lv_at hl 0 rfl) ?_
          refine va_get (D := D) (ci := 0) (v := .int (X1 1 0)) (C := RX0) (T := TX0) (N := 7) hx hb hts hinX0 hown hK.1 hP 0 rfl rfl 1 (by decide) (hts (.fieldLink RX0 15 "SaltShares$CommandText" "length" "I") (List.mem_of_getElem? (i := 2) rfl)) (fun _ h9 => h9) rfl dX0_readCommand_28 ?_
          refine lv_icmp_ge (tgt := 86) hx hb dX0_readCommand_31 (by decide) (fun c_3 => ?_) (fun c_3 => ?_)
          · have c_3 : (X1 1 0) ≤ (X1 2 0) := c_3
            have hq := hq.trans (if_pos c_3)
            refine lv_iload_n hx hb dX0_readCommand_86 rfl (lv_at hl 1 rfl) ?_
            exact zretw_z (q' := false) hx hb hr hlocks dX0_readCommand_87 hP hS (congrArg (fun z9 => z9.1) hq) (congrArg (fun z9 => zB_X0 (g 0) x z9.2) hq)
          · have c_3 : ¬ ((X1 1 0) ≤ (X1 2 0)) := c_3
            have hq := hq.trans (if_neg c_3)
            refine lv_aload_n hx hb dX0_readCommand_34 rfl (lv_at hl 0 rfl) ?_
            refine va_get (D := D) (ci := 0) (v := .int (X1 2 0)) (C := RX0) (T := TX0) (N := 7) hx hb hts hinX0 hown hK.1 hP 0 rfl rfl 2 (by decide) (hts (.fieldLink RX0 37 "SaltShares$CommandText" "at" "I") (List.mem_of_getElem? (i := 1) rfl)) (fun _ h9 => h9) rfl dX0_readCommand_35 ?_
            refine lv_bipush (v := 60) hx hb dX0_readCommand_38 (by decide) ?_
            refine lv_icmp_ge (tgt := 86) hx hb dX0_readCommand_40 (by decide) (fun c_4 => ?_) (fun c_4 => ?_)
            · have c_4 : 60 ≤ (X1 2 0) := c_4
              have hq := hq.trans (if_pos c_4)
              refine lv_iload_n hx hb dX0_readCommand_86 rfl (lv_at hl 1 rfl) ?_
              exact zretw_z (q' := false) hx hb hr hlocks dX0_readCommand_87 hP hS (congrArg (fun z9 => z9.1) hq) (congrArg (fun z9 => zB_X0 (g 0) x z9.2) hq)
            · have c_4 : ¬ (60 ≤ (X1 2 0)) := c_4
              have hq := hq.trans (if_neg c_4)
              refine lv_aload_n hx hb dX0_readCommand_43 rfl (lv_at hl 0 rfl) ?_
              refine va_get (D := D) (ci := 0) (v := .ref (x 1)) (C := RX0) (T := TX0) (N := 7) hx hb hts hinX0 hown hK.1 hP 0 rfl rfl 0 (by decide) (hts (.fieldLink RX0 9 "SaltShares$CommandText" "codes" "[I") (List.mem_of_getElem? (i := 3) rfl)) (fun _ h9 => h9) rfl dX0_readCommand_44 ?_
              refine lv_aload_n hx hb dX0_readCommand_47 rfl (lv_at hl 0 rfl) ?_
              refine va_get (D := D) (ci := 0) (v := .int (X1 2 0)) (C := RX0) (T := TX0) (N := 7) hx hb hts hinX0 hown hK.1 hP 0 rfl rfl 2 (by decide) (hts (.fieldLink RX0 37 "SaltShares$CommandText" "at" "I") (List.mem_of_getElem? (i := 1) rfl)) (fun _ h9 => h9) rfl dX0_readCommand_48 ?_
              refine va_iald hx hb hK.1 hP 1 0 rfl rfl (ztk60 v19_0 (by with_reducible assumption)) dX0_readCommand_51 ?_
              refine lv_istore_n (lv' := [(3, .int (X1 0 (Int32.toNatClampNeg (X1 2 0)))), (0, .ref (x 0)), (1, .int 0), (2, .int (bI within1))]) hx hb dX0_readCommand_52 rfl hl (by decide) rfl (fun ls hl => ?_)
              refine lv_aload_n hx hb dX0_readCommand_53 rfl (lv_at hl 1 rfl) ?_
              refine lv_iload_n hx hb dX0_readCommand_54 rfl (lv_at hl 0 rfl) ?_
              refine zcVw (ci := 0) (n := 1) (c_X0_take l D g x X1 (X1 0 (Int32.toNatClampNeg (X1 2 0)))) hx hb hml hown hts gX0_readCommand_X0_take rfl ⟨rfl, by decide, by decide, by decide⟩ ⟨Nat.le_of_ble_eq_true rfl, Nat.le_of_ble_eq_true rfl⟩ ⟨rfl, rfl⟩ hK hP hD rfl rfl rfl hS hl.1 rfl rfl (Nat.le_of_ble_eq_true rfl) ⟨Nat.zero_le _, Nat.zero_le _⟩ dX0_readCommand_55 (fun H1 locs hP1 hk1 hS => ?_)
              have hD := zD_addr (ws' := zB_X0 (g 0) x ((v_X0_take X1 (X1 0 (Int32.toNatClampNeg (X1 2 0)))).2)) hD rfl; have hP := hP1
              clear hP1 hk1
              have hP : va_P D vwCl (zB_X0 (g 0) x ((v_X0_take X1 (X1 0 (Int32.toNatClampNeg (X1 2 0)))).2)) H1 := hP
              have hD : va_D (zA (zB_X0 (g 0) x X)) (zB_X0 (g 0) x ((v_X0_take X1 (X1 0 (Int32.toNatClampNeg (X1 2 0)))).2)) := hD
              refine zif_eq (tgt := 71) hx hb dX0_readCommand_58 (by decide) (fun c_6 => ?_) (fun c_6 => ?_)
              · have hq := hq.trans (zif_f c_6)
                refine lv_iconst (v := 0) hx hb dX0_readCommand_71 (by decide) ?_
                refine lv_is (show (0 : Int32) = bI false from rfl) ?_
                refine lv_istore_n (lv' := [(2, .int (bI false)), (3, .int (X1 0 (Int32.toNatClampNeg (X1 2 0)))), (0, .ref (x 0)), (1, .int 0)]) hx hb dX0_readCommand_72 rfl hl (by decide) rfl (fun ls hl => ?_)
                refine lv_aload_n hx hb dX0_readCommand_73 rfl (lv_at hl 2 rfl) ?_
                refine lv_dup hx hb dX0_readCommand_74 rfl ?_
                refine va_get (D := D) (ci := 0) (v := .int (((v_X0_take X1 (X1 0 (Int32.toNatClampNeg (X1 2 0)))).2) 2 0)) (C := RX0) (T := TX0) (N := 7) hx hb hts hinX0 hown hK.1 hP 0 rfl rfl 2 (by decide) (hts (.fieldLink RX0 37 "SaltShares$CommandText" "at" "I") (List.mem_of_getElem? (i := 1) rfl)) (fun _ h9 => h9) rfl dX0_readCommand_75 ?_
                refine lv_iconst (v := 1) hx hb dX0_readCommand_78 (by decide) ?_
                refine lv_iadd hx hb dX0_readCommand_79 ?_
                refine va_put (D := D) (ci := 0) (v := .int ((((v_X0_take X1 (X1 0 (Int32.toNatClampNeg (X1 2 0)))).2) 2 0) + 1)) (ty := .int) (C := RX0) (T := TX0) (N := 7) hx hb hts hinX0 tyX0 tyX0_ok nmX0 hown hK.1 hP hD hS 0 rfl rfl 2 (by decide) (hts (.fieldLink RX0 37 "SaltShares$CommandText" "at" "I") (List.mem_of_getElem? (i := 1) rfl)) (fun _ h9 => h9) rfl (by decide +kernel) rfl rfl (Nat.le_of_ble_eq_true rfl) dX0_readCommand_80 (fun H locs hP hD hS => ?_)
                have hP : va_P D vwCl (zB_X0 (g 0) x (zU ((v_X0_take X1 (X1 0 (Int32.toNatClampNeg (X1 2 0)))).2) 2 (fun _ => ((((v_X0_take X1 (X1 0 (Int32.toNatClampNeg (X1 2 0)))).2) 2 0) + 1)))) H := hP
                have hD : va_D (zA (zB_X0 (g 0) x X)) (zB_X0 (g 0) x (zU ((v_X0_take X1 (X1 0 (Int32.toNatClampNeg (X1 2 0)))).2) 2 (fun _ => ((((v_X0_take X1 (X1 0 (Int32.toNatClampNeg (X1 2 0)))).2) 2 0) + 1)))) := hD
                refine lv_goto (tgt := 19) hx hb dX0_readCommand_83 (by decide) ?_
                exact ih19 false (zU ((v_X0_take X1 (X1 0 (Int32.toNatClampNeg (X1 2 0)))).2) 2 (fun _ => ((((v_X0_take X1 (X1 0 (Int32.toNatClampNeg (X1 2 0)))).2) 2 0) + 1))) (ztk_in v19_0 (by with_reducible assumption)) (ztk_ms v19_0 (by with_reducible assumption) hn19) _ _ hP hD hS ls (lv_sub hl [2, 3, 0] rfl) hq
              · have hq := hq.trans (zif_t c_6)
                refine lv_iload_n hx hb dX0_readCommand_61 rfl (lv_at hl 0 rfl) ?_
                refine lv_bipush (v := 59) hx hb dX0_readCommand_62 (by decide) ?_
                refine lv_icmp_eq (tgt := 71) hx hb dX0_readCommand_64 (by decide) (fun c_7 => ?_) (fun c_7 => ?_)
                · have c_7 : (X1 0 (Int32.toNatClampNeg (X1 2 0))) = 59 := c_7
                  have hq := hq.trans (if_pos c_7)
                  refine lv_iconst (v := 0) hx hb dX0_readCommand_71 (by decide) ?_
                  refine lv_is (show (0 : Int32) = bI false from rfl) ?_
                  refine lv_istore_n (lv' := [(2, .int (bI false)), (3, .int (X1 0 (Int32.toNatClampNeg (X1 2 0)))), (0, .ref (x 0)), (1, .int 0)]) hx hb dX0_readCommand_72 rfl hl (by decide) rfl (fun ls hl => ?_)
                  refine lv_aload_n hx hb dX0_readCommand_73 rfl (lv_at hl 2 rfl) ?_
                  refine lv_dup hx hb dX0_readCommand_74 rfl ?_
                  refine va_get (D := D) (ci := 0) (v := .int (((v_X0_take X1 (X1 0 (Int32.toNatClampNeg (X1 2 0)))).2) 2 0)) (C := RX0) (T := TX0) (N := 7) hx hb hts hinX0 hown hK.1 hP 0 rfl rfl 2 (by decide) (hts (.fieldLink RX0 37 "SaltShares$CommandText" "at" "I") (List.mem_of_getElem? (i := 1) rfl)) (fun _ h9 => h9) rfl dX0_readCommand_75 ?_
                  refine lv_iconst (v := 1) hx hb dX0_readCommand_78 (by decide) ?_
                  refine lv_iadd hx hb dX0_readCommand_79 ?_
                  refine va_put (D := D) (ci := 0) (v := .int ((((v_X0_take X1 (X1 0 (Int32.toNatClampNeg (X1 2 0)))).2) 2 0) + 1)) (ty := .int) (C := RX0) (T := TX0) (N := 7) hx hb hts hinX0 tyX0 tyX0_ok nmX0 hown hK.1 hP hD hS 0 rfl rfl 2 (by decide) (hts (.fieldLink RX0 37 "SaltShares$CommandText" "at" "I") (List.mem_of_getElem? (i := 1) rfl)) (fun _ h9 => h9) rfl (by decide +kernel) rfl rfl (Nat.le_of_ble_eq_true rfl) dX0_readCommand_80 (fun H locs hP hD hS => ?_)
                  have hP : va_P D vwCl (zB_X0 (g 0) x (zU ((v_X0_take X1 (X1 0 (Int32.toNatClampNeg (X1 2 0)))).2) 2 (fun _ => ((((v_X0_take X1 (X1 0 (Int32.toNatClampNeg (X1 2 0)))).2) 2 0) + 1)))) H := hP
                  have hD : va_D (zA (zB_X0 (g 0) x X)) (zB_X0 (g 0) x (zU ((v_X0_take X1 (X1 0 (Int32.toNatClampNeg (X1 2 0)))).2) 2 (fun _ => ((((v_X0_take X1 (X1 0 (Int32.toNatClampNeg (X1 2 0)))).2) 2 0) + 1)))) := hD
                  refine lv_goto (tgt := 19) hx hb dX0_readCommand_83 (by decide) ?_
                  exact ih19 false (zU ((v_X0_take X1 (X1 0 (Int32.toNatClampNeg (X1 2 0)))).2) 2 (fun _ => ((((v_X0_take X1 (X1 0 (Int32.toNatClampNeg (X1 2 0)))).2) 2 0) + 1))) (ztk_in v19_0 (by with_reducible assumption)) (ztk_ms v19_0 (by with_reducible assumption) hn19) _ _ hP hD hS ls (lv_sub hl [2, 3, 0] rfl) hq
                · have c_7 : ¬ ((X1 0 (Int32.toNatClampNeg (X1 2 0))) = 59) := c_7
                  have hq := hq.trans (if_neg c_7)
                  refine lv_iconst (v := 1) hx hb dX0_readCommand_67 (by decide) ?_
                  refine lv_goto (tgt := 72) hx hb dX0_readCommand_68 (by decide) ?_
                  refine lv_is (show (1 : Int32) = bI true from rfl) ?_
                  refine lv_istore_n (lv' := [(2, .int (bI true)), (3, .int (X1 0 (Int32.toNatClampNeg (X1 2 0)))), (0, .ref (x 0)), (1, .int 0)]) hx hb dX0_readCommand_72 rfl hl (by decide) rfl (fun ls hl => ?_)
                  refine lv_aload_n hx hb dX0_readCommand_73 rfl (lv_at hl 2 rfl) ?_
                  refine lv_dup hx hb dX0_readCommand_74 rfl ?_
                  refine va_get (D := D) (ci := 0) (v := .int (((v_X0_take X1 (X1 0 (Int32.toNatClampNeg (X1 2 0)))).2) 2 0)) (C := RX0) (T := TX0) (N := 7) hx hb hts hinX0 hown hK.1 hP 0 rfl rfl 2 (by decide) (hts (.fieldLink RX0 37 "SaltShares$CommandText" "at" "I") (List.mem_of_getElem? (i := 1) rfl)) (fun _ h9 => h9) rfl dX0_readCommand_75 ?_
                  refine lv_iconst (v := 1) hx hb dX0_readCommand_78 (by decide) ?_
                  refine lv_iadd hx hb dX0_readCommand_79 ?_
                  refine va_put (D := D) (ci := 0) (v := .int ((((v_X0_take X1 (X1 0 (Int32.toNatClampNeg (X1 2 0)))).2) 2 0) + 1)) (ty := .int) (C := RX0) (T := TX0) (N := 7) hx hb hts hinX0 tyX0 tyX0_ok nmX0 hown hK.1 hP hD hS 0 rfl rfl 2 (by decide) (hts (.fieldLink RX0 37 "SaltShares$CommandText" "at" "I") (List.mem_of_getElem? (i := 1) rfl)) (fun _ h9 => h9) rfl (by decide +kernel) rfl rfl (Nat.le_of_ble_eq_true rfl) dX0_readCommand_80 (fun H locs hP hD hS => ?_)
                  have hP : va_P D vwCl (zB_X0 (g 0) x (zU ((v_X0_take X1 (X1 0 (Int32.toNatClampNeg (X1 2 0)))).2) 2 (fun _ => ((((v_X0_take X1 (X1 0 (Int32.toNatClampNeg (X1 2 0)))).2) 2 0) + 1)))) H := hP
                  have hD : va_D (zA (zB_X0 (g 0) x X)) (zB_X0 (g 0) x (zU ((v_X0_take X1 (X1 0 (Int32.toNatClampNeg (X1 2 0)))).2) 2 (fun _ => ((((v_X0_take X1 (X1 0 (Int32.toNatClampNeg (X1 2 0)))).2) 2 0) + 1)))) := hD
                  refine lv_goto (tgt := 19) hx hb dX0_readCommand_83 (by decide) ?_
                  exact ih19 true (zU ((v_X0_take X1 (X1 0 (Int32.toNatClampNeg (X1 2 0)))).2) 2 (fun _ => ((((v_X0_take X1 (X1 0 (Int32.toNatClampNeg (X1 2 0)))).2) 2 0) + 1))) (ztk_in v19_0 (by with_reducible assumption)) (ztk_ms v19_0 (by with_reducible assumption) hn19) _ _ hP hD hS ls (lv_sub hl [2, 3, 0] rfl) hq
    exact L19 61 false X z0 (by omega) _ _ hP hD hS ls (lv_sub hl [2, 1, 0] rfl) hq
  · have c_1 : ¬ ((X 1 0) ≤ (X 2 0)) := c_1
    have hq := hq.trans (if_neg c_1)
    refine lv_iconst (v := 1) hx hb dX0_readCommand_11 (by decide) ?_
    refine lv_goto (tgt := 16) hx hb dX0_readCommand_12 (by decide) ?_
    refine lv_istore_n (lv' := [(1, .int 1), (0, .ref (x 0))]) hx hb dX0_readCommand_16 rfl hl (by decide) rfl (fun ls hl => ?_)
    refine lv_iload_n hx hb dX0_readCommand_17 rfl (lv_at hl 0 rfl) ?_
    refine lv_istore_n (lv' := [(2, .int 1), (1, .int 1), (0, .ref (x 0))]) hx hb dX0_readCommand_18 rfl hl (by decide) rfl (fun ls hl => ?_)
    have L19 : ∀ (n : Nat) (within1 : Bool) (X1 : Nat → Nat → Int32), (vp_in (X1 2 0) 61) → 60 - Int32.toNatClampNeg (X1 2 0) < n → ∀ (H : Heap) (locs : List Loc), va_P D vwCl (zB_X0 (g 0) x X1) H → va_D (zA (zB_X0 (g 0) x X)) (zB_X0 (g 0) x X1) → va_S (zA (zB_X0 (g 0) x X)) s.heap H locs → ∀ (ls : Array Slot), lv_has ls 4 [(0, .ref (x 0)), (1, .int 1), (2, .int (bI within1))] → q = v_X0_readCommand_19b n within1 X1 → W p l e (rmOf 4 83) s m [.ref (x 0)].toArray below meth c H locs 0 0 (MQ below (zQw D (zB_X0 (g 0) x X) (some (.int (bI q.1))) (zB_X0 (g 0) x q.2)) [.ref (x 0)].toArray s 0 0 (zA (zB_X0 (g 0) x X))) (F0 m 19 ls []) := by
      intro n
      induction n with
      | zero => intro within1 X1 v19_0 hn; exact absurd hn (Nat.not_lt_zero _)
      | succ n ih19 =>
        intro within1 X1 v19_0 hn19 H locs hP hD hS ls hl hq
        rw [v_X0_readCommand_19b] at hq
        refine lv_iload_n hx hb dX0_readCommand_19 rfl (lv_at hl 2 rfl) ?_
        refine zif_eq (tgt := 86) hx hb dX0_readCommand_20 (by decide) (fun c_8 => ?_) (fun c_8 => ?_)
        · have hq := hq.trans (zif_f c_8)
          refine lv_iload_n hx hb dX0_readCommand_86 rfl (lv_at hl 1 rfl) ?_
          exact zretw_z (q' := true) hx hb hr hlocks dX0_readCommand_87 hP hS (congrArg (fun z9 => z9.1) hq) (congrArg (fun z9 => zB_X0 (g 0) x z9.2) hq)
        · have hq := hq.trans (zif_t c_8)
          refine lv_aload_n hx hb dX0_readCommand_23 rfl (lv_at hl 0 rfl) ?_
          refine va_get (D := D) (ci := 0) (v := .int (X1 2 0)) (C := RX0) (T := TX0) (N := 7) hx hb hts hinX0 hown hK.1 hP 0 rfl rfl 2 (by decide) (hts (.fieldLink RX0 37 "SaltShares$CommandText" "at" "I") (List.mem_of_getElem? (i := 1) rfl)) (fun _ h9 => h9) rfl dX0_readCommand_24 ?_
          refine lv_aload_n hx hb dX0_readCommand_27 rfl (lv_at hl 0 rfl) ?_
          refine va_get (D := D) (ci := 0) (v := .int (X1 1 0)) (C := RX0) (T := TX0) (N := 7) hx hb hts hinX0 hown hK.1 hP 0 rfl rfl 1 (by decide) (hts (.fieldLink RX0 15 "SaltShares$CommandText" "length" "I") (List.mem_of_getElem? (i := 2) rfl)) (fun _ h9 => h9) rfl dX0_readCommand_28 ?_
          refine lv_icmp_ge (tgt := 86) hx hb dX0_readCommand_31 (by decide) (fun c_9 => ?_) (fun c_9 => ?_)
          · have c_9 : (X1 1 0) ≤ (X1 2 0) := c_9
            have hq := hq.trans (if_pos c_9)
            refine lv_iload_n hx hb dX0_readCommand_86 rfl (lv_at hl 1 rfl) ?_
            exact zretw_z (q' := true) hx hb hr hlocks dX0_readCommand_87 hP hS (congrArg (fun z9 => z9.1) hq) (congrArg (fun z9 => zB_X0 (g 0) x z9.2) hq)
          · have c_9 : ¬ ((X1 1 0) ≤ (X1 2 0)) := c_9
            have hq := hq.trans (if_neg c_9)
            refine lv_aload_n hx hb dX0_readCommand_34 rfl (lv_at hl 0 rfl) ?_
            refine va_get (D := D) (ci := 0) (v := .int (X1 2 0)) (C := RX0) (T := TX0) (N := 7) hx hb hts hinX0 hown hK.1 hP 0 rfl rfl 2 (by decide) (hts (.fieldLink RX0 37 "SaltShares$CommandText" "at" "I") (List.mem_of_getElem? (i := 1) rfl)) (fun _ h9 => h9) rfl dX0_readCommand_35 ?_
            refine lv_bipush (v := 60) hx hb dX0_readCommand_38 (by decide) ?_
            refine lv_icmp_ge (tgt := 86) hx hb dX0_readCommand_40 (by decide) (fun c_10 => ?_) (fun c_10 => ?_)
            · have c_10 : 60 ≤ (X1 2 0) := c_10
              have hq := hq.trans (if_pos c_10)
              refine lv_iload_n hx hb dX0_readCommand_86 rfl (lv_at hl 1 rfl) ?_
              exact zretw_z (q' := true) hx hb hr hlocks dX0_readCommand_87 hP hS (congrArg (fun z9 => z9.1) hq) (congrArg (fun z9 => zB_X0 (g 0) x z9.2) hq)
            · have c_10 : ¬ (60 ≤ (X1 2 0)) := c_10
              have hq := hq.trans (if_neg c_10)
              refine lv_aload_n hx hb dX0_readCommand_43 rfl (lv_at hl 0 rfl) ?_
              refine va_get (D := D) (ci := 0) (v := .ref (x 1)) (C := RX0) (T := TX0) (N := 7) hx hb hts hinX0 hown hK.1 hP 0 rfl rfl 0 (by decide) (hts (.fieldLink RX0 9 "SaltShares$CommandText" "codes" "[I") (List.mem_of_getElem? (i := 3) rfl)) (fun _ h9 => h9) rfl dX0_readCommand_44 ?_
              refine lv_aload_n hx hb dX0_readCommand_47 rfl (lv_at hl 0 rfl) ?_
              refine va_get (D := D) (ci := 0) (v := .int (X1 2 0)) (C := RX0) (T := TX0) (N := 7) hx hb hts hinX0 hown hK.1 hP 0 rfl rfl 2 (by decide) (hts (.fieldLink RX0 37 "SaltShares$CommandText" "at" "I") (List.mem_of_getElem? (i := 1) rfl)) (fun _ h9 => h9) rfl dX0_readCommand_48 ?_
              refine va_iald hx hb hK.1 hP 1 0 rfl rfl (ztk60 v19_0 (by with_reducible assumption)) dX0_readCommand_51 ?_
              refine lv_istore_n (lv' := [(3, .int (X1 0 (Int32.toNatClampNeg (X1 2 0)))), (0, .ref (x 0)), (1, .int 1), (2, .int (bI within1))]) hx hb dX0_readCommand_52 rfl hl (by decide) rfl (fun ls hl => ?_)
              refine lv_aload_n hx hb dX0_readCommand_53 rfl (lv_at hl 1 rfl) ?_
              refine lv_iload_n hx hb dX0_readCommand_54 rfl (lv_at hl 0 rfl) ?_
              refine zcVw (ci := 0) (n := 1) (c_X0_take l D g x X1 (X1 0 (Int32.toNatClampNeg (X1 2 0)))) hx hb hml hown hts gX0_readCommand_X0_take rfl ⟨rfl, by decide, by decide, by decide⟩ ⟨Nat.le_of_ble_eq_true rfl, Nat.le_of_ble_eq_true rfl⟩ ⟨rfl, rfl⟩ hK hP hD rfl rfl rfl hS hl.1 rfl rfl (Nat.le_of_ble_eq_true rfl) ⟨Nat.zero_le _, Nat.zero_le _⟩ dX0_readCommand_55 (fun H1 locs hP1 hk1 hS => ?_)
              have hD := zD_addr (ws' := zB_X0 (g 0) x ((v_X0_take X1 (X1 0 (Int32.toNatClampNeg (X1 2 0)))).2)) hD rfl; have hP := hP1
              clear hP1 hk1
              have hP : va_P D vwCl (zB_X0 (g 0) x ((v_X0_take X1 (X1 0 (Int32.toNatClampNeg (X1 2 0)))).2)) H1 := hP
              have hD : va_D (zA (zB_X0 (g 0) x X)) (zB_X0 (g 0) x ((v_X0_take X1 (X1 0 (Int32.toNatClampNeg (X1 2 0)))).2)) := hD
              refine zif_eq (tgt := 71) hx hb dX0_readCommand_58 (by decide) (fun c_12 => ?_) (fun c_12 => ?_)
              · have hq := hq.trans (zif_f c_12)
                refine lv_iconst (v := 0) hx hb dX0_readCommand_71 (by decide) ?_
                refine lv_is (show (0 : Int32) = bI false from rfl) ?_
                refine lv_istore_n (lv' := [(2, .int (bI false)), (3, .int (X1 0 (Int32.toNatClampNeg (X1 2 0)))), (0, .ref (x 0)), (1, .int 1)]) hx hb dX0_readCommand_72 rfl hl (by decide) rfl (fun ls hl => ?_)
                refine lv_aload_n hx hb dX0_readCommand_73 rfl (lv_at hl 2 rfl) ?_
                refine lv_dup hx hb dX0_readCommand_74 rfl ?_
                refine va_get (D := D) (ci := 0) (v := .int (((v_X0_take X1 (X1 0 (Int32.toNatClampNeg (X1 2 0)))).2) 2 0)) (C := RX0) (T := TX0) (N := 7) hx hb hts hinX0 hown hK.1 hP 0 rfl rfl 2 (by decide) (hts (.fieldLink RX0 37 "SaltShares$CommandText" "at" "I") (List.mem_of_getElem? (i := 1) rfl)) (fun _ h9 => h9) rfl dX0_readCommand_75 ?_
                refine lv_iconst (v := 1) hx hb dX0_readCommand_78 (by decide) ?_
                refine lv_iadd hx hb dX0_readCommand_79 ?_
                refine va_put (D := D) (ci := 0) (v := .int ((((v_X0_take X1 (X1 0 (Int32.toNatClampNeg (X1 2 0)))).2) 2 0) + 1)) (ty := .int) (C := RX0) (T := TX0) (N := 7) hx hb hts hinX0 tyX0 tyX0_ok nmX0 hown hK.1 hP hD hS 0 rfl rfl 2 (by decide) (hts (.fieldLink RX0 37 "SaltShares$CommandText" "at" "I") (List.mem_of_getElem? (i := 1) rfl)) (fun _ h9 => h9) rfl (by decide +kernel) rfl rfl (Nat.le_of_ble_eq_true rfl) dX0_readCommand_80 (fun H locs hP hD hS => ?_)
                have hP : va_P D vwCl (zB_X0 (g 0) x (zU ((v_X0_take X1 (X1 0 (Int32.toNatClampNeg (X1 2 0)))).2) 2 (fun _ => ((((v_X0_take X1 (X1 0 (Int32.toNatClampNeg (X1 2 0)))).2) 2 0) + 1)))) H := hP
                have hD : va_D (zA (zB_X0 (g 0) x X)) (zB_X0 (g 0) x (zU ((v_X0_take X1 (X1 0 (Int32.toNatClampNeg (X1 2 0)))).2) 2 (fun _ => ((((v_X0_take X1 (X1 0 (Int32.toNatClampNeg (X1 2 0)))).2) 2 0) + 1)))) := hD
                refine lv_goto (tgt := 19) hx hb dX0_readCommand_83 (by decide) ?_
                exact ih19 false (zU ((v_X0_take X1 (X1 0 (Int32.toNatClampNeg (X1 2 0)))).2) 2 (fun _ => ((((v_X0_take X1 (X1 0 (Int32.toNatClampNeg (X1 2 0)))).2) 2 0) + 1))) (ztk_in v19_0 (by with_reducible assumption)) (ztk_ms v19_0 (by with_reducible assumption) hn19) _ _ hP hD hS ls (lv_sub hl [2, 3, 0] rfl) hq
              · have hq := hq.trans (zif_t c_12)
                refine lv_iload_n hx hb dX0_readCommand_61 rfl (lv_at hl 0 rfl) ?_
                refine lv_bipush (v := 59) hx hb dX0_readCommand_62 (by decide) ?_
                refine lv_icmp_eq (tgt := 71) hx hb dX0_readCommand_64 (by decide) (fun c_13 => ?_) (fun c_13 => ?_)
                · have c_13 : (X1 0 (Int32.toNatClampNeg (X1 2 0))) = 59 := c_13
                  have hq := hq.trans (if_pos c_13)
                  refine lv_iconst (v := 0) hx hb dX0_readCommand_71 (by decide) ?_
                  refine lv_is (show (0 : Int32) = bI false from rfl) ?_
                  refine lv_istore_n (lv' := [(2, .int (bI false)), (3, .int (X1 0 (Int32.toNatClampNeg (X1 2 0)))), (0, .ref (x 0)), (1, .int 1)]) hx hb dX0_readCommand_72 rfl hl (by decide) rfl (fun ls hl => ?_)
                  refine lv_aload_n hx hb dX0_readCommand_73 rfl (lv_at hl 2 rfl) ?_
                  refine lv_dup hx hb dX0_readCommand_74 rfl ?_
                  refine va_get (D := D) (ci := 0) (v := .int (((v_X0_take X1 (X1 0 (Int32.toNatClampNeg (X1 2 0)))).2) 2 0)) (C := RX0) (T := TX0) (N := 7) hx hb hts hinX0 hown hK.1 hP 0 rfl rfl 2 (by decide) (hts (.fieldLink RX0 37 "SaltShares$CommandText" "at" "I") (List.mem_of_getElem? (i := 1) rfl)) (fun _ h9 => h9) rfl dX0_readCommand_75 ?_
                  refine lv_iconst (v := 1) hx hb dX0_readCommand_78 (by decide) ?_
                  refine lv_iadd hx hb dX0_readCommand_79 ?_
                  refine va_put (D := D) (ci := 0) (v := .int ((((v_X0_take X1 (X1 0 (Int32.toNatClampNeg (X1 2 0)))).2) 2 0) + 1)) (ty := .int) (C := RX0) (T := TX0) (N := 7) hx hb hts hinX0 tyX0 tyX0_ok nmX0 hown hK.1 hP hD hS 0 rfl rfl 2 (by decide) (hts (.fieldLink RX0 37 "SaltShares$CommandText" "at" "I") (List.mem_of_getElem? (i := 1) rfl)) (fun _ h9 => h9) rfl (by decide +kernel) rfl rfl (Nat.le_of_ble_eq_true rfl) dX0_readCommand_80 (fun H locs hP hD hS => ?_)
                  have hP : va_P D vwCl (zB_X0 (g 0) x (zU ((v_X0_take X1 (X1 0 (Int32.toNatClampNeg (X1 2 0)))).2) 2 (fun _ => ((((v_X0_take X1 (X1 0 (Int32.toNatClampNeg (X1 2 0)))).2) 2 0) + 1)))) H := hP
                  have hD : va_D (zA (zB_X0 (g 0) x X)) (zB_X0 (g 0) x (zU ((v_X0_take X1 (X1 0 (Int32.toNatClampNeg (X1 2 0)))).2) 2 (fun _ => ((((v_X0_take X1 (X1 0 (Int32.toNatClampNeg (X1 2 0)))).2) 2 0) + 1)))) := hD
                  refine lv_goto (tgt := 19) hx hb dX0_readCommand_83 (by decide) ?_
                  exact ih19 false (zU ((v_X0_take X1 (X1 0 (Int32.toNatClampNeg (X1 2 0)))).2) 2 (fun _ => ((((v_X0_take X1 (X1 0 (Int32.toNatClampNeg (X1 2 0)))).2) 2 0) + 1))) (ztk_in v19_0 (by with_reducible assumption)) (ztk_ms v19_0 (by with_reducible assumption) hn19) _ _ hP hD hS ls (lv_sub hl [2, 3, 0] rfl) hq
                · have c_13 : ¬ ((X1 0 (Int32.toNatClampNeg (X1 2 0))) = 59) := c_13
                  have hq := hq.trans (if_neg c_13)
                  refine lv_iconst (v := 1) hx hb dX0_readCommand_67 (by decide) ?_
                  refine lv_goto (tgt := 72) hx hb dX0_readCommand_68 (by decide) ?_
                  refine lv_is (show (1 : Int32) = bI true from rfl) ?_
                  refine lv_istore_n (lv' := [(2, .int (bI true)), (3, .int (X1 0 (Int32.toNatClampNeg (X1 2 0)))), (0, .ref (x 0)), (1, .int 1)]) hx hb dX0_readCommand_72 rfl hl (by decide) rfl (fun ls hl => ?_)
                  refine lv_aload_n hx hb dX0_readCommand_73 rfl (lv_at hl 2 rfl) ?_
                  refine lv_dup hx hb dX0_readCommand_74 rfl ?_
                  refine va_get (D := D) (ci := 0) (v := .int (((v_X0_take X1 (X1 0 (Int32.toNatClampNeg (X1 2 0)))).2) 2 0)) (C := RX0) (T := TX0) (N := 7) hx hb hts hinX0 hown hK.1 hP 0 rfl rfl 2 (by decide) (hts (.fieldLink RX0 37 "SaltShares$CommandText" "at" "I") (List.mem_of_getElem? (i := 1) rfl)) (fun _ h9 => h9) rfl dX0_readCommand_75 ?_
                  refine lv_iconst (v := 1) hx hb dX0_readCommand_78 (by decide) ?_
                  refine lv_iadd hx hb dX0_readCommand_79 ?_
                  refine va_put (D := D) (ci := 0) (v := .int ((((v_X0_take X1 (X1 0 (Int32.toNatClampNeg (X1 2 0)))).2) 2 0) + 1)) (ty := .int) (C := RX0) (T := TX0) (N := 7) hx hb hts hinX0 tyX0 tyX0_ok nmX0 hown hK.1 hP hD hS 0 rfl rfl 2 (by decide) (hts (.fieldLink RX0 37 "SaltShares$CommandText" "at" "I") (List.mem_of_getElem? (i := 1) rfl)) (fun _ h9 => h9) rfl (by decide +kernel) rfl rfl (Nat.le_of_ble_eq_true rfl) dX0_readCommand_80 (fun H locs hP hD hS => ?_)
                  have hP : va_P D vwCl (zB_X0 (g 0) x (zU ((v_X0_take X1 (X1 0 (Int32.toNatClampNeg (X1 2 0)))).2) 2 (fun _ => ((((v_X0_take X1 (X1 0 (Int32.toNatClampNeg (X1 2 0)))).2) 2 0) + 1)))) H := hP
                  have hD : va_D (zA (zB_X0 (g 0) x X)) (zB_X0 (g 0) x (zU ((v_X0_take X1 (X1 0 (Int32.toNatClampNeg (X1 2 0)))).2) 2 (fun _ => ((((v_X0_take X1 (X1 0 (Int32.toNatClampNeg (X1 2 0)))).2) 2 0) + 1)))) := hD
                  refine lv_goto (tgt := 19) hx hb dX0_readCommand_83 (by decide) ?_
                  exact ih19 true (zU ((v_X0_take X1 (X1 0 (Int32.toNatClampNeg (X1 2 0)))).2) 2 (fun _ => ((((v_X0_take X1 (X1 0 (Int32.toNatClampNeg (X1 2 0)))).2) 2 0) + 1))) (ztk_in v19_0 (by with_reducible assumption)) (ztk_ms v19_0 (by with_reducible assumption) hn19) _ _ hP hD hS ls (lv_sub hl [2, 3, 0] rfl) hq
    exact L19 61 true X z0 (by omega) _ _ hP hD hS ls (lv_sub hl [2, 1, 0] rfl) hq
