/-- twice, k times -/
def zsc (d : UInt64) : Nat → UInt64
  | 0 => d
  | k + 1 => FP.dmul (zsc d k) 4611686018427387904
def zck (x : UInt64) : Prop := vf_n64 (FP.dmul x 4611686018427387904) ∧ vf_n64 (FP.dsub x 4607182418800017408) ∧ vf_n64 (FP.dmul (FP.dsub x 4607182418800017408) 4841369599423283200)
def zfin (d : UInt64) : Prop := (∀ k : Nat, k ≤ 8 → zck (zsc d k)) ∧ (¬ (0 < Op.cmpValue (FP.dcmp d 0) .g) ∨ 0 ≤ Op.cmpValue (FP.dcmp (zsc d 8) 4607182418800017408) .g)
theorem zle8 {d x : UInt64} {i : Nat} (h : i ≤ 8) (e : x = zsc d i) (c : ¬ (0 ≤ Op.cmpValue (FP.dcmp x 4607182418800017408) .g)) (h8 : 0 ≤ Op.cmpValue (FP.dcmp (zsc d 8) 4607182418800017408) .g) : i + 1 ≤ 8 := by
  rcases Nat.lt_or_eq_of_le h with q | q
  · exact q
  · subst q; exact absurd (by rw [e]; exact h8) c
def zckb (x : UInt64) : Bool := decide ((FP.dmul x 4611686018427387904) &&& 0x7fffffffffffffff ≤ 0x7ff0000000000000) && (decide ((FP.dsub x 4607182418800017408) &&& 0x7fffffffffffffff ≤ 0x7ff0000000000000) && decide ((FP.dmul (FP.dsub x 4607182418800017408) 4841369599423283200) &&& 0x7fffffffffffffff ≤ 0x7ff0000000000000))
theorem zckb_ok {x : UInt64} (h : zckb x = true) : zck x := by
  unfold zckb at h
  rw [Bool.and_eq_true, Bool.and_eq_true] at h
  have a1 := of_decide_eq_true h.1
  have a2 := of_decide_eq_true h.2.1
  have a3 := of_decide_eq_true h.2.2
  exact ⟨a1, a2, a3⟩
def zchk : Nat → UInt64 → Bool
  | 0, d => zckb d
  | k + 1, d => zckb d && zchk k (FP.dmul d 4611686018427387904)
theorem zsc_front (d : UInt64) : ∀ k, zsc (FP.dmul d 4611686018427387904) k = zsc d (k + 1)
  | 0 => rfl
  | k + 1 => by
    show FP.dmul (zsc (FP.dmul d 4611686018427387904) k) 4611686018427387904 = FP.dmul (zsc d (k + 1)) 4611686018427387904
    rw [zsc_front d k]
theorem zchk_ok : ∀ (k : Nat) (d : UInt64), zchk k d = true → ∀ j, j ≤ k → zck (zsc d j)
  | 0, d, h, j, hj => by
    have e : j = 0 := by omega
    subst e
    exact zckb_ok h
  | k + 1, d, h, j, hj => by
    unfold zchk at h
    rw [Bool.and_eq_true] at h
    cases j with
    | zero => exact zckb_ok h.1
    | succ j => rw [← zsc_front]; exact zchk_ok k _ h.2 j (by omega)
set_option maxRecDepth 100000 in
theorem zfin_all0 : (List.range 19).all (fun n => zchk 8 (zpart (n + 0)) && (decide (¬ (0 < Op.cmpValue (FP.dcmp (zpart (n + 0)) 0) .g)) || decide (0 ≤ Op.cmpValue (FP.dcmp (zsc (zpart (n + 0)) 8) 4607182418800017408) .g))) = true := by decide +kernel
set_option maxRecDepth 100000 in
theorem zfin_all1 : (List.range 19).all (fun n => zchk 8 (zpart (n + 19)) && (decide (¬ (0 < Op.cmpValue (FP.dcmp (zpart (n + 19)) 0) .g)) || decide (0 ≤ Op.cmpValue (FP.dcmp (zsc (zpart (n + 19)) 8) 4607182418800017408) .g))) = true := by decide +kernel
set_option maxRecDepth 100000 in
theorem zfin_all2 : (List.range 19).all (fun n => zchk 8 (zpart (n + 38)) && (decide (¬ (0 < Op.cmpValue (FP.dcmp (zpart (n + 38)) 0) .g)) || decide (0 ≤ Op.cmpValue (FP.dcmp (zsc (zpart (n + 38)) 8) 4607182418800017408) .g))) = true := by decide +kernel
set_option maxRecDepth 100000 in
theorem zfin_all3 : (List.range 19).all (fun n => zchk 8 (zpart (n + 57)) && (decide (¬ (0 < Op.cmpValue (FP.dcmp (zpart (n + 57)) 0) .g)) || decide (0 ≤ Op.cmpValue (FP.dcmp (zsc (zpart (n + 57)) 8) 4607182418800017408) .g))) = true := by decide +kernel
set_option maxRecDepth 100000 in
theorem zfin_all4 : (List.range 19).all (fun n => zchk 8 (zpart (n + 76)) && (decide (¬ (0 < Op.cmpValue (FP.dcmp (zpart (n + 76)) 0) .g)) || decide (0 ≤ Op.cmpValue (FP.dcmp (zsc (zpart (n + 76)) 8) 4607182418800017408) .g))) = true := by decide +kernel
set_option maxRecDepth 100000 in
theorem zfin_all5 : (List.range 19).all (fun n => zchk 8 (zpart (n + 95)) && (decide (¬ (0 < Op.cmpValue (FP.dcmp (zpart (n + 95)) 0) .g)) || decide (0 ≤ Op.cmpValue (FP.dcmp (zsc (zpart (n + 95)) 8) 4607182418800017408) .g))) = true := by decide +kernel
set_option maxRecDepth 100000 in
theorem zfin_all6 : (List.range 19).all (fun n => zchk 8 (zpart (n + 114)) && (decide (¬ (0 < Op.cmpValue (FP.dcmp (zpart (n + 114)) 0) .g)) || decide (0 ≤ Op.cmpValue (FP.dcmp (zsc (zpart (n + 114)) 8) 4607182418800017408) .g))) = true := by decide +kernel
set_option maxRecDepth 100000 in
theorem zfin_all7 : (List.range 19).all (fun n => zchk 8 (zpart (n + 133)) && (decide (¬ (0 < Op.cmpValue (FP.dcmp (zpart (n + 133)) 0) .g)) || decide (0 ≤ Op.cmpValue (FP.dcmp (zsc (zpart (n + 133)) 8) 4607182418800017408) .g))) = true := by decide +kernel
theorem zfin_of {n m : Nat} (h : (zchk 8 (zpart (n + m)) && (decide (¬ (0 < Op.cmpValue (FP.dcmp (zpart (n + m)) 0) .g)) || decide (0 ≤ Op.cmpValue (FP.dcmp (zsc (zpart (n + m)) 8) 4607182418800017408) .g))) = true) : zfin (zpart (n + m)) := by
  rw [Bool.and_eq_true, Bool.or_eq_true] at h
  exact ⟨fun k hk => zchk_ok 8 _ h.1 k hk, h.2.imp of_decide_eq_true of_decide_eq_true⟩
theorem zfin_n {n : Nat} (h : n ≤ 150) : zfin (zpart n) := by
  have hm : ∀ k, k < 19 → k ∈ List.range 19 := fun k hk => List.mem_range.mpr hk
  rcases (show n < 19 ∨ (19 ≤ n ∧ n < 38) ∨ (38 ≤ n ∧ n < 57) ∨ (57 ≤ n ∧ n < 76) ∨ (76 ≤ n ∧ n < 95) ∨ (95 ≤ n ∧ n < 114) ∨ (114 ≤ n ∧ n < 133) ∨ 133 ≤ n by omega) with q | q | q | q | q | q | q | q
  · have e : n = (n - 0) + 0 := by omega
    rw [e]; exact zfin_of (List.all_eq_true.mp zfin_all0 (n - 0) (hm _ (by omega)))
  · have e : n = (n - 19) + 19 := by omega
    rw [e]; exact zfin_of (List.all_eq_true.mp zfin_all1 (n - 19) (hm _ (by omega)))
  · have e : n = (n - 38) + 38 := by omega
    rw [e]; exact zfin_of (List.all_eq_true.mp zfin_all2 (n - 38) (hm _ (by omega)))
  · have e : n = (n - 57) + 57 := by omega
    rw [e]; exact zfin_of (List.all_eq_true.mp zfin_all3 (n - 57) (hm _ (by omega)))
  · have e : n = (n - 76) + 76 := by omega
    rw [e]; exact zfin_of (List.all_eq_true.mp zfin_all4 (n - 76) (hm _ (by omega)))
  · have e : n = (n - 95) + 95 := by omega
    rw [e]; exact zfin_of (List.all_eq_true.mp zfin_all5 (n - 95) (hm _ (by omega)))
  · have e : n = (n - 114) + 114 := by omega
    rw [e]; exact zfin_of (List.all_eq_true.mp zfin_all6 (n - 114) (hm _ (by omega)))
  · have e : n = (n - 133) + 133 := by omega
    rw [e]; exact zfin_of (List.all_eq_true.mp zfin_all7 (n - 133) (hm _ (by omega)))
theorem zfin_part (T : Nat → Nat → Int32) (b : Nat) : zfin (v_X4_partOf T b) := zfin_n (zeat_le T b)
def v_X4_bitsOf_18  : Nat → UInt64 → Int64 → Nat → Int64
  | 0, _, _, _ => (0)
  | n + 1, xd, exp1, i => (if 64 ≤ i then (exp1 <<< (Int32.toInt64 52 &&& 63)) + (FP.d2l (FP.dmul (FP.dsub xd 4607182418800017408) 4841369599423283200)) else (if 0 ≤ (Op.cmpValue (FP.dcmp xd 4607182418800017408) .g) then (exp1 <<< (Int32.toInt64 52 &&& 63)) + (FP.d2l (FP.dmul (FP.dsub xd 4607182418800017408) 4841369599423283200)) else v_X4_bitsOf_18 n (FP.dmul xd 4611686018427387904) (exp1 - 1) (i + 1)))
def v_X4_bitsOf (dd : UInt64) : Int64 := (if 0 < (Op.cmpValue (FP.dcmp dd 0) .g) then v_X4_bitsOf_18 9 dd 1023 0 else 0)
set_option maxHeartbeats 400000 in
set_option maxRecDepth 100000 in
theorem c_X4_bitsOf (l : Launch) (D : va_G) (g : Nat → ClassId) (dd : UInt64) (z0 : zfin dd) : Rd l D (zT g) yX4_bitsOf wsX4_bitsOf (rmOf 0 0) [.double dd] ([]) (.long (v_X4_bitsOf dd)) := by
  refine Rd.of (cc := cX4_bitsOf) (maxL := 8) (ret := (some .long)) (by decide) rfl (Nat.le_of_ble_eq_true rfl) ?_
  intro p e s m below meth c ls hx hb hr hml hown hts hlocks hP hK hl
  have hown : s.vm.findClass RX4 = some m.cls := hown
  obtain ⟨q, hq⟩ : ∃ q : Int64, q = v_X4_bitsOf dd := ⟨_, rfl⟩
  rw [← hq]
  unfold v_X4_bitsOf at hq
  have hl : lv_has ls 8 [(0, .double dd)] := hl
  refine lv_dload_n hx hb dX4_bitsOf_0 rfl (lv_at hl 0 rfl) ?_
  refine lv_dconst0 hx hb dX4_bitsOf_1 ?_
  refine lv_dcmp hx hb dX4_bitsOf_2 ?_
  refine lv_if_gt (tgt := 8) hx hb dX4_bitsOf_3 (by decide) (fun c_1 => ?_) (fun c_1 => ?_)
  · have c_1 : 0 < (Op.cmpValue (FP.dcmp dd 0) .g) := c_1
    have hq := hq.trans (if_pos c_1)
    have hz8 : 0 ≤ Op.cmpValue (FP.dcmp (zsc dd 8) 4607182418800017408) .g := z0.2.resolve_left (fun h9 => h9 (by with_reducible assumption))
    refine lv_dload_n hx hb dX4_bitsOf_8 rfl (lv_at hl 0 rfl) ?_
    refine lv_dstore_n (lv' := [(2, .double dd), (0, .double dd)]) hx hb dX4_bitsOf_9 rfl hl (by decide) rfl (fun ls hl => ?_)
    refine lv_ldc2 (v := 1023) hx hb hown (hts (.constantLong RX4 329 (1023)) (List.mem_of_getElem? (i := 1) rfl)) dX4_bitsOf_10 ?_
    refine lv_lstore (lv' := [(4, .long 1023), (2, .double dd), (0, .double dd)]) hx hb dX4_bitsOf_13 hl (by decide) rfl (fun ls hl => ?_)
    refine lv_iconst (v := 0) hx hb dX4_bitsOf_15 (by decide) ?_
    refine lv_istore (lv' := [(6, .int 0), (4, .long 1023), (2, .double dd), (0, .double dd)]) hx hb dX4_bitsOf_16 hl (by decide) rfl (fun ls hl => ?_)
    have L18 : ∀ (n : Nat) (xd : UInt64) (exp1 : Int64) (i : Nat), (i ≤ 8) → (xd = zsc dd i) → 8 - i < n → ∀ (ls : Array Slot), lv_has ls 8 [(0, .double dd), (2, .double xd), (4, .long exp1), (6, .int (nI i))] → q = v_X4_bitsOf_18 n xd exp1 i → W p l e (rmOf 0 0) s m [.double dd].toArray below meth c s.heap [] 0 0 (MQ below (zQ (.long q)) [.double dd].toArray s 0 0 (fun _ => False)) (F0 m 18 ls []) := by
      intro n
      induction n with
      | zero => intro xd exp1 i v18_0 v18_1 hn; exact absurd hn (Nat.not_lt_zero _)
      | succ n ih18 =>
        intro xd exp1 i v18_0 v18_1 hn18 ls hl hq
        rw [v_X4_bitsOf_18] at hq
        refine lv_iload hx hb dX4_bitsOf_18 (lv_at hl 3 rfl) ?_
        refine lv_bipush (v := 64) hx hb dX4_bitsOf_20 (by decide) ?_
        refine lv_icmp_ge (tgt := 49) hx hb dX4_bitsOf_22 (by decide) (fun c_2 => ?_) (fun c_2 => ?_)
        · have c_2 : 64 ≤ i := (nI_leI (a := 64) (b := i) (by omega) (by omega)).mp c_2
          have hq := hq.trans (if_pos c_2)
          refine lv_dload_n hx hb dX4_bitsOf_49 rfl (lv_at hl 1 rfl) ?_
          refine lv_dconst1 hx hb dX4_bitsOf_50 ?_
          refine lv_dsub hx hb dX4_bitsOf_51 (by rw [v18_1]; exact (z0.1 i v18_0).2.1) ?_
          refine lv_ldc2d (v := 4841369599423283200) hx hb hown (hts (.constantDouble RX4 333 (4841369599423283200)) (List.mem_of_getElem? (i := 3) rfl)) dX4_bitsOf_52 ?_
          refine lv_dmul hx hb dX4_bitsOf_55 (by rw [v18_1]; exact (z0.1 i v18_0).2.2) ?_
          refine lv_d2l hx hb dX4_bitsOf_56 ?_
          refine lv_lstore (lv' := [(6, .long (FP.d2l (FP.dmul (FP.dsub xd 4607182418800017408) 4841369599423283200))), (0, .double dd), (2, .double xd), (4, .long exp1)]) hx hb dX4_bitsOf_57 hl (by decide) rfl (fun ls hl => ?_)
          refine lv_lload hx hb dX4_bitsOf_59 (lv_at hl 3 rfl) ?_
          refine lv_bipush (v := 52) hx hb dX4_bitsOf_61 (by decide) ?_
          refine lv_lshl hx hb dX4_bitsOf_63 rfl ?_
          refine lv_lload hx hb dX4_bitsOf_64 (lv_at hl 0 rfl) ?_
          refine lv_ladd hx hb dX4_bitsOf_66 ?_
          exact zret_l hx hb hr hlocks dX4_bitsOf_67 hq
        · have c_2 : ¬ (64 ≤ i) := fun h9 => c_2 ((nI_leI (a := 64) (b := i) (by omega) (by omega)).mpr h9)
          have hq := hq.trans (if_neg c_2)
          refine lv_dload_n hx hb dX4_bitsOf_25 rfl (lv_at hl 1 rfl) ?_
          refine lv_dconst1 hx hb dX4_bitsOf_26 ?_
          refine lv_dcmp hx hb dX4_bitsOf_27 ?_
          refine lv_if_ge (tgt := 49) hx hb dX4_bitsOf_28 (by decide) (fun c_3 => ?_) (fun c_3 => ?_)
          · have c_3 : 0 ≤ (Op.cmpValue (FP.dcmp xd 4607182418800017408) .g) := c_3
            have hq := hq.trans (if_pos c_3)
            refine lv_dload_n hx hb dX4_bitsOf_49 rfl (lv_at hl 1 rfl) ?_
            refine lv_dconst1 hx hb dX4_bitsOf_50 ?_
            refine lv_dsub hx hb dX4_bitsOf_51 (by rw [v18_1]; exact (z0.1 i v18_0).2.1) ?_
            refine lv_ldc2d (v := 4841369599423283200) hx hb hown (hts (.constantDouble RX4 333 (4841369599423283200)) (List.mem_of_getElem? (i := 3) rfl)) dX4_bitsOf_52 ?_
            refine lv_dmul hx hb dX4_bitsOf_55 (by rw [v18_1]; exact (z0.1 i v18_0).2.2) ?_
            refine lv_d2l hx hb dX4_bitsOf_56 ?_
            refine lv_lstore (lv' := [(6, .long (FP.d2l (FP.dmul (FP.dsub xd 4607182418800017408) 4841369599423283200))), (0, .double dd), (2, .double xd), (4, .long exp1)]) hx hb dX4_bitsOf_57 hl (by decide) rfl (fun ls hl => ?_)
            refine lv_lload hx hb dX4_bitsOf_59 (lv_at hl 3 rfl) ?_
            refine lv_bipush (v := 52) hx hb dX4_bitsOf_61 (by decide) ?_
            refine lv_lshl hx hb dX4_bitsOf_63 rfl ?_
            refine lv_lload hx hb dX4_bitsOf_64 (lv_at hl 0 rfl) ?_
            refine lv_ladd hx hb dX4_bitsOf_66 ?_
            exact zret_l hx hb hr hlocks dX4_bitsOf_67 hq
          · have c_3 : ¬ (0 ≤ (Op.cmpValue (FP.dcmp xd 4607182418800017408) .g)) := c_3
            have hq := hq.trans (if_neg c_3)
            refine lv_dload_n hx hb dX4_bitsOf_31 rfl (lv_at hl 1 rfl) ?_
            refine lv_ldc2d (v := 4611686018427387904) hx hb hown (hts (.constantDouble RX4 331 (4611686018427387904)) (List.mem_of_getElem? (i := 2) rfl)) dX4_bitsOf_32 ?_
            refine lv_dmul hx hb dX4_bitsOf_35 (by rw [v18_1]; exact (z0.1 i v18_0).1) ?_
            refine lv_dstore_n (lv' := [(2, .double (FP.dmul xd 4611686018427387904)), (0, .double dd), (4, .long exp1), (6, .int (nI i))]) hx hb dX4_bitsOf_36 rfl hl (by decide) rfl (fun ls hl => ?_)
            refine lv_lload hx hb dX4_bitsOf_37 (lv_at hl 2 rfl) ?_
            refine lv_lconst (v := 1) hx hb dX4_bitsOf_39 (by decide) ?_
            refine lv_lsub hx hb dX4_bitsOf_40 ?_
            refine lv_lstore (lv' := [(4, .long (exp1 - 1)), (2, .double (FP.dmul xd 4611686018427387904)), (0, .double dd), (6, .int (nI i))]) hx hb dX4_bitsOf_41 hl (by decide) rfl (fun ls hl => ?_)
            refine lv_iinc (v := (nI (i + 1))) (lv' := [(6, .int (nI (i + 1))), (4, .long (exp1 - 1)), (2, .double (FP.dmul xd 4611686018427387904)), (0, .double dd)]) hx hb dX4_bitsOf_43 hl (k := 3) rfl (nI_add _ 1) (by decide) rfl (fun ls hl => ?_)
            refine lv_goto (tgt := 18) hx hb dX4_bitsOf_46 (by decide) ?_
            exact ih18 (FP.dmul xd 4611686018427387904) (exp1 - 1) (i + 1) (zle8 v18_0 v18_1 (by with_reducible assumption) hz8) (by rw [v18_1]; rfl) (by have e9 := zle8 v18_0 v18_1 (by with_reducible assumption) hz8; omega) ls (lv_sub hl [3, 2, 1, 0] rfl) hq
    exact L18 9 dd 1023 0 (by omega) rfl (by omega) ls (lv_sub hl [3, 2, 1, 0] rfl) hq
  · have c_1 : ¬ (0 < (Op.cmpValue (FP.dcmp dd 0) .g)) := c_1
    have hq := hq.trans (if_neg c_1)
    refine lv_lconst (v := 0) hx hb dX4_bitsOf_6 (by decide) ?_
    exact zret_l hx hb hr hlocks dX4_bitsOf_7 hq
