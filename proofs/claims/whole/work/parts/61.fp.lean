/-- the part of the town: its bits -/
def zpart (n : Nat) : UInt64 := FP.ddiv (FP.i2d (nI n)) 4639481672377565184
set_option maxRecDepth 100000 in
theorem zpart_all : (List.range 151).all (fun n => decide ((zpart n) &&& 0x7fffffffffffffff ≤ 0x7ff0000000000000)) = true := by decide +kernel
theorem zpart_ok {n : Nat} (h : n ≤ 150) : vf_n64 (FP.ddiv (FP.i2d (nI n)) 4639481672377565184) := by
  have := List.all_eq_true.mp zpart_all n (List.mem_range.mpr (by omega))
  exact (of_decide_eq_true this : (zpart n) &&& 0x7fffffffffffffff ≤ 0x7ff0000000000000)
def v_X4_partOf (T : Nat → Nat → Int32) (b : Nat) : UInt64 := FP.ddiv (FP.i2d (nI (v_X3_eaters T b))) 4639481672377565184
set_option maxHeartbeats 400000 in
set_option maxRecDepth 100000 in
theorem c_X4_partOf (l : Launch) (D : va_G) (g : Nat → ClassId) (f : Nat → Nat) (h : Nat → Nat) (u : Nat → Nat) (o : Nat → Nat) (x : Nat → Nat) (T : Nat → Nat → Int32) (b : Nat) (z0 : b < 8) : Rd l D (zT g) yX4_partOf wsX4_partOf (rmOf 4 92) [.ref (f 0), .int (nI b)] ((zB_X4 f h u o x) ++ (zB_X3 (g 0) h T)) (.double (v_X4_partOf T b)) := by
  refine Rd.of (cc := cX4_partOf) (maxL := 2) (ret := (some .double)) (by decide) rfl (Nat.le_of_ble_eq_true rfl) ?_
  intro p e s m below meth c ls hx hb hr hml hown hts hlocks hP hK hl
  have hown : s.vm.findClass RX4 = some m.cls := hown
  have hinX4 : ∀ w ∈ u_ws RX4 TX4 4, w ∈ wsX4_partOf := fun _ h9 => (List.mem_cons_of_mem _ (List.mem_append_left _ (List.mem_append_right _ h9)))
  obtain ⟨q, hq⟩ : ∃ q : UInt64, q = v_X4_partOf T b := ⟨_, rfl⟩
  rw [← hq]
  unfold v_X4_partOf at hq
  have hl : lv_has ls 2 [(0, .ref (f 0)), (1, .int (nI b))] := hl
  refine lv_aload_n hx hb dX4_partOf_0 rfl (lv_at hl 0 rfl) ?_
  refine va_get (D := D) (ci := 4) (v := .ref (h 0)) (C := RX4) (T := TX4) (N := 4) hx hb hts hinX4 hown hK.1 hP 0 rfl rfl 0 (by decide) (hts (.fieldLink RX4 10 "SaltShares" "town" "LSaltShares$Town;") (List.mem_of_getElem? (i := 1) rfl)) (fun _ h9 => h9) rfl dX4_partOf_1 ?_
  refine lv_iload_n hx hb dX4_partOf_4 rfl (lv_at hl 1 rfl) ?_
  refine zcV (ci := 3) (n := 1) (c_X3_eaters l D g h T b (by omega)) hx hb hml hown hts gX4_partOf_X3_eaters rfl ⟨rfl, by decide, by decide, by decide⟩ ⟨Nat.le_of_ble_eq_true rfl, Nat.le_of_ble_eq_true rfl⟩ ⟨rfl, rfl⟩ hK (hP.sub [1, 2, 3, 4, 5, 6, 7, 8, 9, 10, 11] rfl) rfl rfl rfl hl.1 rfl rfl (Nat.le_of_ble_eq_true rfl) ⟨Nat.zero_le _, Nat.zero_le _⟩ dX4_partOf_5 ?_
  refine lv_i2d hx hb dX4_partOf_8 ?_
  refine lv_ldc2d (v := 4639481672377565184) hx hb hown (hts (.constantDouble RX4 323 (4639481672377565184)) (List.mem_of_getElem? (i := 2) rfl)) dX4_partOf_9 ?_
  refine lv_ddiv hx hb dX4_partOf_12 (zpart_ok (zeat_le T b)) ?_
  exact zret_d hx hb hr hlocks dX4_partOf_13 hq
