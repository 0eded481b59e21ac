/-! EACH METHOD: both answer the same, both refuse the same, and the worlds stay related -/
theorem zneg (x : Int32) (h : Nat) (hh : h < 2 ^ 31) : v_X5_within x 0 (nI h) = if x < 0 then false else if x ≤ nI h then true else false := by
  unfold v_X5_within
  by_cases c : x < 0
  · rw [if_pos c, if_pos c]
  · rw [if_neg c, if_neg c]
    by_cases d : x ≤ nI h
    · rw [if_pos d, if_neg (fun z => by rw [Int32.lt_iff_toInt_lt] at z; rw [Int32.le_iff_toInt_le] at d; omega)]
    · rw [if_neg d, if_pos (by rw [Int32.lt_iff_toInt_lt]; rw [Int32.le_iff_toInt_le] at d; omega)]
theorem zlt150 {x : Int32} : x < 150 ↔ x ≤ nI 149 := by
  have h1 : (150 : Int32).toInt = 150 := rfl
  have h2 : (nI 149).toInt = 149 := by decide
  rw [Int32.le_iff_toInt_le, Int32.lt_iff_toInt_lt, h1, h2]; omega
theorem zle3 {x : Int32} : 3 ≤ x ↔ ¬ x ≤ nI 2 := by
  have h1 : (3 : Int32).toInt = 3 := rfl
  have h2 : (nI 2).toInt = 2 := by decide
  rw [Int32.le_iff_toInt_le, Int32.le_iff_toInt_le, h1, h2]; omega
section EA
variable {Z T0 T1 T2 T3 T4 T5 T X M : Nat → Nat → Int32}
theorem zInv5 (V : zInv Z T0 T1 T2 T3 T4 T5 T X M) (f : Nat → Int32) : zInv Z T0 T1 T2 T3 T4 T5 T X (zU M 5 f) :=
  ⟨by rw [zU_n _ _ (by decide)]; exact V.tw, zI_U V.ro, zHi_ext (zU_n _ _ (by decide)) (zU_n _ _ (by decide)) V.hi, zTx_ext (zU_n _ _ (by decide)) (zU_n _ _ (by decide)) V.tx⟩
theorem zInv_row (V : zInv Z T0 T1 T2 T3 T4 T5 T X M) {N : Nat → Nat → Int32} (h0 : N 0 = M 0) (h1 : N 1 = M 1) (h2 : N 2 = M 2) (h3 : N 3 = M 3) (h4 : N 4 = M 4) : zInv Z T0 T1 T2 T3 T4 T5 T X N :=
  ⟨by rw [h0]; exact V.tw, zI_row h0 V.ro, zHi_ext h1 h2 V.hi, zTx_ext h3 h4 V.tx⟩
theorem zInv_tw (V : zInv Z T0 T1 T2 T3 T4 T5 T X M) {T' N : Nat → Nat → Int32} (ht : zTw T' (N 0)) (hI : zI N) (h : ∀ k, k ≠ 0 → N k = M k) : zInv Z T0 T1 T2 T3 T4 T5 T' X N :=
  ⟨ht, hI, zHi_ext (h 1 (by decide)) (h 2 (by decide)) V.hi, zTx_ext (h 3 (by decide)) (h 4 (by decide)) V.tx⟩
theorem enB (V : zInv Z T0 T1 T2 T3 T4 T5 T X M) (x : Int32) : e_X4_needBread T x = if v_X5_isBread M x = true then none else some zIO := by
  unfold e_X4_needBread; rw [zisb V.tw V.ro]
theorem enO (V : zInv Z T0 T1 T2 T3 T4 T5 T X M) {x : Int32} (c : v_X5_isBread M x = true) : e_X4_needOpen T (nI (Int32.toNatClampNeg x)) = if v_X5_isOpen M x.toNatClampNeg = true then none else some zIS := by
  unfold e_X4_needOpen; rw [← (zisb_in V.ro c).1, eq_isOpenB1 V.tw V.ro c]
theorem enP (x : Int32) : e_X4_needPerson x = if v_X5_isPerson x = true then none else some zIO := by
  unfold e_X4_needPerson v_X5_isPerson
  rw [show (149 : Int32) = nI 149 from rfl, zneg x 149 (by decide)]
  by_cases c : x < 0
  · rw [if_pos c, if_pos c]; rfl
  · rw [if_neg c, if_neg c]
    by_cases d : x < 150
    · rw [if_pos d, if_pos (zlt150.mp d)]; rfl
    · rw [if_neg d, if_neg (fun z => d (zlt150.mpr z))]; rfl
theorem enW {x : Int32} {a : String} (h : Nat) (hh : h < 2 ^ 31) : (if x < 0 then some a else (if x ≤ nI h then none else some a)) = if v_X5_within x 0 (nI h) = true then none else some a := by
  rw [zneg x h hh]
  by_cases c : x < 0
  · rw [if_pos c, if_pos c]; rfl
  · rw [if_neg c, if_neg c]
    by_cases d : x ≤ nI h
    · rw [if_pos d, if_pos d]; rfl
    · rw [if_neg d, if_neg d]; rfl
theorem enSa (x : Int32) : e_X4_needSalt x = if v_X5_isSalt x = true then none else some zIA := enW 9999 (by decide)
theorem enSh (x : Int32) : e_X4_needShare x = if v_X5_isShare x = true then none else some zIA := enW 100 (by decide)
theorem enGr (x : Int32) : v_X4_isGroup x = v_X5_isGroup x := by
  unfold v_X4_isGroup v_X5_isGroup
  rw [show (2 : Int32) = nI 2 from rfl, zneg x 2 (by decide)]
  by_cases c : x < 0
  · rw [if_pos c, if_pos c]
  · rw [if_neg c, if_neg c]
    by_cases d : 3 ≤ x
    · rw [if_pos d, if_neg (zle3.mp d)]
    · rw [if_neg d, if_pos (Classical.byContradiction fun z => d (zle3.mpr z))]
theorem enG (x : Int32) : e_X4_needGroup x = if v_X5_isGroup x = true then none else some zIO := by unfold e_X4_needGroup; rw [enGr]
theorem zse5 {f : Nat → Int32} (h : vp_in (M 1 0) 7) : v_X5_save (zU M 5 f) 5 = f := by rw [(zsv _ (zS_U h)).1 5 (by decide) (by decide), zU_s]
theorem zof_row {N : Nat → Nat → Int32} (h : N 0 = M 0) (b k : Nat) : v_X5_of N b k = v_X5_of M b k := by unfold v_X5_of; rw [h]
theorem zio_row {N : Nat → Nat → Int32} (h : N 0 = M 0) (b : Nat) : v_X5_isOpen N b = v_X5_isOpen M b := by unfold v_X5_isOpen; rw [zof_row h]
theorem zig_row {N : Nat → Nat → Int32} (h : N 0 = M 0) (b : Nat) : v_X5_isOfGroup N b = v_X5_isOfGroup M b := by unfold v_X5_isOfGroup; rw [zof_row h]
theorem zcanR (M : Nat → Nat → Int32) {N : Nat → Nat → Int32} (h : N 0 = M 0) (b : Nat) (to : Int32) : v_X5_canRaise N b to = v_X5_canRaise M b to := by
  unfold v_X5_canRaise v_X5_hasRoom
  rw [zio_row h, zof_row h, zof_row h, zig_row h, zfree, zfree, h]
theorem zcanL (M : Nat → Nat → Int32) {N : Nat → Nat → Int32} (h : N 0 = M 0) (b : Nat) (to : Int32) : v_X5_canLower N b to = v_X5_canLower M b to := by
  unfold v_X5_canLower
  rw [zio_row h, zof_row h]
theorem zcr_le {M : Nat → Nat → Int32} {b : Nat} {to : Int32} (h : v_X5_canRaise M b to = true) : v_X5_of M b 3 ≤ to := by
  unfold v_X5_canRaise at h
  by_cases o : v_X5_isOpen M b = true
  · rw [if_pos o] at h
    by_cases d : to < v_X5_of M b 3
    · rw [if_pos d] at h; cases h
    · rw [Int32.le_iff_toInt_le]; rw [Int32.lt_iff_toInt_lt] at d; omega
  · rw [if_neg o] at h; cases h
theorem zcl_le {M : Nat → Nat → Int32} {b : Nat} {to : Int32} (h : v_X5_canLower M b to = true) : to ≤ v_X5_of M b 3 := by
  unfold v_X5_canLower at h
  by_cases o : v_X5_isOpen M b = true
  · rw [if_pos o] at h
    by_cases d : v_X5_of M b 3 < to
    · rw [if_pos d] at h; cases h
    · rw [Int32.le_iff_toInt_le]; rw [Int32.lt_iff_toInt_lt] at d; omega
  · rw [if_neg o] at h; cases h
theorem znle {a b : Nat} (ha : a < 2 ^ 31) (hb : b < 2 ^ 31) (h : nI a ≤ nI b) : a ≤ b := by
  rw [Int32.le_iff_toInt_le, nI_toInt ha, nI_toInt hb] at h; omega
theorem em_raise (V : zInv Z T0 T1 T2 T3 T4 T5 T X M) (x t : Int32) :
    (e_X4_raise Z T0 T1 T2 T3 T4 T5 T x t = none ∧ (v_X5_raise M x t).2 5 0 = 0 ∧ (v_X4_raise Z T0 T1 T2 T3 T4 T5 T x t).1 = (v_X5_raise M x t).1 ∧ ∃ Z' U0 U1 U2 U3 U4 U5 T', (v_X4_raise Z T0 T1 T2 T3 T4 T5 T x t).2 = (Z', U0, U1, U2, U3, U4, U5, T') ∧ zInv Z' U0 U1 U2 U3 U4 U5 T' X (v_X5_raise M x t).2) ∨
    (e_X4_raise Z T0 T1 T2 T3 T4 T5 T x t = some zIO ∧ (v_X5_raise M x t).2 5 0 = 1 ∧ zInv Z T0 T1 T2 T3 T4 T5 T X (v_X5_raise M x t).2) ∨ (e_X4_raise Z T0 T1 T2 T3 T4 T5 T x t = some zIA ∧ (v_X5_raise M x t).2 5 0 = 2 ∧ zInv Z T0 T1 T2 T3 T4 T5 T X (v_X5_raise M x t).2) ∨ (e_X4_raise Z T0 T1 T2 T3 T4 T5 T x t = some zIS ∧ (v_X5_raise M x t).2 5 0 = 3 ∧ zInv Z T0 T1 T2 T3 T4 T5 T X (v_X5_raise M x t).2) := by
  unfold e_X4_raise v_X5_raise
  rw [enB V]
  by_cases c1 : v_X5_isBread M x = true
  · obtain ⟨ex, h8, hn⟩ := zisb_in V.ro c1
    rw [if_pos c1, if_pos rfl, if_pos c1, enSh]
    by_cases c2 : v_X5_isShare t = true
    · obtain ⟨et, ht⟩ := znat (zmsh c2)
      rw [if_pos c2, if_pos rfl, if_pos c2, ← ex, eq_canRaise V.tw V.ro c1, ← et]
      by_cases c3 : v_X5_canRaise M x.toNatClampNeg t = true
      · left
        rw [if_pos c3, if_pos c3]
        obtain ⟨Z', U0, U1, U2, U3, U4, U5, es, V1⟩ := eq_save V (fun _ => 0)
        have h0 : v_X5_save (zU M 5 (fun _ => 0)) 0 = M 0 := zs5_row V.hi.1
        have c3' : v_X5_canRaise (v_X5_save (zU M 5 (fun _ => 0))) x.toNatClampNeg (nI t.toNatClampNeg) = true := by rw [zcanR M h0, ← et]; exact c3
        have S := zss5 (f := fun _ => 0) V.hi.1 V.ro h8 hn (by omega : t.toNatClampNeg ≤ 100) (Or.inl (by rw [← et]; exact c3))
        have le : zSh (v_X5_save (zU M 5 (fun _ => 0))) x.toNatClampNeg ≤ t.toNatClampNeg := by
          have := zcr_le c3'
          have q := znat (show vp_in (v_X5_of (v_X5_save (zU M 5 (fun _ => 0))) x.toNatClampNeg 3) 101 from (V1.ro.2.1 _ h8).2.1)
          have q2 : zSh (v_X5_save (zU M 5 (fun _ => 0))) x.toNatClampNeg < 101 := q.2
          rw [q.1] at this
          exact znle (by omega) (by omega) this
        have hr := eq_raise V1.tw V1.ro h8 (by rw [h0]; exact hn) (by omega) le (zroom5 V.hi.1 V.ro h8 (by omega) (Or.inl (by rw [← et]; exact c3)))
        rw [← et] at hr
        refine ⟨rfl, ?_, ?_, Z', U0, U1, U2, U3, U4, U5, v_X3_raiseTo T x.toNatClampNeg t, ?_, zInv_tw V1 hr S.2.2.2.2 S.1⟩
        · dsimp only; rw [S.1 5 (by decide), zse5 V.hi.1]
        · unfold v_X4_raise
          rw [eq_eaters hr S.2.2.2.2 h8, eq_eaters V1.tw V1.ro h8]
        · unfold v_X4_raise; rw [es]
      · right; right; right
        rw [if_neg c3, if_neg c3]; exact ⟨rfl, rfl, zInv5 V _⟩
    · right; right; left
      rw [if_neg c2, if_neg (by simp), if_neg c2]; exact ⟨rfl, rfl, zInv5 V _⟩
  · right; left
    rw [if_neg c1, if_neg (by simp), if_neg c1]; exact ⟨rfl, rfl, zInv5 V _⟩
end EA
