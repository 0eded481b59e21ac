/-! WHAT MAY BE DONE, holds, the new bread -/
section EQ8
variable {T M N : Nat → Nat → Int32} {b p : Nat}
theorem zisb (R : zTw T (M 0)) (I : zI M) {x : Int32} : v_X3_hasBread T x = v_X5_isBread M x := by
  obtain ⟨j, hj, e⟩ := vp_in_of (zI_B I) (by decide)
  unfold v_X3_hasBread v_X5_isBread v_X5_within
  rw [eq_nb R, e]
  have s : (nI j - 1).toInt = (j : Int) - 1 := zsub1 j hj
  have n0 : (nI j).toInt = (j : Int) := nI_toInt (by omega)
  by_cases c : x < 0
  · rw [if_pos c, if_pos c]
  · rw [if_neg c, if_neg c]
    by_cases d : nI j ≤ x
    · rw [if_pos d, if_pos (by rw [Int32.lt_iff_toInt_lt, s]; rw [Int32.le_iff_toInt_le, n0] at d; omega)]
    · rw [if_neg d, if_neg (show ¬ (8 : Int32) ≤ x by rw [Int32.le_iff_toInt_le, show (8 : Int32).toInt = 8 from rfl]; rw [Int32.le_iff_toInt_le, n0] at d; omega), if_neg (by rw [Int32.lt_iff_toInt_lt, s]; rw [Int32.le_iff_toInt_le, n0] at d; omega)]
theorem zisb_in (I : zI M) {x : Int32} (h : v_X5_isBread M x = true) : x = nI x.toNatClampNeg ∧ x.toNatClampNeg < 8 ∧ x.toNatClampNeg < (M 0 1).toNatClampNeg :=
  ⟨(znat (zmb h (zI_B I))).1, (znat (zmb h (zI_B I))).2, zmb2 h (zI_B I)⟩
theorem eq_isOpenB (R : zTw T (M 0)) (I : zI M) {x : Int32} : v_X3_isOpenBread T x = if v_X5_isBread M x = true then v_X5_isOpen M x.toNatClampNeg else false := by
  unfold v_X3_isOpenBread
  rw [zisb R I]
  by_cases c : v_X5_isBread M x = true
  · obtain ⟨e, h8, hn⟩ := zisb_in I c
    rw [if_pos c, if_pos c, eq_open R h8]
    have e2 : ((T 3 0 >>> (x &&& 31)) &&& 1) = bI (bt (T 3 0) x.toNatClampNeg) := by
      have := zsh1 (x := T 3 0) (b := x.toNatClampNeg) (by omega)
      rw [← e] at this; exact this
    rw [e2]
    cases bt (T 3 0) x.toNatClampNeg <;> rfl
  · rw [if_neg c, if_neg c]
theorem eq_isOpenB1 (R : zTw T (M 0)) (I : zI M) {x : Int32} (c : v_X5_isBread M x = true) : v_X3_isOpenBread T x = v_X5_isOpen M x.toNatClampNeg := by
  rw [eq_isOpenB R I, if_pos c]
theorem eq_canRaise (R : zTw T (M 0)) (I : zI M) {x : Int32} (c : v_X5_isBread M x = true) (to : Int32) : v_X3_canRaise T x to = v_X5_canRaise M x.toNatClampNeg to := by
  obtain ⟨e, h8, hn⟩ := zisb_in I c
  unfold v_X3_canRaise v_X5_canRaise v_X5_hasRoom
  rw [eq_isOpenB1 R I c, (R.br h8).2.2.1, eq_grp R I h8, (R.br h8).1]
  by_cases o : v_X5_isOpen M x.toNatClampNeg = true
  · rw [if_pos o, if_pos o]
    by_cases d : v_X5_of M x.toNatClampNeg 3 ≤ to
    · rw [if_pos d, if_neg (show ¬ to < v_X5_of M x.toNatClampNeg 3 from fun z => by rw [Int32.lt_iff_toInt_lt] at z; rw [Int32.le_iff_toInt_le] at d; omega)]
      by_cases g : v_X5_isOfGroup M x.toNatClampNeg = true
      · rw [if_pos g, if_pos g, eq_free R (znat (zmg g h8 (zI_G I))).2]
        by_cases f : v_X5_freeOf M (Int32.toNatClampNeg (v_X5_of M x.toNatClampNeg 1)) < to - v_X5_of M x.toNatClampNeg 3
        · rw [if_pos f]; rfl
        · rw [if_neg f]; rfl
      · rw [if_neg g, if_neg g]; rfl
    · rw [if_neg d, if_pos (by rw [Int32.lt_iff_toInt_lt]; rw [Int32.le_iff_toInt_le] at d; omega)]
  · rw [if_neg o, if_neg o]
theorem eq_canLower (R : zTw T (M 0)) (I : zI M) {x : Int32} (c : v_X5_isBread M x = true) (to : Int32) : v_X3_canLower T x to = v_X5_canLower M x.toNatClampNeg to := by
  obtain ⟨e, h8, hn⟩ := zisb_in I c
  unfold v_X3_canLower v_X5_canLower
  rw [eq_isOpenB1 R I c, (R.br h8).2.2.1]
theorem zbit0 {x : Int32} {b : Nat} (hb : b < 32) (q : Bool) : ((x &&& (zp2 b ^^^ (-1))) ||| ((bI q) <<< ((nI b) &&& 31))) = if q = true then (x &&& (zp2 b ^^^ (-1))) ||| zp2 b else x &&& (zp2 b ^^^ (-1)) := by
  cases q
  · rw [show bI false = (0 : Int32) from rfl, zshl0 hb, zor0]; rfl
  · rfl
theorem eq_holds (R : zTw T (M 0)) (hp : p < 150) (hb : b < 8) (q : Bool) : zTw (v_X3_setHold T p b q) (v_X5_holds M p b (bI q) (bI (!q)) 0) := by
  have d := R.2.2.2.1 p hp
  unfold v_X5_holds
  rw [zU_s, zupd_n _ _ (show 503 + p ≠ 353 + p by omega)]
  have e1 := zbit0 (x := M 0 (353 + p)) (b := b) (by omega) q
  have e2 := zbit0 (x := M 0 (503 + p)) (b := b) (by omega) (!q)
  rw [e1, e2, ← d.1.1, ← d.1.2.1]
  unfold v_X3_setHold v_X3_dropHold
  cases q
  · exact zTw_hold R hp (zm8_clr hb d.2.1) (zm8_set hb (zm8_clr hb d.2.2.1)) (fun f h h' => by simp only [zU, upd, if_neg h, if_neg h', if_neg (show ¬ false = true by decide)]) (fun k hk => by simp only [zU, upd, if_neg (show ¬ false = true by decide), if_neg (show ¬ 11 = 12 by decide), if_true]) (fun k hk => by simp only [zU, upd, if_neg (show ¬ false = true by decide), if_neg (show ¬ 12 = 11 by decide), if_true]; by_cases c : k = p <;> simp [c])
  · exact zTw_hold R hp (zm8_set hb (zm8_clr hb d.2.1)) (zm8_clr hb d.2.2.1) (fun f h h' => by simp only [zU, upd, if_neg h, if_neg h', if_true]) (fun k hk => by simp only [zU, upd, if_neg (show ¬ 11 = 12 by decide), if_true]; by_cases c : k = p <;> simp [c]) (fun k hk => by simp only [zU, upd, if_neg (show ¬ 12 = 11 by decide), if_true]; by_cases c : k = p <;> simp [c])
theorem eq_drops (R : zTw T (M 0)) (hp : p < 150) (hb : b < 8) : zTw (v_X3_dropHold T p b) (v_X5_holds M p b 0 0 0) := by
  have d := R.2.2.2.1 p hp
  unfold v_X5_holds
  rw [zU_s, zupd_n _ _ (show 503 + p ≠ 353 + p by omega)]
  have e1 := zbit0 (x := M 0 (353 + p)) (b := b) (by omega) false
  have e2 := zbit0 (x := M 0 (503 + p)) (b := b) (by omega) false
  rw [show bI false = (0 : Int32) from rfl] at e1 e2
  rw [e1, e2, ← d.1.1, ← d.1.2.1]
  unfold v_X3_dropHold
  exact zTw_hold R hp (zm8_clr hb d.2.1) (zm8_clr hb d.2.2.1) (fun f h h' => by simp only [zU, upd, if_neg h, if_neg h']) (fun k hk => by simp only [zU, upd, if_neg (show ¬ 11 = 12 by decide), if_true]; rfl) (fun k hk => by simp only [zU, upd, if_neg (show ¬ 12 = 11 by decide), if_true]; rfl)
/-- a new bread -/
theorem zTw_open (R : zTw T (M 0)) (I : zI M) (c : ¬ M 0 1 = 8) (gr sal : Int32) (q : Bool) (r' : Nat → Int32) {n : Nat} (hn : n = (M 0 1).toNatClampNeg) (h0 : r' (5 + 6 * n + 0) = 1) (h1 : r' (5 + 6 * n + 1) = gr) (h2 : r' (5 + 6 * n + 2) = sal) (h3 : r' (5 + 6 * n + 3) = 0) (h4 : r' (5 + 6 * n + 4) = bI q) (h5 : r' (5 + 6 * n + 5) = 0) (hb : r' 1 = M 0 1 + 1)
    (ho : ∀ j, j ≠ 1 → (j < 5 + 6 * n ∨ 5 + 6 * n + 6 ≤ j) → r' j = M 0 j) : (v_X3_addBread T gr sal q).1 = nI n ∧ zTw (v_X3_addBread T gr sal q).2 r' := by
  obtain ⟨j, hj, e⟩ := vp_in_of (zI_B I) (by decide)
  have hj8 : j < 8 := by
    rcases Nat.lt_or_ge j 8 with q | q
    · exact q
    · have : j = 8 := by omega
      subst this; exact absurd e c
  have hnj : n = j := by rw [hn, e, nI_nat (by omega)]
  subst hnj
  have en : T 0 0 = nI n := by rw [eq_nb R, e]
  have hlt : T 0 0 < 8 := by rw [en]; exact nI_lt hj8 (by decide)
  obtain ⟨⟨a1, a2, a3⟩, B, C, D, E, F, G⟩ := R
  have key : ∀ S : Nat → Nat → Int32, (∀ f, (f = 1 ∨ f = 2 ∨ 9 ≤ f) → S f = T f) → S 0 0 = T 0 0 + 1 → S 3 0 = T 3 0 ||| zp2 n → (S 4 0 = if q = true then T 4 0 ||| zp2 n else T 4 0 &&& (zp2 n ^^^ (-1))) → S 5 = upd (T 5) n gr → S 6 = upd (T 6) n sal → S 7 = upd (T 7) n 0 → S 8 = upd (T 8) n 0 → zTw S r' := by
    intro S s1 s0 s3 s4 s5 s6 s7 s8
    refine ⟨⟨?_, ?_, ?_⟩, fun g hg => ?_, fun k hk => ?_, fun p hp => ?_, fun b' hb' => ?_, ?_, fun b' hb' h => ?_⟩
    · rw [s0, hb, a1]
    · rw [s1 1 (by decide), ho 0 (by decide) (by omega)]; exact a2
    · rw [s1 2 (by decide), a3]; exact zsu_cong 150 0 (fun j _ hj => (ho _ (by omega) (by omega)).symm)
    · rw [s1 9 (by decide), ho _ (by omega) (by omega)]; exact B g hg
    · rw [s1 10 (by decide), ho _ (by omega) (by omega)]; exact C k hk
    · rw [s1 11 (by decide), s1 12 (by decide), s1 13 (by decide), s1 14 (by decide), ho _ (by omega) (by omega), ho _ (by omega) (by omega), ho _ (by omega) (by omega), ho _ (by omega) (by omega)]; exact D p hp
    · rw [s3, s4, s5, s6, s7, s8, bt_set (by omega) (by omega)]
      by_cases d : b' = n
      · subst d
        rw [zupd_s, zupd_s, zupd_s, zupd_s, h0, h1, h2, h3, h4, h5, decide_eq_true rfl, Bool.or_true]
        refine ⟨rfl, rfl, rfl, rfl, rfl, ?_⟩
        cases q
        · rw [if_neg (by decide), bt_clr (by omega) (by omega)]; simp
        · rw [if_pos rfl, bt_set (by omega) (by omega)]; simp
      · rw [zupd_n _ _ d, zupd_n _ _ d, zupd_n _ _ d, zupd_n _ _ d, ho (5 + 6 * b' + 1) (by omega) (by omega), ho (5 + 6 * b' + 2) (by omega) (by omega), ho (5 + 6 * b' + 3) (by omega) (by omega), ho (5 + 6 * b' + 5) (by omega) (by omega), ho (5 + 6 * b' + 0) (by omega) (by omega), ho (5 + 6 * b' + 4) (by omega) (by omega), decide_eq_false d, Bool.or_false]
        have e' := E b' hb'
        refine ⟨e'.1, e'.2.1, e'.2.2.1, e'.2.2.2.1, e'.2.2.2.2.1, ?_⟩
        rw [e'.2.2.2.2.2]
        cases q
        · rw [if_neg (by decide), bt_clr (by omega) (by omega), decide_eq_false d]; simp
        · rw [if_pos rfl, bt_set (by omega) (by omega), decide_eq_false d]; simp
    · rw [s3]; exact zm8_set hj8 F
    · rw [hb, e] at h
      have e9 : (nI n + 1).toNatClampNeg = n + 1 := by rw [← nI_succ, nI_nat (by omega)]
      rw [e9] at h
      rw [s3, bt_set (by omega) (by omega), decide_eq_false (show ¬ b' = n by omega), Bool.or_false]
      exact G b' hb' (by rw [e, nI_nat (by omega)]; omega)
  have ht : (T 0 0).toNatClampNeg = n := by rw [en, nI_nat (by omega)]
  unfold v_X3_addBread
  rw [if_pos hlt]
  cases q
  · rw [if_neg (show ¬ false = true by decide)]
    refine ⟨en, key _ ?_ ?_ ?_ ?_ ?_ ?_ ?_ ?_⟩
    · intro f hf
      simp only [zU]
      rw [if_neg (by omega), if_neg (by omega), if_neg (by omega), if_neg (by omega), if_neg (by omega), if_neg (by omega), if_neg (by omega)]
    · rfl
    · show T 3 0 ||| _ = _; rw [en]
    · rw [if_neg (by decide)]; show T 4 0 &&& _ = _; rw [en]
    · show upd (T 5) _ _ = _; rw [ht]
    · show upd (T 6) _ _ = _; rw [ht]
    · show upd (T 7) _ _ = _; rw [ht]
    · show upd (T 8) _ _ = _; rw [ht]
  · rw [if_pos rfl]
    refine ⟨en, key _ ?_ ?_ ?_ ?_ ?_ ?_ ?_ ?_⟩
    · intro f hf
      simp only [zU]
      rw [if_neg (by omega), if_neg (by omega), if_neg (by omega), if_neg (by omega), if_neg (by omega), if_neg (by omega), if_neg (by omega)]
    · rfl
    · show T 3 0 ||| _ = _; rw [en]
    · rw [if_pos rfl]; show T 4 0 ||| _ = _; rw [en]
    · show upd (T 5) _ _ = _; rw [ht]
    · show upd (T 6) _ _ = _; rw [ht]
    · show upd (T 7) _ _ = _; rw [ht]
    · show upd (T 8) _ _ = _; rw [ht]
end EQ8
