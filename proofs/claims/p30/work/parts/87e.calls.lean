/-! holds: what the class answers -/
section PG
variable {Z T0 T1 T2 T3 T4 T5 T M I I1 O J : Nat → Nat → Int32} {Q Q1 : Nat → Nat → Int64} {b p sh : Nat} {xx yy mx x : Int32} {hd bf q q1 q2 : Bool}
theorem zpo_gr3 (P : zPI Z T M I Q) (hb : b < zNb I) {f : Nat → Int32} : zgr ((zU I 0 f) 1 (6 * b + 1)) := by rw [zU_n _ _ (by decide)]; exact zpo_gr P hb
theorem zpo_hold (P : zPI Z T M I Q) (hb : b < zNb I) (hp : p < 150) (c : ¬ I 1 (6 * b) = 0) (q : Bool) : e_X4_hold Z T0 T1 T2 T3 T4 T5 T (nI p) (nI b) q = none := by
  unfold e_X4_hold
  rw [if_pos (zneedP hp), if_pos (zneedB P hb), if_pos (zneedO P hb c)]
theorem zheat (P : zPI Z T M I Q) (hb : b < zNb I) (hp : p < 150) (q1 q2 : Bool) : v_X5_isOpen (v_X5_holds M p b (bI q1) (bI q2)) b = v_X5_isOpen M b ∧ v_X5_isHeld (v_X5_holds M p b (bI q1) (bI q2)) 353 p b = q1 ∧ v_X5_isHeld (v_X5_holds M p b (bI q1) (bI q2)) 503 p b = q2 := by
  have b5 := zPb P hb
  obtain ⟨r0, r1, r2⟩ := zhr M hp (show b < 8 by omega) q1 q2
  refine ⟨?_, ?_, ?_⟩
  · unfold v_X5_isOpen v_X5_of; rw [r0 _ (by omega) (by omega)]
  · rw [eq_held (by omega) rfl, r1 b (by omega), if_pos rfl]
  · rw [eq_held (by omega) rfl, r2 b (by omega), if_pos rfl]
theorem zholdR (P : zPI Z T M I Q) (hb : b < zNb I) (hp : p < 150) (q : Bool) : zTw (v_X3_setHold T p b q) (v_X5_holds M p b (bI q) (bI (!q)) 0) := eq_holds P.1 hp (by have := zPb P hb; omega) q
theorem zdropR (P : zPI Z T M I Q) (hb : b < zNb I) (hp : p < 150) : zTw (v_X3_dropHold T p b) (v_X5_holds M p b (bI false) (bI false) 0) := eq_drops P.1 hp (by have := zPb P hb; omega)
theorem zholdI (P : zPI Z T M I Q) (hb : b < zNb I) (q1 q2 : Bool) : zI (v_X5_holds M p b (bI q1) (bI q2)) := zI_holds (by have := zPb P hb; omega) P.2.1
theorem zhold_q (P : zPI Z T M I Q) (hb : b < zNb I) (hp : p < 150) (c : ¬ I 1 (6 * b) = 0) (q : Bool) : v_X3_isEating (v_X3_setHold T p b q) p b = q := by
  have b5 := zPb P hb
  rw [eq_isE (zholdR P hb hp q) (zholdI P hb q (!q)) hp (by omega)]
  obtain ⟨e0, e1, e2⟩ := zheat P hb hp q (!q)
  unfold zEt v_X5_eatsNow
  rw [e0, e1, e2, if_pos ((zop_iff P hb).mp c)]
  cases q
  · rfl
  · rfl
theorem zpos_eat (P : zPI Z T M I Q) (hb : b < zNb I) (hp : p < 150) : zpos (v_L_eats I Q p b) = v_X3_isEating T p b := by
  have b5 := zPb P hb
  rw [eq_isE P.1 P.2.1 hp (by omega), lq_eats P.1 P.2.1 P.2.2.1 hb hp]
  unfold zpos zEt
  by_cases c : v_X5_eatsNow M p b = 0
  · rw [decide_eq_true c, decide_eq_true ((ez_le M p b).mpr c)]
  · rw [decide_eq_false c, decide_eq_false (fun z => c ((ez_le M p b).mp z))]
theorem zhold_v (P : zPI Z T M I Q) (hb : b < zNb I) (hp : p < 150) (q : Bool) : (v_X4_hold Z T0 T1 T2 T3 T4 T5 T (nI p) (nI b) q).1 = if bI (v_X3_isEating (v_X3_setHold T p b q) p b) = bI (v_X3_isEating T p b) then 0 else 1 := by
  have b5 := zPb P hb
  unfold v_X4_hold
  rw [nI_nat (by omega), nI_nat (by omega)]
  by_cases c : bI (v_X3_isEating (v_X3_setHold T p b q) p b) = bI (v_X3_isEating T p b)
  · rw [if_pos c, if_pos c]
  · rw [if_neg c, if_neg c]
theorem zpo_h0 (P : zPI Z T M I Q) (hb : b < zNb I) (hp : p < 150) (c : ¬ I 1 (6 * b) = 0) (u : bf = zpos (v_L_eats I Q p b)) (e : bI bf = bI q) : (v_X4_hold Z T0 T1 T2 T3 T4 T5 T (nI p) (nI b) q).1 = 0 := by
  rw [zhold_v P hb hp q, zhold_q P hb hp c q, ← zpos_eat P hb hp, ← u, if_pos e.symm]
theorem zpo_h1 (P : zPI Z T M I Q) (hb : b < zNb I) (hp : p < 150) (c : ¬ I 1 (6 * b) = 0) (u : bf = zpos (v_L_eats I Q p b)) (e : ¬ bI bf = bI q) : (v_X4_hold Z T0 T1 T2 T3 T4 T5 T (nI p) (nI b) q).1 = 1 := by
  rw [zhold_v P hb hp q, zhold_q P hb hp c q, ← zpos_eat P hb hp, ← u, if_neg (fun z => e z.symm)]
theorem zisheld (P : zPI Z T M I Q) (hb : b < zNb I) (hp : p < 150) : v_X3_isHeld T p b = (v_L_has_1 Q 3 b p || v_L_has_2 Q 3 b p) := by
  have b5 := zPb P hb
  have hh := P.2.2.1.2.2.2.1 b b5 p hp
  have e := (P.1.2.2.2.1 p hp).1
  unfold v_X3_isHeld
  rw [zsh1 (by omega), b_or, has1, has2, hh.1, hh.2.1, e.1, e.2.1]
  cases (bt (M 0 (353 + p)) b || bt (M 0 (503 + p)) b)
  · rfl
  · rfl
theorem zpo_letgo (P : zPI Z T M I Q) (hb : b < zNb I) (hp : p < 150) (u : hd = (v_L_has_1 Q 3 b p || v_L_has_2 Q 3 b p)) (c : hd = true) : e_X4_letGo Z T0 T1 T2 T3 T4 T5 T (nI p) (nI b) = none := by
  have b5 := zPb P hb
  unfold e_X4_letGo
  rw [if_pos (zneedP hp), if_pos (zneedB P hb), nI_nat (by omega), nI_nat (by omega), zisheld P hb hp, ← u, if_pos c]
theorem zletgo_v (P : zPI Z T M I Q) (hb : b < zNb I) (hp : p < 150) : (v_X4_letGo Z T0 T1 T2 T3 T4 T5 T (nI p) (nI b)).1 = if bI (v_X3_isEating (v_X3_dropHold T p b) p b) = bI (v_X3_isEating T p b) then 0 else 1 := by
  have b5 := zPb P hb
  unfold v_X4_letGo
  rw [nI_nat (by omega), nI_nat (by omega)]
  by_cases c : bI (v_X3_isEating (v_X3_dropHold T p b) p b) = bI (v_X3_isEating T p b)
  · rw [if_pos c, if_pos c]
  · rw [if_neg c, if_neg c]
theorem zeats_J (hJ : J = I ∨ ∃ x, J = zU I 0 (upd (I 0) 3 x)) (Q : Nat → Nat → Int64) (p b : Nat) : v_L_eats J Q p b = v_L_eats I Q p b := by
  rcases hJ with rfl | ⟨x, rfl⟩
  · rfl
  · unfold v_L_eats
    rw [zU_n _ _ (by decide), zU_s, zupd_n _ _ (by omega)]
theorem zdrop_e (P : zPI Z T M I Q) (hb : b < zNb I) (hp : p < 150) (hJ : J = I ∨ ∃ x, J = zU I 0 (upd (I 0) 3 x)) : v_X3_isEating (v_X3_dropHold T p b) p b = zpos (v_L_eats J (v_L_put_2 (v_L_put_1 Q 3 b p false) 3 b p false) p b) := by
  have b5 := zPb P hb
  have G' := zholdI (p := p) P hb false false
  have L' := zLw_hold P.2.1 P.2.2.1 hb hp false false
  rw [eq_isE (zdropR P hb hp) G' hp (by omega), zeats_J hJ, lq_eats (zdropR P hb hp) G' L' hb hp]
  unfold zpos zEt
  by_cases c : v_X5_eatsNow (v_X5_holds M p b (bI false) (bI false)) p b = 0
  · rw [decide_eq_true c, decide_eq_true ((ez_le _ p b).mpr c)]
  · rw [decide_eq_false c, decide_eq_false (fun z => c ((ez_le _ p b).mp z))]
theorem zpo_g (P : zPI Z T M I Q) (hb : b < zNb I) (hp : p < 150) (ub : bf = zpos (v_L_eats I Q p b)) {e : Bool} (he : e = zpos (v_L_eats J (v_L_put_2 (v_L_put_1 Q 3 b p false) 3 b p false) p b)) (hJ : J = I ∨ ∃ x, J = zU I 0 (upd (I 0) 3 x)) : (v_X4_letGo Z T0 T1 T2 T3 T4 T5 T (nI p) (nI b)).1 = if bI e = bI bf then 0 else 1 := by
  rw [zletgo_v P hb hp, zdrop_e P hb hp hJ, ← he, ← zpos_eat P hb hp, ← ub]
theorem zpo_g1 (P : zPI Z T M I Q) (hb : b < zNb I) (hp : p < 150) (u : hd = (v_L_has_1 Q 3 b p || v_L_has_2 Q 3 b p)) (c : hd = true) (ub : bf = zpos (v_L_eats I Q p b)) (e : ¬ v_L_eats J (v_L_put_2 (v_L_put_1 Q 3 b p false) 3 b p false) p b ≤ 0) (d : 1 = bI bf) (hJ : J = I ∨ ∃ x, J = zU I 0 (upd (I 0) 3 x) := by first | exact Or.inl rfl | exact Or.inr ⟨_, rfl⟩) : (v_X4_letGo Z T0 T1 T2 T3 T4 T5 T (nI p) (nI b)).1 = 0 := by
  rw [zpo_g P hb hp ub (zpos_t e) hJ]; exact if_pos d
theorem zpo_g2 (P : zPI Z T M I Q) (hb : b < zNb I) (hp : p < 150) (u : hd = (v_L_has_1 Q 3 b p || v_L_has_2 Q 3 b p)) (c : hd = true) (ub : bf = zpos (v_L_eats I Q p b)) (e : ¬ v_L_eats J (v_L_put_2 (v_L_put_1 Q 3 b p false) 3 b p false) p b ≤ 0) (d : ¬ 1 = bI bf) (hJ : J = I ∨ ∃ x, J = zU I 0 (upd (I 0) 3 x) := by first | exact Or.inl rfl | exact Or.inr ⟨_, rfl⟩) : (v_X4_letGo Z T0 T1 T2 T3 T4 T5 T (nI p) (nI b)).1 = 1 := by
  rw [zpo_g P hb hp ub (zpos_t e) hJ]; exact if_neg d
theorem zpo_g3 (P : zPI Z T M I Q) (hb : b < zNb I) (hp : p < 150) (u : hd = (v_L_has_1 Q 3 b p || v_L_has_2 Q 3 b p)) (c : hd = true) (ub : bf = zpos (v_L_eats I Q p b)) (e : v_L_eats J (v_L_put_2 (v_L_put_1 Q 3 b p false) 3 b p false) p b ≤ 0) (d : 0 = bI bf) (hJ : J = I ∨ ∃ x, J = zU I 0 (upd (I 0) 3 x) := by first | exact Or.inl rfl | exact Or.inr ⟨_, rfl⟩) : (v_X4_letGo Z T0 T1 T2 T3 T4 T5 T (nI p) (nI b)).1 = 0 := by
  rw [zpo_g P hb hp ub (zpos_f e) hJ]; exact if_pos d
theorem zpo_g4 (P : zPI Z T M I Q) (hb : b < zNb I) (hp : p < 150) (u : hd = (v_L_has_1 Q 3 b p || v_L_has_2 Q 3 b p)) (c : hd = true) (ub : bf = zpos (v_L_eats I Q p b)) (e : v_L_eats J (v_L_put_2 (v_L_put_1 Q 3 b p false) 3 b p false) p b ≤ 0) (d : ¬ 0 = bI bf) (hJ : J = I ∨ ∃ x, J = zU I 0 (upd (I 0) 3 x) := by first | exact Or.inl rfl | exact Or.inr ⟨_, rfl⟩) : (v_X4_letGo Z T0 T1 T2 T3 T4 T5 T (nI p) (nI b)).1 = 1 := by
  rw [zpo_g P hb hp ub (zpos_f e) hJ]; exact if_neg d
end PG
