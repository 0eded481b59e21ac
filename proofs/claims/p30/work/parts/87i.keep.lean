/-! each act keeps the rows together -/
abbrev zRT : Type := Bool × (Nat → Nat → Int32) × (Nat → Nat → Int32) × (Nat → Nat → Int32) × (Nat → Nat → Int32) × (Nat → Nat → Int32) × (Nat → Nat → Int32) × (Nat → Nat → Int32) × (Nat → Nat → Int32) × (Nat → Nat → Int32) × (Nat → Nat → Int32) × (Nat → Nat → Int64)
def zGd (r : zRT) : Prop := r.1 = true ∧ ∃ M', zPI r.2.1 r.2.2.2.2.2.2.2.2.1 M' r.2.2.2.2.2.2.2.2.2.2.1 r.2.2.2.2.2.2.2.2.2.2.2
section PS
variable {Z T0 T1 T2 T3 T4 T5 T T' M M' O I J : Nat → Nat → Int32} {Q : Nat → Nat → Int64} {b p sh : Nat} {xx yy mx x gr sal st : Int32} {hd bf q isn : Bool}
theorem zGd_mk {Z' U0 U1 U2 U3 U4 U5 T' O' I' : Nat → Nat → Int32} {Q' : Nat → Nat → Int64} (h : zPI Z' T' M' I' Q') : zGd (true, Z', U0, U1, U2, U3, U4, U5, T', O', I', Q') := ⟨rfl, M', h⟩
theorem zsh_0 (P : zPI Z T M I Q) (hb : b < zNb I) (hs : sh < 101) (le : sh ≤ zSn T b + zFn T b) : (v_L_share I Q b sh).1 0 = I 0 := (lq_share (show sh ≤ 100 by omega) rfl (zSh0_of P.1 P.2.1 P.2.2.1 hb) (zSx_of P.1 P.2.1 P.2.2.1 hb) (zhm P.1 P.2.1 (zPb P hb) le)).1.1
theorem zk_raise (P : zPI Z T M I Q) (hb : b < zNb I) (hs : sh < 101) (u : zCan I Q b sh) (c : ¬ nI sh < I 1 (6 * b + 3)) (h0 : ∀ j, j ≠ 3 → J 0 j = (v_L_share I Q b sh).1 0 j) (h1 : ∀ j, J 1 j = (v_L_share I Q b sh).1 1 j) (h3 : J 0 3 = zN3 I) : zPI (v_X4_raise Z T0 T1 T2 T3 T4 T5 T (nI b) (nI sh)).2.1 (v_X4_raise Z T0 T1 T2 T3 T4 T5 T (nI b) (nI sh)).2.2.2.2.2.2.2.2 (v_X5_setShare M b sh) J (v_L_share I Q b sh).2 := by
  have b5 := zPb P hb
  have le := ((zcan_w P hb hs).mp u).2
  rw [zsh_lt P hb hs] at c
  unfold v_X4_raise
  rw [nI_nat (by omega)]
  exact zPI_mk P (zshR P hb hs le (by omega)) (zshI P hb hs le) (zLw_ext h0 h1 (zshLw P hb hs le)) h3
theorem zk_lower (P : zPI Z T M I Q) (hb : b < zNb I) (hs : sh < 101) (u : zCan I Q b sh) (c : nI sh < I 1 (6 * b + 3)) (h0 : ∀ j, j ≠ 3 → J 0 j = (v_L_share I Q b sh).1 0 j) (h1 : ∀ j, J 1 j = (v_L_share I Q b sh).1 1 j) (h3 : J 0 3 = zN3 I) : zPI (v_X4_lower Z T0 T1 T2 T3 T4 T5 T (nI b) (nI sh)).2.1 (v_X4_lower Z T0 T1 T2 T3 T4 T5 T (nI b) (nI sh)).2.2.2.2.2.2.2.2 (v_X5_setShare M b sh) J (v_L_share I Q b sh).2 := by
  have b5 := zPb P hb
  have le := ((zcan_w P hb hs).mp u).2
  rw [zsh_lt P hb hs] at c
  unfold v_X4_lower
  rw [nI_nat (by omega)]
  exact zPI_mk P (zshL P hb hs le (by omega)) (zshI P hb hs le) (zLw_ext h0 h1 (zshLw P hb hs le)) h3
theorem zk_open (P : zPI Z T M I Q) (hn : zNb I < 5) (y z : Int32) (q : Bool) (hst : st = bI q) (h0 : ∀ j, j ≠ 3 → J 0 j = zJop I (zNb I) (v_L_at y 4 - 1) (v_L_at z 10000) st 0 j) (h1 : ∀ j, J 1 j = zJop I (zNb I) (v_L_at y 4 - 1) (v_L_at z 10000) st 1 j) (h3 : J 0 3 = zN3 I) : zPI (v_X4_open Z T0 T1 T2 T3 T4 T5 T (v_L_at y 4 - 1) (v_L_at z 10000) q).2.1 (v_X4_open Z T0 T1 T2 T3 T4 T5 T (v_L_at y 4 - 1) (v_L_at z 10000) q).2.2.2.2.2.2.2.2 (zU M 0 (zOpR (M 0) (zNb I) (v_L_at y 4 - 1) (v_L_at z 10000) q)) J Q := by
  have k := zPI_mk (T0 := T0) (T1 := T1) (T2 := T2) (T3 := T3) (T4 := T4) (T5 := T5) P (M' := zU M 0 (zOpR (M 0) (zNb I) (v_L_at y 4 - 1) (v_L_at z 10000) q)) (by rw [zU_s]; exact (zopT P hn (v_L_at y 4 - 1) (v_L_at z 10000) q).2) (zopI P hn (zgr4 y) _ q) (zLw_ext h0 h1 (zLw_open P hn (zgr4 y) (v_L_at z 10000) q hst)) h3
  unfold v_X4_open
  split
  · exact k
  · exact k
theorem zk_end (P : zPI Z T M I Q) (hb : b < zNb I) (h0 : ∀ j, j ≠ 3 → J 0 j = (v_L_share I Q b 0).1 0 j) (h1 : ∀ j, J 1 j = (zU (v_L_share I Q b 0).1 1 (upd ((v_L_share I Q b 0).1 1) (6 * b) 0)) 1 j) (h3 : J 0 3 = zN3 I) : zPI (v_X4_end Z T0 T1 T2 T3 T4 T5 T (nI b)).2.1 (v_X4_end Z T0 T1 T2 T3 T4 T5 T (nI b)).2.2.2.2.2.2.2.2 (v_X5_ends M b) J (v_L_share I Q b 0).2 := by
  have b5 := zPb P hb
  have le : 0 ≤ zSn T b + zFn T b := Nat.zero_le _
  have I' := zshI P hb (by decide) le
  have L' := zshLw P hb (by decide) le
  have nb' := zshNb P hb (by decide) le
  have e : v_X4_end Z T0 T1 T2 T3 T4 T5 T (nI b) = v_X4_end Z T0 T1 T2 T3 T4 T5 T (nI b) := rfl
  unfold v_X4_end
  rw [nI_nat (by omega)]
  exact zPI_mk P (zendR P hb) (zI_put (show b < 8 by omega) (Or.inl rfl) I') (zLw_ext (fun j hj => by rw [zU_n _ _ (by decide)]; exact h0 j hj) h1 (zLw_put I' L' (by rw [nb']; exact hb) (Or.inl rfl) 0)) h3
theorem zk_resalt (P : zPI Z T M I Q) (hb : b < zNb I) (y : Int32) (h0 : ∀ j, j ≠ 3 → J 0 j = I 0 j) (h1 : ∀ j, J 1 j = upd (I 1) (6 * b + 2) y j) (h3 : J 0 3 = zN3 I) : zPI (v_X4_resalt Z T0 T1 T2 T3 T4 T5 T (nI b) y).2.1 (v_X4_resalt Z T0 T1 T2 T3 T4 T5 T (nI b) y).2.2.2.2.2.2.2.2 (v_X5_put M b 2 y) J Q := by
  have b5 := zPb P hb
  unfold v_X4_resalt
  rw [nI_nat (by omega)]
  exact zPI_mk P (by unfold v_X5_put; rw [zU_s]; exact zTw_salt P.1 (by omega) y) (zI_put (show b < 8 by omega) (Or.inr (Or.inl rfl)) P.2.1) (zLw_ext (fun j hj => by rw [zU_n _ _ (by decide)]; exact h0 j hj) (fun j => by rw [zU_s]; exact h1 j) (zLw_put P.2.1 P.2.2.1 hb (Or.inr rfl) y)) h3
theorem zk_shake (P : zPI Z T M I Q) (hg : vp_in x 3) (y : Int32) (h0 : ∀ j, j ≠ 3 → J 0 j = upd (I 0) (4 + x.toNatClampNeg) y j) (h1 : ∀ j, J 1 j = I 1 j) (h3 : J 0 3 = zN3 I) : zPI (v_X4_shake Z T0 T1 T2 T3 T4 T5 T (nI x.toNatClampNeg) y).2.1 (v_X4_shake Z T0 T1 T2 T3 T4 T5 T (nI x.toNatClampNeg) y).2.2.2.2.2.2.2.2 (zU M 0 (upd (M 0) (2 + x.toNatClampNeg) y)) J Q := by
  have g3 := (znat hg).2
  unfold v_X4_shake
  rw [nI_nat (by omega)]
  exact zPI_mk P (by rw [zU_s]; exact zTw_gsalt P.1 g3 y) (zI_gsalt P.2.1 g3 y) (zLw_ext (fun j hj => by rw [zU_s]; exact h0 j hj) (fun j => by rw [zU_n _ _ (by decide)]; exact h1 j) (zLw_shake P.2.2.1 P.2.1 g3 y)) h3
theorem zk_hold (P : zPI Z T M I Q) (hb : b < zNb I) (hp : p < 150) (q : Bool) (h0 : ∀ j, j ≠ 3 → J 0 j = I 0 j) (h1 : ∀ j, J 1 j = I 1 j) (h3 : J 0 3 = zN3 I) : zPI (v_X4_hold Z T0 T1 T2 T3 T4 T5 T (nI p) (nI b) q).2.1 (v_X4_hold Z T0 T1 T2 T3 T4 T5 T (nI p) (nI b) q).2.2.2.2.2.2.2.2 (v_X5_holds M p b (bI q) (bI (!q))) J (v_L_put_2 (v_L_put_1 Q 3 b p q) 3 b p (!q)) := by
  have b5 := zPb P hb
  have k := zPI_mk (T0 := T0) (T1 := T1) (T2 := T2) (T3 := T3) (T4 := T4) (T5 := T5) P (zholdR P hb hp q) (zholdI P hb q (!q)) (zLw_ext h0 h1 (zLw_hold P.2.1 P.2.2.1 hb hp q (!q))) h3
  unfold v_X4_hold
  rw [nI_nat (by omega), nI_nat (by omega)]
  split
  · exact k
  · exact k
theorem zk_letgo (P : zPI Z T M I Q) (hb : b < zNb I) (hp : p < 150) (h0 : ∀ j, j ≠ 3 → J 0 j = I 0 j) (h1 : ∀ j, J 1 j = I 1 j) (h3 : J 0 3 = zN3 I) : zPI (v_X4_letGo Z T0 T1 T2 T3 T4 T5 T (nI p) (nI b)).2.1 (v_X4_letGo Z T0 T1 T2 T3 T4 T5 T (nI p) (nI b)).2.2.2.2.2.2.2.2 (v_X5_holds M p b (bI false) (bI false)) J (v_L_put_2 (v_L_put_1 Q 3 b p false) 3 b p false) := by
  have b5 := zPb P hb
  have k := zPI_mk (T0 := T0) (T1 := T1) (T2 := T2) (T3 := T3) (T4 := T4) (T5 := T5) P (zdropR P hb hp) (zholdI P hb false false) (zLw_ext h0 h1 (zLw_hold P.2.1 P.2.2.1 hb hp false false)) h3
  unfold v_X4_letGo
  rw [nI_nat (by omega), nI_nat (by omega)]
  split
  · exact k
  · exact k
theorem z29_0 (P : zPI Z T M I Q) (yy : Int32) : (v_L_persons_29 yy 4 0 0 I Q).2.2.1 0 = I 0 := by
  obtain ⟨⟨A, c, S, _⟩, _⟩ := z29 P yy 4 0 0 I Q _ _ (by have := zDd3 yy; omega) (Nat.zero_le _) (zDs_0 M I Q)
  exact S.1
theorem zk_pass (P : zPI Z T M I Q) (yy : Int32) (h0 : ∀ j, j ≠ 3 → J 0 j = upd (upd ((v_L_persons_29 yy 4 0 0 I Q).2.2.1 0) 1 (((v_L_persons_29 yy 4 0 0 I Q).2.2.1 0 1) + (nI (zDd yy)))) 2 (((v_L_persons_29 yy 4 0 0 I Q).2.2.1 0 2) + (nI (v_L_persons_29 yy 4 0 0 I Q).1)) j) (h1 : ∀ j, J 1 j = (v_L_persons_29 yy 4 0 0 I Q).2.2.1 1 j) (h3 : J 0 3 = zN3 I) : zPI (v_X4_pass Z T0 T1 T2 T3 T4 T5 T (nI (zDd yy))).2.1 (v_X4_pass Z T0 T1 T2 T3 T4 T5 T (nI (zDd yy))).2.2.2.2.2.2.2.2 (v_X5_passes M (zDd yy)).2 J (v_L_persons_29 yy 4 0 0 I Q).2.2.2 := by
  have z := zpassZ P yy
  unfold v_X4_pass
  dsimp only
  exact zPI_mk P z.2.1 z.2.2.1 (zLw_ext (fun j hj => by rw [zU_s]; exact h0 j hj) (fun j => by rw [zU_n _ _ (by decide)]; exact h1 j) (zLw_pass P yy)) h3
theorem zat2 (y : Int32) : v_L_at y 2 = bI (decide (v_L_at y 2 = 1)) := by
  obtain ⟨j, hj, e⟩ := vp_in_of (show vp_in (v_L_at y 2) 2 from zlat (n := 2) (by decide) (by decide)) (by decide)
  rw [e]
  exact (by decide : ∀ j, j < 2 → nI j = bI (decide (nI j = 1))) j hj
theorem zx0 {f : Nat → Int32} {x : Int32} (j : Nat) (hj : j ≠ 3) : (zU I 0 (upd f 3 x)) 0 j = f j := by rw [zU_s, zupd_n _ _ hj]
theorem zx1 {f : Nat → Int32} (j : Nat) : (zU I 0 f) 1 j = I 1 j := by rw [zU_n _ _ (by decide)]
theorem zx3 {f : Nat → Int32} {x : Int32} : (zU I 0 (upd f 3 x)) 0 3 = x := by rw [zU_s, zupd_s]
theorem zb_26 (P : zPI Z T M I Q) (u : vp_in (I 0 0) 5) : zGd (v_L_breads_26 Z T0 T1 T2 T3 T4 T5 T O I Q yy) := by
  have hn : zNb I < 5 := (znat u).2
  have s := zat2 (yy >>> (16 &&& 31))
  have st : ∀ q, decide (v_L_at (yy >>> (16 &&& 31)) 2 = 1) = q → v_L_at (yy >>> (16 &&& 31)) 2 = bI q := fun q h => by rw [← h]; exact s
  unfold v_L_breads_26
  by_cases c : (6 : Int32) ≤ I 0 3
  · rw [if_pos c]
    by_cases d : v_L_at (yy >>> (16 &&& 31)) 2 = 1
    · rw [if_pos d]
      exact zGd_mk (zk_open P hn yy (yy >>> (2 &&& 31)) true (st true (decide_eq_true d)) (fun _ _ => rfl) (fun _ => rfl) (by rw [zU_n _ _ (by decide), zU_s, zupd_n _ _ (by decide)]; exact zN3_y c))
    · rw [if_neg d]
      exact zGd_mk (zk_open P hn yy (yy >>> (2 &&& 31)) false (st false (decide_eq_false d)) (fun _ _ => rfl) (fun _ => rfl) (by rw [zU_n _ _ (by decide), zU_s, zupd_n _ _ (by decide)]; exact zN3_y c))
  · rw [if_neg c]
    have x0 : ∀ (f : Nat → Int32) j, j ≠ 3 → (zU (zU I 0 (upd (upd (I 0) 0 (I 0 0 + 1)) 3 (I 0 3 + 1))) 1 f) 0 j = (zU (zU I 0 (upd (I 0) 0 (I 0 0 + 1))) 1 f) 0 j := fun f j hj => by
      rw [zU_n _ _ (by decide), zU_s, zupd_n _ _ hj, zU_n _ _ (by decide), zU_s]
    have x3 : ∀ (f : Nat → Int32), (zU (zU I 0 (upd (upd (I 0) 0 (I 0 0 + 1)) 3 (I 0 3 + 1))) 1 f) 0 3 = zN3 I := fun f => by
      rw [zU_n _ _ (by decide), zU_s, zupd_s]; exact zN3_n c
    have x1 : ∀ (f g h : Nat → Int32) (j : Nat), (zU (zU I 0 g) 1 f) 1 j = (zU (zU I 0 h) 1 f) 1 j := fun f g h j => by rw [zU_s, zU_s]
    by_cases d : v_L_at (yy >>> (16 &&& 31)) 2 = 1
    · rw [if_pos d]
      exact zGd_mk (zk_open P hn yy (yy >>> (2 &&& 31)) true (st true (decide_eq_true d)) (fun j hj => x0 _ j hj) (fun j => x1 _ _ _ j) (x3 _))
    · rw [if_neg d]
      exact zGd_mk (zk_open P hn yy (yy >>> (2 &&& 31)) false (st false (decide_eq_false d)) (fun j hj => x0 _ j hj) (fun j => x1 _ _ _ j) (x3 _))
theorem zb_553 (P : zPI Z T M I Q) (hb : (v_L_at yy (I 0 0)).toNatClampNeg < zNb I) : zGd (v_L_breads_553 Z T0 T1 T2 T3 T4 T5 T O I Q xx yy) := by
  unfold v_L_breads_553
  by_cases e : (8 : Int32) ≤ v_L_at xx 10
  · rw [if_pos e]
    by_cases d : I 1 (6 * (v_L_at yy (I 0 0)).toNatClampNeg) = 0
    · rw [if_pos d]; exact zGd_mk P
    · rw [if_neg d]
      by_cases f : I 1 (6 * (v_L_at yy (I 0 0)).toNatClampNeg + 1) < 0
      · rw [if_pos f]
        by_cases c : (6 : Int32) ≤ I 0 3
        · rw [if_pos c]
          exact zGd_mk (zk_resalt P hb _ (fun j hj => by rw [zU_n _ _ (by decide)]) (fun j => by rw [zU_s]) (by rw [zU_n _ _ (by decide)]; exact zN3_y c))
        · rw [if_neg c]
          exact zGd_mk (zk_resalt P hb _ (fun j hj => zx0 j hj) (fun j => by rw [zU_n _ _ (by decide), zU_s]) (by rw [zx3]; exact zN3_n c))
      · rw [if_neg f]; exact zGd_mk P
  · rw [if_neg e]
    by_cases c : (6 : Int32) ≤ I 0 3
    · rw [if_pos c]
      exact zGd_mk (zk_shake P (zat3 _) _ (fun j hj => by rw [zU_s]) (fun j => by rw [zU_n _ _ (by decide)]) (by rw [zU_s, zupd_n _ _ (by omega)]; exact zN3_y c))
    · rw [if_neg c]
      exact zGd_mk (zk_shake P (zat3 _) _ (fun j hj => zx0 j hj) (fun j => by rw [zU_n _ _ (by decide)]) (by rw [zx3]; exact zN3_n c))
theorem zb_292 (P : zPI Z T M I Q) (hb : (v_L_at yy (I 0 0)).toNatClampNeg < zNb I) (hs : (v_L_at (yy >>> (3 &&& 31)) mx).toNatClampNeg < 101) (u : zCan I Q ((v_L_at yy (I 0 0)).toNatClampNeg) ((v_L_at (yy >>> (3 &&& 31)) mx).toNatClampNeg)) : zGd (v_L_breads_292 Z T0 T1 T2 T3 T4 T5 T O I Q yy mx) := by
  have e0 := zsh_0 P hb hs ((zcan_w P hb hs).mp u).2
  unfold v_L_breads_292
  rw [e0]
  by_cases c : (6 : Int32) ≤ I 0 3
  · rw [if_pos c]
    by_cases d : nI ((v_L_at (yy >>> (3 &&& 31)) mx).toNatClampNeg) < I 1 (6 * ((v_L_at yy (I 0 0)).toNatClampNeg) + 3)
    · rw [if_pos d]
      exact zGd_mk (zk_lower P hb hs u d (fun _ _ => rfl) (fun _ => rfl) (by rw [e0]; exact zN3_y c))
    · rw [if_neg d]
      exact zGd_mk (zk_raise P hb hs u d (fun _ _ => rfl) (fun _ => rfl) (by rw [e0]; exact zN3_y c))
  · rw [if_neg c]
    by_cases d : nI ((v_L_at (yy >>> (3 &&& 31)) mx).toNatClampNeg) < I 1 (6 * ((v_L_at yy (I 0 0)).toNatClampNeg) + 3)
    · rw [if_pos d]
      exact zGd_mk (zk_lower P hb hs u d (fun j hj => by rw [zx0 j hj, e0]) (fun j => zx1 j) (by rw [zx3]; exact zN3_n c))
    · rw [if_neg d]
      exact zGd_mk (zk_raise P hb hs u d (fun j hj => by rw [zx0 j hj, e0]) (fun j => zx1 j) (by rw [zx3]; exact zN3_n c))
theorem zb_197 (P : zPI Z T M I Q) (hb : (v_L_at yy (I 0 0)).toNatClampNeg < zNb I) (um : mx = 101 ∨ mx = 40) : zGd (v_L_breads_197 Z T0 T1 T2 T3 T4 T5 T O I Q xx yy mx) := by
  have hs : (v_L_at (yy >>> (3 &&& 31)) mx).toNatClampNeg < 101 := (znat (zat_s um)).2
  unfold v_L_breads_197
  by_cases a : (6 : Int32) ≤ v_L_at xx 10
  · rw [if_pos a]
    by_cases a2 : v_L_at xx 10 = 6
    · rw [if_pos a2]
      by_cases a3 : v_L_at (yy >>> (10 &&& 31)) 3 = 0
      · rw [if_pos a3]
        by_cases d : I 1 (6 * (v_L_at yy (I 0 0)).toNatClampNeg) = 0
        · rw [if_pos d]; exact zGd_mk P
        · rw [if_neg d]
          have e0 := zsh_0 P hb (sh := 0) (by decide) (Nat.zero_le _)
          by_cases c : (6 : Int32) ≤ (v_L_share I Q ((v_L_at yy (I 0 0)).toNatClampNeg) 0).1 0 3
          · rw [if_pos c]
            rw [e0] at c
            exact zGd_mk (zk_end P hb (fun j hj => by rw [zU_n _ _ (by decide)]) (fun _ => rfl) (by rw [zU_n _ _ (by decide), e0]; exact zN3_y c))
          · rw [if_neg c]
            rw [e0] at c
            exact zGd_mk (zk_end P hb (fun j hj => zx0 j hj) (fun j => zx1 j) (by rw [zx3, e0]; exact zN3_n c))
      · rw [if_neg a3]; exact zb_553 P hb
    · rw [if_neg a2]; exact zb_553 P hb
  · rw [if_neg a]
    have no : zGd (v_L_breads_274 Z T0 T1 T2 T3 T4 T5 T O I Q yy mx) := zGd_mk P
    by_cases d : I 1 (6 * (v_L_at yy (I 0 0)).toNatClampNeg) = 0
    · rw [if_pos d]; exact no
    · rw [if_neg d]
      by_cases e : nI ((v_L_at (yy >>> (3 &&& 31)) mx).toNatClampNeg) ≤ I 1 (6 * ((v_L_at yy (I 0 0)).toNatClampNeg) + 3)
      · rw [if_pos e]; exact zb_292 P hb hs (zcan_a d e)
      · rw [if_neg e]
        by_cases f : I 1 (6 * ((v_L_at yy (I 0 0)).toNatClampNeg) + 1) < 0
        · rw [if_pos f]; exact zb_292 P hb hs (zcan_b d f)
        · rw [if_neg f]
          by_cases g : nI ((v_L_at (yy >>> (3 &&& 31)) mx).toNatClampNeg) - I 1 (6 * ((v_L_at yy (I 0 0)).toNatClampNeg) + 3) ≤ nI (v_L_room I Q (I 1 (6 * ((v_L_at yy (I 0 0)).toNatClampNeg) + 1)))
          · rw [if_pos g]; exact zb_292 P hb hs (zcan_c d g)
          · rw [if_neg g]; exact no
theorem zb_168 (P : zPI Z T M I Q) (c : ¬ I 0 0 = 0) : zGd (v_L_breads_168 Z T0 T1 T2 T3 T4 T5 T O I Q xx yy) := by
  have hb := (znat (zat_n (yy := yy) P c)).2
  unfold v_L_breads_168
  by_cases d : v_L_at (xx >>> (4 &&& 31)) 2 = 0
  · rw [if_pos d]; exact zb_197 P hb (Or.inl rfl)
  · rw [if_neg d]; exact zb_197 P hb (Or.inr rfl)
theorem zb_all (P : zPI Z T M I Q) (xx yy : Int32) : zGd (v_L_breads Z T0 T1 T2 T3 T4 T5 T O I Q xx yy) := by
  unfold v_L_breads
  by_cases a : I 0 0 = 0
  · rw [if_pos a]; exact zb_26 P (zn5a a)
  · rw [if_neg a]
    by_cases b : v_L_at xx 10 = 0
    · rw [if_pos b]
      by_cases c : (5 : Int32) ≤ I 0 0
      · rw [if_pos c]; exact zb_168 P a
      · rw [if_neg c]; exact zb_26 P (zn5b P c)
    · rw [if_neg b]; exact zb_168 P a
theorem zx01 {x : Int32} : ∀ j, j ≠ 3 → (zU I 0 (upd (I 0) 3 x)) 0 j = I 0 j := fun j hj => zx0 j hj
theorem zp_292 (P : zPI Z T M I Q) (hb : (v_L_at yy (I 0 0)).toNatClampNeg < zNb I) (isn : Bool) : zGd (v_L_persons_292 Z T0 T1 T2 T3 T4 T5 T O I Q yy bf isn) := by
  have hp : (v_L_at (yy >>> (3 &&& 31)) 150).toNatClampNeg < 150 := (znat (zat150 _)).2
  unfold v_L_persons_292
  have y : ∀ c : (6 : Int32) ≤ I 0 3, ∀ q', q' = !isn → zPI (v_X4_hold Z T0 T1 T2 T3 T4 T5 T (nI ((v_L_at (yy >>> (3 &&& 31)) 150).toNatClampNeg)) (nI ((v_L_at yy (I 0 0)).toNatClampNeg)) isn).2.1 (v_X4_hold Z T0 T1 T2 T3 T4 T5 T (nI ((v_L_at (yy >>> (3 &&& 31)) 150).toNatClampNeg)) (nI ((v_L_at yy (I 0 0)).toNatClampNeg)) isn).2.2.2.2.2.2.2.2 (v_X5_holds M ((v_L_at (yy >>> (3 &&& 31)) 150).toNatClampNeg) ((v_L_at yy (I 0 0)).toNatClampNeg) (bI isn) (bI (!isn))) I (v_L_put_2 (v_L_put_1 Q 3 ((v_L_at yy (I 0 0)).toNatClampNeg) ((v_L_at (yy >>> (3 &&& 31)) 150).toNatClampNeg) isn) 3 ((v_L_at yy (I 0 0)).toNatClampNeg) ((v_L_at (yy >>> (3 &&& 31)) 150).toNatClampNeg) q') := fun c q' h => by
    rw [h]; exact zk_hold P hb hp isn (fun _ _ => rfl) (fun _ => rfl) (zN3_y c)
  have n : ∀ c : ¬ (6 : Int32) ≤ I 0 3, ∀ q', q' = !isn → zPI (v_X4_hold Z T0 T1 T2 T3 T4 T5 T (nI ((v_L_at (yy >>> (3 &&& 31)) 150).toNatClampNeg)) (nI ((v_L_at yy (I 0 0)).toNatClampNeg)) isn).2.1 (v_X4_hold Z T0 T1 T2 T3 T4 T5 T (nI ((v_L_at (yy >>> (3 &&& 31)) 150).toNatClampNeg)) (nI ((v_L_at yy (I 0 0)).toNatClampNeg)) isn).2.2.2.2.2.2.2.2 (v_X5_holds M ((v_L_at (yy >>> (3 &&& 31)) 150).toNatClampNeg) ((v_L_at yy (I 0 0)).toNatClampNeg) (bI isn) (bI (!isn))) (zU I 0 (upd (I 0) 3 (I 0 3 + 1))) (v_L_put_2 (v_L_put_1 Q 3 ((v_L_at yy (I 0 0)).toNatClampNeg) ((v_L_at (yy >>> (3 &&& 31)) 150).toNatClampNeg) isn) 3 ((v_L_at yy (I 0 0)).toNatClampNeg) ((v_L_at (yy >>> (3 &&& 31)) 150).toNatClampNeg) q') := fun c q' h => by
    rw [h]; exact zk_hold P hb hp isn zx01 (fun j => zx1 j) (by rw [zx3]; exact zN3_n c)
  by_cases a : isn = true
  · rw [if_pos a]
    by_cases c : (6 : Int32) ≤ I 0 3
    · rw [if_pos c]
      by_cases d : bI bf = bI isn
      · rw [if_pos d]; exact zGd_mk (y c false (by rw [a]; rfl))
      · rw [if_neg d]; exact zGd_mk (y c false (by rw [a]; rfl))
    · rw [if_neg c]
      by_cases d : bI bf = bI isn
      · rw [if_pos d]; exact zGd_mk (n c false (by rw [a]; rfl))
      · rw [if_neg d]; exact zGd_mk (n c false (by rw [a]; rfl))
  · rw [if_neg a]
    have a' : isn = false := by simpa using a
    by_cases c : (6 : Int32) ≤ I 0 3
    · rw [if_pos c]
      by_cases d : bI bf = bI isn
      · rw [if_pos d]; exact zGd_mk (y c true (by rw [a']; rfl))
      · rw [if_neg d]; exact zGd_mk (y c true (by rw [a']; rfl))
    · rw [if_neg c]
      by_cases d : bI bf = bI isn
      · rw [if_pos d]; exact zGd_mk (n c true (by rw [a']; rfl))
      · rw [if_neg d]; exact zGd_mk (n c true (by rw [a']; rfl))
theorem zp_260 (P : zPI Z T M I Q) (hb : (v_L_at yy (I 0 0)).toNatClampNeg < zNb I) (hd bf : Bool) : zGd (v_L_persons_260 Z T0 T1 T2 T3 T4 T5 T O I Q xx yy hd bf) := by
  have hp : (v_L_at (yy >>> (3 &&& 31)) 150).toNatClampNeg < 150 := (znat (zat150 _)).2
  unfold v_L_persons_260
  by_cases a : (5 : Int32) ≤ v_L_at xx 6
  · rw [if_pos a]
    by_cases h : hd = true
    · rw [if_pos h]
      by_cases c : (6 : Int32) ≤ I 0 3
      · rw [if_pos c]
        have k := zk_letgo (T0 := T0) (T1 := T1) (T2 := T2) (T3 := T3) (T4 := T4) (T5 := T5) P hb hp (J := I) (fun _ _ => rfl) (fun _ => rfl) (zN3_y c)
        split <;> split <;> exact zGd_mk k
      · rw [if_neg c]
        have k := zk_letgo (T0 := T0) (T1 := T1) (T2 := T2) (T3 := T3) (T4 := T4) (T5 := T5) P hb hp (J := zU I 0 (upd (I 0) 3 (I 0 3 + 1))) zx01 (fun j => zx1 j) (by rw [zx3]; exact zN3_n c)
        split <;> split <;> exact zGd_mk k
    · rw [if_neg h]; exact zGd_mk P
  · rw [if_neg a]
    by_cases d : I 1 (6 * (v_L_at yy (I 0 0)).toNatClampNeg) = 0
    · rw [if_pos d]; exact zGd_mk P
    · rw [if_neg d]
      by_cases e : (4 : Int32) ≤ v_L_at xx 6
      · rw [if_pos e]; exact zp_292 P hb false
      · rw [if_neg e]; exact zp_292 P hb true
theorem zp_232 (P : zPI Z T M I Q) (hb : (v_L_at yy (I 0 0)).toNatClampNeg < zNb I) (hd : Bool) : zGd (v_L_persons_232 Z T0 T1 T2 T3 T4 T5 T O I Q xx yy hd) := by
  unfold v_L_persons_232
  split
  · exact zp_260 P hb hd false
  · exact zp_260 P hb hd true
theorem zp_all (P : zPI Z T M I Q) (xx yy : Int32) : zGd (v_L_persons Z T0 T1 T2 T3 T4 T5 T O I Q xx yy) := by
  unfold v_L_persons
  by_cases a : (2 : Int32) ≤ v_L_at xx 6
  · rw [if_pos a]
    by_cases b : I 0 0 = 0
    · rw [if_pos b]; exact zGd_mk P
    · rw [if_neg b]
      have hb := (znat (zat_n (yy := yy) P b)).2
      split
      · exact zp_232 P hb true
      · split
        · exact zp_232 P hb true
        · exact zp_232 P hb false
  · rw [if_neg a]
    have e0 := z29_0 P yy
    by_cases c : (6 : Int32) ≤ (v_L_persons_29 yy 4 0 0 I Q).2.2.1 0 3
    · rw [if_pos c]
      rw [e0] at c
      exact zGd_mk (zk_pass P yy (fun j hj => by rw [zU_s]) (fun j => zx1 j) (by rw [zU_s, zupd_n _ _ (by decide), zupd_n _ _ (by decide), e0]; exact zN3_y c))
    · rw [if_neg c]
      rw [e0] at c
      exact zGd_mk (zk_pass P yy (fun j hj => zx0 j hj) (fun j => zx1 j) (by rw [zx3, e0]; exact zN3_n c))
end PS
