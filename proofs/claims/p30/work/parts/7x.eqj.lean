/-! THE HISTORY, and the relation of the two worlds -/
def zRg (T0 T1 T2 T3 T4 T5 : Nat → Nat → Int32) (i : Nat) : Nat → Nat → Int32 := if i = 0 then T0 else if i = 1 then T1 else if i = 2 then T2 else if i = 3 then T3 else if i = 4 then T4 else T5
def zHi (Z : Nat → Nat → Int32) (Q : Nat → Nat → Nat → Int32) (M : Nat → Nat → Int32) : Prop := vp_in (M 1 0) 7 ∧ Z 0 0 = M 1 0 ∧ vp_in (Z 1 0) 6 ∧ ∀ i, i < (M 1 0).toNatClampNeg → zTw (Q (((Z 1 0).toNatClampNeg + i) % 6)) (fun j => M 2 (954 * i + j)) ∧ zRow (fun j => M 2 (954 * i + j))
def zTx (X M : Nat → Nat → Int32) : Prop := vp_in (M 3 0) 61 ∧ X 1 0 = M 3 0 ∧ ∀ i, i < (M 3 0).toNatClampNeg → X 0 i = M 4 i ∧ vp_in (M 4 i) 127
def zInv (Z T0 T1 T2 T3 T4 T5 T X M : Nat → Nat → Int32) : Prop := zTw T (M 0) ∧ zI M ∧ zHi Z (zRg T0 T1 T2 T3 T4 T5) M ∧ zTx X M
theorem zInv.tw {Z T0 T1 T2 T3 T4 T5 T X M : Nat → Nat → Int32} (V : zInv Z T0 T1 T2 T3 T4 T5 T X M) : zTw T (M 0) := V.1
theorem zInv.ro {Z T0 T1 T2 T3 T4 T5 T X M : Nat → Nat → Int32} (V : zInv Z T0 T1 T2 T3 T4 T5 T X M) : zI M := V.2.1
theorem zInv.hi {Z T0 T1 T2 T3 T4 T5 T X M : Nat → Nat → Int32} (V : zInv Z T0 T1 T2 T3 T4 T5 T X M) : zHi Z (zRg T0 T1 T2 T3 T4 T5) M := V.2.2.1
theorem zInv.tx {Z T0 T1 T2 T3 T4 T5 T X M : Nat → Nat → Int32} (V : zInv Z T0 T1 T2 T3 T4 T5 T X M) : zTx X M := V.2.2.2
theorem zRow_ext {r r' : Nat → Int32} (h : ∀ j, j < 954 → r' j = r j) (R : zRow r) : zRow r' := by
  obtain ⟨a, b, c⟩ := R
  refine ⟨by rw [h 1 (by omega)]; exact a, fun b' hb' => ?_, fun k hk => by rw [h _ (by omega), h 1 (by omega)]; exact c k hk⟩
  rw [h _ (by omega), h _ (by omega)]
  obtain ⟨b1, b2, b3⟩ := b b' hb'
  refine ⟨b1, b2, fun hg => ?_⟩
  have hg2 := (znat hg).2
  rw [b3 hg]
  exact zct_congr _ _ _ (fun k hk => (h _ (by omega)).symm)
theorem zHi_ext {Z : Nat → Nat → Int32} {Q : Nat → Nat → Nat → Int32} {M N : Nat → Nat → Int32} (h1 : N 1 = M 1) (h2 : N 2 = M 2) (H : zHi Z Q M) : zHi Z Q N := by
  unfold zHi at *; rw [h1, h2]; exact H
theorem zTx_ext {X M N : Nat → Nat → Int32} (h3 : N 3 = M 3) (h4 : N 4 = M 4) (H : zTx X M) : zTx X N := by
  unfold zTx at *; rw [h3, h4]; exact H
theorem zm6 (x : Nat) : x % 6 = 0 ∨ x % 6 = 1 ∨ x % 6 = 2 ∨ x % 6 = 3 ∨ x % 6 = 4 ∨ x % 6 = 5 := by omega
/-- which of the six is written, and the counts after -/
theorem zsv1 {Z T0 T1 T2 T3 T4 T5 T : Nat → Nat → Int32} (h0 : vp_in (Z 0 0) 7) (h1 : vp_in (Z 1 0) 6) : ∃ Z' U0 U1 U2 U3 U4 U5, v_X1_save Z T0 T1 T2 T3 T4 T5 T = (Z', U0, U1, U2, U3, U4, U5) ∧
    ((Z 0 0 = 6 ∧ Z' 0 0 = 6 ∧ Z' 1 0 = nI (((Z 1 0).toNatClampNeg + 1) % 6) ∧ ∀ i, i < 6 → zRg U0 U1 U2 U3 U4 U5 i = if i = (Z 1 0).toNatClampNeg then T else zRg T0 T1 T2 T3 T4 T5 i) ∨
     (Z 0 0 ≠ 6 ∧ Z' 0 0 = Z 0 0 + 1 ∧ Z' 1 0 = Z 1 0 ∧ ∀ i, i < 6 → zRg U0 U1 U2 U3 U4 U5 i = if i = ((Z 1 0).toNatClampNeg + (Z 0 0).toNatClampNeg) % 6 then T else zRg T0 T1 T2 T3 T4 T5 i)) := by
  have hst := (znat h1).2
  have six : ∀ i, i < 6 → i = 0 ∨ i = 1 ∨ i = 2 ∨ i = 3 ∨ i = 4 ∨ i = 5 := fun i h => by omega
  unfold v_X1_save v_X3_copy
  by_cases c : Z 0 0 = 6
  · have e5 : (Z 0 0).toNatClampNeg - 1 = 5 := by rw [c]; decide
    have e6 : nI ((Z 0 0).toNatClampNeg - 1 + 1) = 6 := by rw [c]; decide
    have sl : v_X1_latestAfter (zU (zU Z 1 (fun _ => (nI ((Int32.toNatClampNeg (Z 1 0) + 1) % 6)))) 0 (fun _ => (nI ((Int32.toNatClampNeg (Z 0 0)) - 1)))) ((Int32.toNatClampNeg (Z 0 0)) - 1) = (Z 1 0).toNatClampNeg := by
      unfold v_X1_latestAfter
      rw [zU_n _ _ (by decide), zU_s, nI_nat (by omega), e5]; omega
    rw [if_pos c, sl, e6]
    rcases six _ hst with s | s | s | s | s | s <;> rw [s] <;> simp only [if_true, if_false, Nat.reduceEqDiff, show (1:Nat) ≠ 0 from by decide] <;>
      refine ⟨_, _, _, _, _, _, _, rfl, Or.inl ⟨c, rfl, rfl, fun i hi => ?_⟩⟩ <;> rcases six i hi with q | q | q | q | q | q <;> subst q <;> rfl
  · have sl : v_X1_latestAfter Z (Int32.toNatClampNeg (Z 0 0)) = ((Z 1 0).toNatClampNeg + (Z 0 0).toNatClampNeg) % 6 := rfl
    rw [if_neg c, sl]
    rcases zm6 ((Z 1 0).toNatClampNeg + (Z 0 0).toNatClampNeg) with s | s | s | s | s | s <;> rw [s] <;> simp only [if_true, if_false, Nat.reduceEqDiff, show (1:Nat) ≠ 0 from by decide] <;>
      refine ⟨_, _, _, _, _, _, _, rfl, Or.inr ⟨c, rfl, rfl, fun i hi => ?_⟩⟩ <;> rcases six i hi with q | q | q | q | q | q <;> subst q <;> rfl
section EQ9
variable {Z T0 T1 T2 T3 T4 T5 T X M : Nat → Nat → Int32}
theorem eq_save (V : zInv Z T0 T1 T2 T3 T4 T5 T X M) (f : Nat → Int32) : ∃ Z' U0 U1 U2 U3 U4 U5, v_X1_save Z T0 T1 T2 T3 T4 T5 T = (Z', U0, U1, U2, U3, U4, U5) ∧ zInv Z' U0 U1 U2 U3 U4 U5 T X (v_X5_save (zU M 5 f)) := by
  obtain ⟨R, I, ⟨H1, H2, H3, H4⟩, Tx⟩ := V
  have hS : vp_in (zU M 5 f 1 0) 7 := zS_U H1
  obtain ⟨s1, s2⟩ := zsv _ hS
  have e1 : zU M 5 f 1 = M 1 := zU_n _ _ (by decide)
  have e2 : zU M 5 f 2 = M 2 := zU_n _ _ (by decide)
  have e0 : zU M 5 f 0 = M 0 := zU_n _ _ (by decide)
  rw [e1, e2, e0] at s2
  obtain ⟨Z', U0, U1, U2, U3, U4, U5, es, hc⟩ := zsv1 (T0 := T0) (T1 := T1) (T2 := T2) (T3 := T3) (T4 := T4) (T5 := T5) (T := T) (by rw [H2]; exact H1) H3
  refine ⟨Z', U0, U1, U2, U3, U4, U5, es, ?_, ?_, ?_, ?_⟩
  · rw [zs5_row H1]; exact R
  · exact zI_s5 H1 I
  · have hst := znat H3
    obtain ⟨n, hn, en⟩ := vp_in_of H1 (by decide)
    rcases s2 with ⟨c, r1, r2, r3⟩ | ⟨c, r1, r2, r3⟩
    · rcases hc with ⟨c', z0, z1, zq⟩ | ⟨c', z0, z1, zq⟩
      · exact absurd (H2.symm.trans c') c
      · have n6 : n ≠ 6 := fun q => c (by rw [en, q]; rfl)
        rw [en, nI_nat (by omega)] at r1 r2 r3
        refine ⟨by rw [r1]; exact vp_in_nI (by omega) (by decide), by rw [z0, r1, H2, en, nI_succ], by rw [z1]; exact H3, fun i hi => ?_⟩
        rw [r1, nI_nat (by omega)] at hi
        rw [z1, zq _ (by omega), H2, en, nI_nat (by omega)]
        rcases Nat.lt_or_ge i n with q | q
        · obtain ⟨h, h'⟩ := H4 i (by rw [en, nI_nat (by omega)]; exact q)
          rw [if_neg (by omega)]
          exact ⟨zTw_ext h (fun j hj => r3 _ (by omega)), zRow_ext (fun j hj => r3 _ (by omega)) h'⟩
        · have : i = n := by omega
          subst this
          rw [if_pos rfl]
          exact ⟨zTw_ext R (fun j hj => r2 j (by omega)), zRow_ext (fun j hj => r2 j hj) I⟩
    · rcases hc with ⟨c', z0, z1, zq⟩ | ⟨c', z0, z1, zq⟩
      · refine ⟨by rw [r1, show (6 : Int32) = nI 6 from rfl]; exact vp_in_nI (by omega) (by decide), by rw [z0, r1], by rw [z1]; exact vp_in_nI (by omega) (by decide), fun i hi => ?_⟩
        rw [r1, show (6 : Int32).toNatClampNeg = 6 by decide] at hi
        rw [z1, nI_nat (by omega), zq _ (by omega)]
        rcases Nat.lt_or_ge i 5 with q | q
        · obtain ⟨h, h'⟩ := H4 (i + 1) (by rw [c, show (6 : Int32).toNatClampNeg = 6 by decide]; omega)
          rw [if_neg (by omega), show (((Z 1 0).toNatClampNeg + 1) % 6 + i) % 6 = ((Z 1 0).toNatClampNeg + (i + 1)) % 6 by omega]
          have x : ∀ j, j < 954 → v_X5_save (zU M 5 f) 2 (954 * i + j) = M 2 (954 * (i + 1) + j) := fun j hj => by rw [r3 _ (by omega)]; congr 1; omega
          exact ⟨zTw_ext h (fun j hj => x j (by omega)), zRow_ext x h'⟩
        · have : i = 5 := by omega
          subst this
          rw [if_pos (by omega)]
          exact ⟨zTw_ext R (fun j hj => r2 j (by omega)), zRow_ext (fun j hj => r2 j hj) I⟩
      · exact absurd (H2.trans c) c'
  · exact zTx_ext (by rw [s1 3 (by decide) (by decide), zU_n _ _ (by decide)]) (by rw [s1 4 (by decide) (by decide), zU_n _ _ (by decide)]) Tx
end EQ9
