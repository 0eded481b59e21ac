/-! each writer -/
section EW
variable {Z T0 T1 T2 T3 T4 T5 T X M : Nat → Nat → Int32}
theorem em_lower (V : zInv Z T0 T1 T2 T3 T4 T5 T X M) (x : Int32) (t : Int32) :
    (e_X4_lower Z T0 T1 T2 T3 T4 T5 T x t = none ∧ (v_X5_lower M x t).2 5 0 = 0 ∧ (v_X4_lower Z T0 T1 T2 T3 T4 T5 T x t).1 = (v_X5_lower M x t).1 ∧ ∃ Z' U0 U1 U2 U3 U4 U5 T', (v_X4_lower Z T0 T1 T2 T3 T4 T5 T x t).2 = (Z', U0, U1, U2, U3, U4, U5, T') ∧ zInv Z' U0 U1 U2 U3 U4 U5 T' X (v_X5_lower M x t).2) ∨
    (e_X4_lower Z T0 T1 T2 T3 T4 T5 T x t = some zIO ∧ (v_X5_lower M x t).2 5 0 = 1 ∧ zInv Z T0 T1 T2 T3 T4 T5 T X (v_X5_lower M x t).2) ∨
    (e_X4_lower Z T0 T1 T2 T3 T4 T5 T x t = some zIA ∧ (v_X5_lower M x t).2 5 0 = 2 ∧ zInv Z T0 T1 T2 T3 T4 T5 T X (v_X5_lower M x t).2) ∨
    (e_X4_lower Z T0 T1 T2 T3 T4 T5 T x t = some zIS ∧ (v_X5_lower M x t).2 5 0 = 3 ∧ zInv Z T0 T1 T2 T3 T4 T5 T X (v_X5_lower M x t).2) := by
  unfold e_X4_lower v_X5_lower
  rw [enB V]
  by_cases c1 : v_X5_isBread M x = true
  · obtain ⟨ex, h8, hn⟩ := zisb_in V.ro c1
    rw [if_pos c1, if_pos rfl, if_pos c1, enSh]
    by_cases c2 : v_X5_isShare t = true
    · obtain ⟨et, ht⟩ := znat (zmsh c2)
      rw [if_pos c2, if_pos rfl, if_pos c2, ← ex, eq_canLower V.tw V.ro c1, ← et]
      by_cases c3 : v_X5_canLower M x.toNatClampNeg t = true
      · left
        rw [if_pos c3, if_pos c3]
        obtain ⟨Z', U0, U1, U2, U3, U4, U5, es, V1⟩ := eq_save V (fun _ => 0)
        have h0 : v_X5_save (zU M 5 (fun _ => 0)) 0 = M 0 := zs5_row V.hi.1
        have c3' : v_X5_canLower (v_X5_save (zU M 5 (fun _ => 0))) x.toNatClampNeg (nI t.toNatClampNeg) = true := by rw [zcanL M h0, ← et]; exact c3
        have S := zss5 (f := fun _ => 0) V.hi.1 V.ro h8 hn (by omega : t.toNatClampNeg ≤ 100) (Or.inr (by rw [← et]; exact c3))
        have le : t.toNatClampNeg ≤ zSh (v_X5_save (zU M 5 (fun _ => 0))) x.toNatClampNeg := by
          have := zcl_le c3'
          have q := znat (show vp_in (v_X5_of (v_X5_save (zU M 5 (fun _ => 0))) x.toNatClampNeg 3) 101 from (V1.ro.2.1 _ h8).2.1)
          have q2 : zSh (v_X5_save (zU M 5 (fun _ => 0))) x.toNatClampNeg < 101 := q.2
          rw [q.1] at this
          exact znle (by omega) (by omega) this
        have hr := eq_lower V1.tw V1.ro h8 (by rw [h0]; exact hn) le (zroom5 V.hi.1 V.ro h8 (by omega) (Or.inr (by rw [← et]; exact c3)))
        rw [← et] at hr
        refine ⟨rfl, ?_, ?_, Z', U0, U1, U2, U3, U4, U5, v_X3_lowerTo T x.toNatClampNeg t, ?_, zInv_tw V1 hr S.2.2.2.2 S.1⟩
        · dsimp only; rw [S.1 5 (by decide), zse5 V.hi.1]
        · unfold v_X4_lower
          rw [eq_eaters hr S.2.2.2.2 h8, eq_eaters V1.tw V1.ro h8]
        · unfold v_X4_lower; rw [es]
      · right; right; right
        rw [if_neg c3, if_neg c3]; exact ⟨rfl, rfl, zInv5 V _⟩
    · right; right; left
      rw [if_neg c2, if_neg (by simp), if_neg c2]; exact ⟨rfl, rfl, zInv5 V _⟩
  · right; left
    rw [if_neg c1, if_neg (by simp), if_neg c1]; exact ⟨rfl, rfl, zInv5 V _⟩
theorem zen (V : zInv Z T0 T1 T2 T3 T4 T5 T X M) {b : Nat} (h8 : b < 8) (hn : b < (M 0 1).toNatClampNeg) : zTw (v_X3_closeBread T b) (v_X5_ends M b 0) ∧ zI (v_X5_ends M b) ∧ ∀ k, k ≠ 0 → v_X5_ends M b k = M k := by
  have S := zss (to := 0) h8 V.ro hn (by decide) (fun _ => Nat.zero_le _)
  refine ⟨eq_ends V.tw V.ro h8 hn, zI_put h8 (Or.inl rfl) S.2.2.2.2, fun k hk => ?_⟩
  unfold v_X5_ends v_X5_put
  rw [zU_n _ _ hk]; exact S.1 k hk
theorem em_end (V : zInv Z T0 T1 T2 T3 T4 T5 T X M) (x : Int32) :
    (e_X4_end Z T0 T1 T2 T3 T4 T5 T x = none ∧ (v_X5_end M x).2 5 0 = 0 ∧ (v_X4_end Z T0 T1 T2 T3 T4 T5 T x).1 = (v_X5_end M x).1 ∧ ∃ Z' U0 U1 U2 U3 U4 U5 T', (v_X4_end Z T0 T1 T2 T3 T4 T5 T x).2 = (Z', U0, U1, U2, U3, U4, U5, T') ∧ zInv Z' U0 U1 U2 U3 U4 U5 T' X (v_X5_end M x).2) ∨
    (e_X4_end Z T0 T1 T2 T3 T4 T5 T x = some zIO ∧ (v_X5_end M x).2 5 0 = 1 ∧ zInv Z T0 T1 T2 T3 T4 T5 T X (v_X5_end M x).2) ∨
    (e_X4_end Z T0 T1 T2 T3 T4 T5 T x = some zIS ∧ (v_X5_end M x).2 5 0 = 2 ∧ zInv Z T0 T1 T2 T3 T4 T5 T X (v_X5_end M x).2) := by
  unfold e_X4_end v_X5_end
  rw [enB V]
  by_cases c1 : v_X5_isBread M x = true
  · obtain ⟨ex, h8, hn⟩ := zisb_in V.ro c1
    rw [if_pos c1, if_pos rfl, if_pos c1, enO V c1]
    by_cases c2 : v_X5_isOpen M x.toNatClampNeg = true
    · left
      rw [if_pos c2, if_pos rfl, if_pos c2]
      obtain ⟨Z', U0, U1, U2, U3, U4, U5, es, V1⟩ := eq_save V (fun _ => 0)
      have h0 : v_X5_save (zU M 5 (fun _ => 0)) 0 = M 0 := zs5_row V.hi.1
      obtain ⟨n1, n2, n3⟩ := zen V1 h8 (by rw [h0]; exact hn)
      refine ⟨rfl, ?_, ?_, Z', U0, U1, U2, U3, U4, U5, v_X3_closeBread T x.toNatClampNeg, ?_, zInv_tw V1 n1 n2 n3⟩
      · dsimp only; rw [n3 5 (by decide), zse5 V.hi.1]
      · unfold v_X4_end; dsimp only; exact eq_pw13 n1 h8
      · unfold v_X4_end; rw [es]
    · right; right
      rw [if_neg c2, if_neg (by simp), if_neg c2]; exact ⟨rfl, rfl, zInv5 V _⟩
  · right; left
    rw [if_neg c1, if_neg (by simp), if_neg c1]; exact ⟨rfl, rfl, zInv5 V _⟩
theorem em_shake (V : zInv Z T0 T1 T2 T3 T4 T5 T X M) (x : Int32) (s : Int32) :
    (e_X4_shake Z T0 T1 T2 T3 T4 T5 T x s = none ∧ (v_X5_shake M x s).2 5 0 = 0 ∧ (v_X4_shake Z T0 T1 T2 T3 T4 T5 T x s).1 = (v_X5_shake M x s).1 ∧ ∃ Z' U0 U1 U2 U3 U4 U5 T', (v_X4_shake Z T0 T1 T2 T3 T4 T5 T x s).2 = (Z', U0, U1, U2, U3, U4, U5, T') ∧ zInv Z' U0 U1 U2 U3 U4 U5 T' X (v_X5_shake M x s).2) ∨
    (e_X4_shake Z T0 T1 T2 T3 T4 T5 T x s = some zIO ∧ (v_X5_shake M x s).2 5 0 = 1 ∧ zInv Z T0 T1 T2 T3 T4 T5 T X (v_X5_shake M x s).2) ∨
    (e_X4_shake Z T0 T1 T2 T3 T4 T5 T x s = some zIA ∧ (v_X5_shake M x s).2 5 0 = 2 ∧ zInv Z T0 T1 T2 T3 T4 T5 T X (v_X5_shake M x s).2) := by
  unfold e_X4_shake v_X5_shake
  rw [enG, enSa]
  by_cases c1 : v_X5_isGroup x = true
  · obtain ⟨ex, h3⟩ := znat (zmgr c1)
    rw [if_pos c1, if_pos rfl, if_pos c1]
    by_cases c2 : v_X5_isSalt s = true
    · left
      rw [if_pos c2, if_pos rfl, if_pos c2]
      obtain ⟨Z', U0, U1, U2, U3, U4, U5, es, V1⟩ := eq_save V (fun _ => 0)
      have h0 : v_X5_save (zU M 5 (fun _ => 0)) 0 = M 0 := zs5_row V.hi.1
      refine ⟨rfl, ?_, ?_, Z', U0, U1, U2, U3, U4, U5, zU T 9 (upd (T 9) x.toNatClampNeg s), ?_, zInv_tw V1 ?_ ?_ (fun k hk => zU_n _ _ hk)⟩
      · dsimp only; rw [zU_n _ _ (by decide), zse5 V.hi.1]
      · unfold v_X4_shake; dsimp only; exact V1.tw.2.1 _ h3
      · unfold v_X4_shake; rw [es]
      · dsimp only; rw [zU_s]; exact zTw_gsalt V1.tw h3 s
      · unfold zI; dsimp only; rw [zU_s]; exact zRow_upd V1.ro (by omega) (fun b hb => by omega) (by omega)
    · right; right
      rw [if_neg c2, if_neg (by simp), if_neg c2]; exact ⟨rfl, rfl, zInv5 V _⟩
  · right; left
    rw [if_neg c1, if_neg (by simp), if_neg c1]; exact ⟨rfl, rfl, zInv5 V _⟩
theorem zrs (R : zTw T (M 0)) (I : zI M) {b : Nat} (h8 : b < 8) (c : ¬ v_X5_isOfGroup M b = true) (s : Int32) : nI (v_X3_changedBySalt T b s) = v_X5_changed (v_X5_put (v_X5_layAhead M b) b 2 s) b ∧ zTw (zU T 6 (upd (T 6) b s)) (v_X5_put (v_X5_layAhead M b) b 2 s 0) ∧ zI (v_X5_put (v_X5_layAhead M b) b 2 s) := by
  have e0 : v_X5_layAhead M b 0 = M 0 := zla_f M b (by decide)
  have t1 : zTw (zU T 6 (upd (T 6) b s)) (v_X5_put (v_X5_layAhead M b) b 2 s 0) := by
    unfold v_X5_put; rw [zU_s, e0]; exact zTw_salt R h8 s
  have i1 : zI (v_X5_put (v_X5_layAhead M b) b 2 s) := zI_put h8 (Or.inr (Or.inl rfl)) (zI_la I)
  refine ⟨?_, t1, i1⟩
  have e6 : ∀ i, i < 150 → v_X5_put (v_X5_layAhead M b) b 2 s 6 i = if v_X5_eatsNow M i b ≤ 0 then 0 else 1 := fun i hi => by
    unfold v_X5_put; rw [zU_n _ _ (by decide)]; exact zla_6 M b hi
  have es : v_X3_saltOf (zU T 6 (upd (T 6) b s)) b = s := by
    unfold v_X3_saltOf
    have g : v_X4_isGroup (T 5 b) = false := by rw [eq_grp R I h8]; simpa using c
    rw [zU_n _ _ (show 5 ≠ 6 by decide), g, if_neg (by decide), zU_s, zupd_s]
  have er : ∀ i, i < 150 → v_X3_reasonBy T i b s = v_X5_eatsNow (v_X5_put (v_X5_layAhead M b) b 2 s) i b := fun i hi => by
    rw [← eq_eat t1 i1 hi h8, es]
    unfold v_X3_reasonBy v_X3_owns
    rw [zU_n _ _ (show 3 ≠ 6 by decide), zU_n _ _ (show 12 ≠ 6 by decide), zU_n _ _ (show 11 ≠ 6 by decide), zU_n _ _ (show 4 ≠ 6 by decide), zU_n _ _ (show 13 ≠ 6 by decide), zU_n _ _ (show 5 ≠ 6 by decide), zU_n _ _ (show 7 ≠ 6 by decide), zU_n _ _ (show 10 ≠ 6 by decide)]
  unfold v_X3_changedBySalt v_X5_changed
  rw [zlN0 (v_X3_changedBySalt_5 T b s) (fun i => zEt (v_X5_put (v_X5_layAhead M b) b 2 s) b i != zEt M b i) 150 (fun n m i h => by rw [v_X3_changedBySalt_5, if_pos h]) (fun n m i h => ?_) (by decide),
    zlI0 (v_X5_changed_4 (v_X5_put (v_X5_layAhead M b) b 2 s) b) (zind (fun i => zEt (v_X5_put (v_X5_layAhead M b) b 2 s) b i != zEt M b i)) 150 (fun n m i h => by rw [v_X5_changed_4, if_pos h]) (fun n m i h => ?_) (by decide), zsu_n]
  · rw [v_X5_changed_4, if_neg (by omega), e6 i h]
    by_cases d : v_X5_eatsNow (v_X5_put (v_X5_layAhead M b) b 2 s) i b = 0
    · rw [if_pos ((ez_le _ _ _).mpr d)]
      by_cases f : v_X5_eatsNow M i b = 0
      · rw [if_pos ((ez_le _ _ _).mpr f), if_pos rfl, zind_f (by rw [zEt_f.mpr d, zEt_f.mpr f]; rfl)]
      · rw [if_neg (fun z => f ((ez_le _ _ _).mp z)), if_neg (by decide), zind_t (by rw [zEt_f.mpr d, zEt_t.mpr f]; rfl)]
    · rw [if_neg (fun z => d ((ez_le _ _ _).mp z))]
      by_cases f : v_X5_eatsNow M i b = 0
      · rw [if_pos ((ez_le _ _ _).mpr f), if_neg (by decide), zind_t (by rw [zEt_t.mpr d, zEt_f.mpr f]; rfl)]
      · rw [if_neg (fun z => f ((ez_le _ _ _).mp z)), if_pos rfl, zind_f (by rw [zEt_t.mpr d, zEt_t.mpr f]; rfl)]
  · rw [v_X3_changedBySalt_5, if_neg (by omega), er i h, eq_isE R I h h8]
    by_cases d : v_X5_eatsNow (v_X5_put (v_X5_layAhead M b) b 2 s) i b = 0
    · rw [if_pos d]
      cases f : zEt M b i
      · rw [if_pos (show bI false = 0 by decide), if_neg (by rw [zEt_f.mpr d]; decide)]
      · rw [if_neg (show ¬ bI true = 0 by decide), if_pos (by rw [zEt_f.mpr d]; decide)]
    · rw [if_neg d]
      cases f : zEt M b i
      · rw [if_neg (show ¬ bI false = 1 by decide), if_pos (by rw [zEt_t.mpr d]; decide)]
      · rw [if_pos (show bI true = 1 by decide), if_neg (by rw [zEt_t.mpr d]; decide)]
theorem em_resalt (V : zInv Z T0 T1 T2 T3 T4 T5 T X M) (x : Int32) (s : Int32) :
    (e_X4_resalt Z T0 T1 T2 T3 T4 T5 T x s = none ∧ (v_X5_resalt M x s).2 5 0 = 0 ∧ (v_X4_resalt Z T0 T1 T2 T3 T4 T5 T x s).1 = (v_X5_resalt M x s).1 ∧ ∃ Z' U0 U1 U2 U3 U4 U5 T', (v_X4_resalt Z T0 T1 T2 T3 T4 T5 T x s).2 = (Z', U0, U1, U2, U3, U4, U5, T') ∧ zInv Z' U0 U1 U2 U3 U4 U5 T' X (v_X5_resalt M x s).2) ∨
    (e_X4_resalt Z T0 T1 T2 T3 T4 T5 T x s = some zIO ∧ (v_X5_resalt M x s).2 5 0 = 1 ∧ zInv Z T0 T1 T2 T3 T4 T5 T X (v_X5_resalt M x s).2) ∨
    (e_X4_resalt Z T0 T1 T2 T3 T4 T5 T x s = some zIA ∧ (v_X5_resalt M x s).2 5 0 = 2 ∧ zInv Z T0 T1 T2 T3 T4 T5 T X (v_X5_resalt M x s).2) ∨
    (e_X4_resalt Z T0 T1 T2 T3 T4 T5 T x s = some zIS ∧ (v_X5_resalt M x s).2 5 0 = 3 ∧ zInv Z T0 T1 T2 T3 T4 T5 T X (v_X5_resalt M x s).2) := by
  unfold e_X4_resalt v_X5_resalt
  rw [enB V, enSa]
  by_cases c1 : v_X5_isBread M x = true
  · obtain ⟨ex, h8, hn⟩ := zisb_in V.ro c1
    rw [if_pos c1, if_pos rfl, if_pos c1, enO V c1]
    by_cases c2 : v_X5_isSalt s = true
    · rw [if_pos c2, if_pos rfl, if_pos c2]
      unfold v_X3_isInGroup v_X5_hasOwnSalt
      rw [eq_grp V.tw V.ro h8]
      by_cases c3 : v_X5_isOpen M x.toNatClampNeg = true
      · rw [if_pos c3, if_pos rfl, if_pos c3]
        by_cases c4 : v_X5_isOfGroup M x.toNatClampNeg = true
        · right; right; right
          rw [if_pos c4, if_pos c4, if_neg (by decide)]; exact ⟨rfl, rfl, zInv5 V _⟩
        · left
          rw [if_neg c4, if_neg c4, if_pos rfl]
          obtain ⟨Z', U0, U1, U2, U3, U4, U5, es, V1⟩ := eq_save V (fun _ => 0)
          have h0 : v_X5_save (zU M 5 (fun _ => 0)) 0 = M 0 := zs5_row V.hi.1
          obtain ⟨r1, r2, r3⟩ := zrs V1.tw V1.ro h8 (by rw [zig_row h0]; exact c4) s
          have r4 : ∀ k, k ≠ 0 → k ≠ 6 → v_X5_put (v_X5_layAhead (v_X5_save (zU M 5 (fun _ => 0))) x.toNatClampNeg) x.toNatClampNeg 2 s k = v_X5_save (zU M 5 (fun _ => 0)) k := fun k hk hk6 => by
            unfold v_X5_put; rw [zU_n _ _ hk, zla_f _ _ hk6]
          refine ⟨rfl, ?_, ?_, Z', U0, U1, U2, U3, U4, U5, zU T 6 (upd (T 6) x.toNatClampNeg s), ?_, ⟨r2, r3, zHi_ext (r4 1 (by decide) (by decide)) (r4 2 (by decide) (by decide)) V1.hi, zTx_ext (r4 3 (by decide) (by decide)) (r4 4 (by decide) (by decide)) V1.tx⟩⟩
          · dsimp only; rw [r4 5 (by decide) (by decide), zse5 V.hi.1]
          · unfold v_X4_resalt; dsimp only; exact r1
          · unfold v_X4_resalt; rw [es]
      · right; right; right
        rw [if_neg c3, if_neg (by simp), if_neg c3, if_neg (by decide)]; exact ⟨rfl, rfl, zInv5 V _⟩
    · right; right; left
      rw [if_neg c2, if_neg (by simp), if_neg c2]; exact ⟨rfl, rfl, zInv5 V _⟩
  · right; left
    rw [if_neg c1, if_neg (by simp), if_neg c1]; exact ⟨rfl, rfl, zInv5 V _⟩
theorem zhn (V : zInv Z T0 T1 T2 T3 T4 T5 T X M) {p b : Nat} (hp : p < 150) (h8 : b < 8) {T' : Nat → Nat → Int32} {i o : Int32} (R' : zTw T' (v_X5_holds M p b i o 0)) :
    (if (bI (v_X3_isEating T' p b)) = (bI (v_X3_isEating T p b)) then (0 : Int32) else 1) = (v_X5_holdsAnew M p b i o).1 ∧ (v_X5_holdsAnew M p b i o).2 = v_X5_holds M p b i o ∧ zInv Z T0 T1 T2 T3 T4 T5 T' X (v_X5_holdsAnew M p b i o).2 := by
  have I' := zI_holds (M := M) (p := p) (b := b) (i := i) (o := o) h8 V.ro
  have e2 : (v_X5_holdsAnew M p b i o).2 = v_X5_holds M p b i o := by unfold v_X5_holdsAnew; split <;> split <;> rfl
  refine ⟨?_, e2, ?_⟩
  · rw [eq_isE R' I' hp h8, eq_isE V.tw V.ro hp h8]
    unfold v_X5_holdsAnew
    by_cases d : v_X5_eatsNow M p b = 0
    · rw [if_pos ((ez_le M p b).mpr d), zEt_f.mpr d]
      by_cases f : v_X5_eatsNow (v_X5_holds M p b i o) p b = 0
      · rw [if_pos ((ez_le _ p b).mpr f), zEt_f.mpr f, if_pos rfl]
      · rw [if_neg (fun z => f ((ez_le _ p b).mp z)), zEt_t.mpr f, if_neg (by decide)]
    · rw [if_neg (fun z => d ((ez_le _ p b).mp z)), zEt_t.mpr d]
      by_cases f : v_X5_eatsNow (v_X5_holds M p b i o) p b = 0
      · rw [if_pos ((ez_le _ p b).mpr f), zEt_f.mpr f, if_neg (by decide)]
      · rw [if_neg (fun z => f ((ez_le _ p b).mp z)), zEt_t.mpr f, if_pos rfl]
  · rw [e2]; exact zInv_tw V R' I' (fun k hk => by unfold v_X5_holds; rw [zU_n _ _ hk])
theorem em_hold (V : zInv Z T0 T1 T2 T3 T4 T5 T X M) (p : Int32) (x : Int32) (q : Bool) :
    (e_X4_hold Z T0 T1 T2 T3 T4 T5 T p x q = none ∧ (v_X5_hold M p x q).2 5 0 = 0 ∧ (v_X4_hold Z T0 T1 T2 T3 T4 T5 T p x q).1 = (v_X5_hold M p x q).1 ∧ ∃ Z' U0 U1 U2 U3 U4 U5 T', (v_X4_hold Z T0 T1 T2 T3 T4 T5 T p x q).2 = (Z', U0, U1, U2, U3, U4, U5, T') ∧ zInv Z' U0 U1 U2 U3 U4 U5 T' X (v_X5_hold M p x q).2) ∨
    (e_X4_hold Z T0 T1 T2 T3 T4 T5 T p x q = some zIO ∧ (v_X5_hold M p x q).2 5 0 = 1 ∧ zInv Z T0 T1 T2 T3 T4 T5 T X (v_X5_hold M p x q).2) ∨
    (e_X4_hold Z T0 T1 T2 T3 T4 T5 T p x q = some zIS ∧ (v_X5_hold M p x q).2 5 0 = 2 ∧ zInv Z T0 T1 T2 T3 T4 T5 T X (v_X5_hold M p x q).2) := by
  unfold e_X4_hold v_X5_hold v_X5_canHold
  rw [enB V, enP]
  by_cases c0 : v_X5_isPerson p = true
  · obtain ⟨ep, hp⟩ := znat (zmp c0)
    rw [if_pos c0, if_pos rfl, if_pos c0]
    by_cases c1 : v_X5_isBread M x = true
    · obtain ⟨ex, h8, hn⟩ := zisb_in V.ro c1
      rw [if_pos c1, if_pos rfl, if_pos c1, if_pos c1, enO V c1]
      by_cases c2 : v_X5_isOpen M x.toNatClampNeg = true
      · left
        rw [if_pos c2, if_pos rfl, if_pos c2, if_pos rfl]
        obtain ⟨Z', U0, U1, U2, U3, U4, U5, es, V1⟩ := eq_save V (fun _ => 0)
        have h0 : v_X5_save (zU M 5 (fun _ => 0)) 0 = M 0 := zs5_row V.hi.1
        obtain ⟨h1, h2, h3⟩ := zhn V1 hp h8 (eq_holds V1.tw hp h8 q)
        have e4 : v_X4_hold Z T0 T1 T2 T3 T4 T5 T p x q = ((v_X5_holdsAnew (v_X5_save (zU M 5 (fun _ => 0))) p.toNatClampNeg x.toNatClampNeg (bI q) (bI (!q))).1, (Z', U0, U1, U2, U3, U4, U5, v_X3_setHold T p.toNatClampNeg x.toNatClampNeg q)) := by
          unfold v_X4_hold
          rw [← h1, es]
          split <;> rfl
        have e5 : (if q = true then (if q = true then (((v_X5_holdsAnew (v_X5_save (zU M 5 (fun _ => 0))) (Int32.toNatClampNeg p) (Int32.toNatClampNeg x) 1 0).1), (v_X5_holdsAnew (v_X5_save (zU M 5 (fun _ => 0))) (Int32.toNatClampNeg p) (Int32.toNatClampNeg x) 1 0).2) else (((v_X5_holdsAnew (v_X5_save (zU M 5 (fun _ => 0))) (Int32.toNatClampNeg p) (Int32.toNatClampNeg x) 1 1).1), (v_X5_holdsAnew (v_X5_save (zU M 5 (fun _ => 0))) (Int32.toNatClampNeg p) (Int32.toNatClampNeg x) 1 1).2)) else (if q = true then (((v_X5_holdsAnew (v_X5_save (zU M 5 (fun _ => 0))) (Int32.toNatClampNeg p) (Int32.toNatClampNeg x) 0 0).1), (v_X5_holdsAnew (v_X5_save (zU M 5 (fun _ => 0))) (Int32.toNatClampNeg p) (Int32.toNatClampNeg x) 0 0).2) else (((v_X5_holdsAnew (v_X5_save (zU M 5 (fun _ => 0))) (Int32.toNatClampNeg p) (Int32.toNatClampNeg x) 0 1).1), (v_X5_holdsAnew (v_X5_save (zU M 5 (fun _ => 0))) (Int32.toNatClampNeg p) (Int32.toNatClampNeg x) 0 1).2))) = v_X5_holdsAnew (v_X5_save (zU M 5 (fun _ => 0))) p.toNatClampNeg x.toNatClampNeg (bI q) (bI (!q)) := by
          cases q
          · rw [if_neg (by decide), if_neg (by decide)]; rfl
          · rw [if_pos rfl, if_pos rfl]; rfl
        rw [e5, e4]
        refine ⟨rfl, ?_, rfl, Z', U0, U1, U2, U3, U4, U5, _, rfl, h3⟩
        rw [h2]; unfold v_X5_holds; rw [zU_n _ _ (by decide), zse5 V.hi.1]
      · right; right
        rw [if_neg c2, if_neg (by simp), if_neg c2, if_neg (by decide)]; exact ⟨rfl, rfl, zInv5 V _⟩
    · right; left
      rw [if_neg c1, if_neg (by simp), if_neg c1]; exact ⟨rfl, rfl, zInv5 V _⟩
  · right; left
    rw [if_neg c0, if_neg (by simp), if_neg c0]; exact ⟨rfl, rfl, zInv5 V _⟩
theorem em_letGo (V : zInv Z T0 T1 T2 T3 T4 T5 T X M) (p : Int32) (x : Int32) :
    (e_X4_letGo Z T0 T1 T2 T3 T4 T5 T p x = none ∧ (v_X5_letGo M p x).2 5 0 = 0 ∧ (v_X4_letGo Z T0 T1 T2 T3 T4 T5 T p x).1 = (v_X5_letGo M p x).1 ∧ ∃ Z' U0 U1 U2 U3 U4 U5 T', (v_X4_letGo Z T0 T1 T2 T3 T4 T5 T p x).2 = (Z', U0, U1, U2, U3, U4, U5, T') ∧ zInv Z' U0 U1 U2 U3 U4 U5 T' X (v_X5_letGo M p x).2) ∨
    (e_X4_letGo Z T0 T1 T2 T3 T4 T5 T p x = some zIO ∧ (v_X5_letGo M p x).2 5 0 = 1 ∧ zInv Z T0 T1 T2 T3 T4 T5 T X (v_X5_letGo M p x).2) ∨
    (e_X4_letGo Z T0 T1 T2 T3 T4 T5 T p x = some zIS ∧ (v_X5_letGo M p x).2 5 0 = 2 ∧ zInv Z T0 T1 T2 T3 T4 T5 T X (v_X5_letGo M p x).2) := by
  unfold e_X4_letGo v_X5_letGo
  rw [enB V, enP]
  by_cases c0 : v_X5_isPerson p = true
  · obtain ⟨ep, hp⟩ := znat (zmp c0)
    rw [if_pos c0, if_pos rfl, if_pos c0]
    by_cases c1 : v_X5_isBread M x = true
    · obtain ⟨ex, h8, hn⟩ := zisb_in V.ro c1
      rw [if_pos c1, if_pos rfl, if_pos c1]
      have eh : v_X3_isHeld T p.toNatClampNeg x.toNatClampNeg = (v_X5_isHeld M 353 p.toNatClampNeg x.toNatClampNeg || v_X5_isHeld M 503 p.toNatClampNeg x.toNatClampNeg) := by
        unfold v_X3_isHeld
        rw [zsh1 (by omega), b_or, eq_in V.tw hp h8, eq_out V.tw hp h8]
        cases bt (T 11 p.toNatClampNeg) x.toNatClampNeg <;> cases bt (T 12 p.toNatClampNeg) x.toNatClampNeg <;> rfl
      rw [eh]
      have fin : ∀ (r : Int32 × (Nat → Nat → Int32)), r = ((v_X5_holdsAnew (v_X5_save (zU M 5 (fun _ => 0))) p.toNatClampNeg x.toNatClampNeg 0 0).1, (v_X5_holdsAnew (v_X5_save (zU M 5 (fun _ => 0))) p.toNatClampNeg x.toNatClampNeg 0 0).2) → (r.2 5 0 = 0 ∧ (v_X4_letGo Z T0 T1 T2 T3 T4 T5 T p x).1 = r.1 ∧ ∃ Z' U0 U1 U2 U3 U4 U5 T', (v_X4_letGo Z T0 T1 T2 T3 T4 T5 T p x).2 = (Z', U0, U1, U2, U3, U4, U5, T') ∧ zInv Z' U0 U1 U2 U3 U4 U5 T' X r.2) := by
        rintro r rfl
        obtain ⟨Z', U0, U1, U2, U3, U4, U5, es, V1⟩ := eq_save V (fun _ => 0)
        have h0 : v_X5_save (zU M 5 (fun _ => 0)) 0 = M 0 := zs5_row V.hi.1
        obtain ⟨h1, h2, h3⟩ := zhn V1 hp h8 (eq_drops V1.tw hp h8)
        have e4 : v_X4_letGo Z T0 T1 T2 T3 T4 T5 T p x = ((v_X5_holdsAnew (v_X5_save (zU M 5 (fun _ => 0))) p.toNatClampNeg x.toNatClampNeg 0 0).1, (Z', U0, U1, U2, U3, U4, U5, v_X3_dropHold T p.toNatClampNeg x.toNatClampNeg)) := by
          unfold v_X4_letGo
          rw [← h1, es]
          split <;> rfl
        rw [e4]
        refine ⟨?_, rfl, Z', U0, U1, U2, U3, U4, U5, _, rfl, h3⟩
        dsimp only; rw [h2]; unfold v_X5_holds; rw [zU_n _ _ (by decide), zse5 V.hi.1]
      by_cases c2 : v_X5_isHeld M 353 p.toNatClampNeg x.toNatClampNeg = true
      · left
        rw [if_pos c2, c2, Bool.true_or, if_pos rfl]; exact ⟨rfl, fin _ rfl⟩
      · by_cases c3 : v_X5_isHeld M 503 p.toNatClampNeg x.toNatClampNeg = true
        · left
          rw [if_neg c2, if_pos c3, c3, Bool.or_true, if_pos rfl]; exact ⟨rfl, fin _ rfl⟩
        · right; right
          rw [if_neg c2, if_neg c3, if_neg (by simp [c2, c3])]; exact ⟨rfl, rfl, zInv5 V _⟩
    · right; left
      rw [if_neg c1, if_neg (by simp), if_neg c1]; exact ⟨rfl, rfl, zInv5 V _⟩
  · right; left
    rw [if_neg c0, if_neg (by simp), if_neg c0]; exact ⟨rfl, rfl, zInv5 V _⟩
end EW
