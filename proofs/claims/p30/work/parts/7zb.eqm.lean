/-! open, append, undo, and each reader -/
section ER
variable {Z T0 T1 T2 T3 T4 T5 T X M : Nat → Nat → Int32}
theorem enW11 {x : Int32} {a : String} : (if x < 0 then some a else (if x ≤ 11 then none else some a)) = if v_X5_within x 0 11 = true then none else some a := enW 11 (by decide)
theorem zcanCut {x : Int32} {a b : Int32} : (v_X5_within x a b = true) ↔ a ≤ x ∧ x ≤ b := by
  unfold v_X5_within
  by_cases c : x < a
  · rw [if_pos c]
    exact ⟨fun h => (by cases h), fun h => by have := h.1; rw [Int32.le_iff_toInt_le] at this; rw [Int32.lt_iff_toInt_lt] at c; omega⟩
  · rw [if_neg c]
    by_cases d : b < x
    · rw [if_pos d]
      exact ⟨fun h => (by cases h), fun h => by have := h.2; rw [Int32.le_iff_toInt_le] at this; rw [Int32.lt_iff_toInt_lt] at d; omega⟩
    · rw [if_neg d]
      exact ⟨fun _ => ⟨by rw [Int32.le_iff_toInt_le]; rw [Int32.lt_iff_toInt_lt] at c; omega, by rw [Int32.le_iff_toInt_le]; rw [Int32.lt_iff_toInt_lt] at d; omega⟩, fun _ => rfl⟩
theorem em_eats (V : zInv Z T0 T1 T2 T3 T4 T5 T X M) (p : Int32) (x : Int32) :
    (e_X4_eats T p x = none ∧ (v_X5_eats M p x).2 5 0 = 0 ∧ v_X4_eats T p x = (v_X5_eats M p x).1 ∧ zInv Z T0 T1 T2 T3 T4 T5 T X (v_X5_eats M p x).2) ∨
    (e_X4_eats T p x = some zIO ∧ (v_X5_eats M p x).2 5 0 = 1 ∧ zInv Z T0 T1 T2 T3 T4 T5 T X (v_X5_eats M p x).2) := by
  unfold e_X4_eats v_X5_eats
  rw [enP, enB V]
  have V' := zInv5 V (fun _ => 0)
  by_cases c0 : v_X5_isPerson p = true
  · obtain ⟨ep, hp⟩ := znat (zmp c0)
    rw [if_pos c0, if_pos rfl, if_pos c0]
    by_cases c1 : v_X5_isBread M x = true
    · obtain ⟨ex, h8, hnx⟩ := zisb_in V.ro c1
      rw [if_pos c1, if_pos rfl, if_pos c1]
      left
      refine ⟨rfl, rfl, ?_, V'⟩
      unfold v_X4_eats
      dsimp only
      exact eq_eat V'.tw V'.ro hp h8
    · right
      rw [if_neg c1, if_neg (by simp), if_neg c1]; exact ⟨rfl, rfl, zInv5 V _⟩
  · right
    rw [if_neg c0, if_neg (by simp), if_neg c0]; exact ⟨rfl, rfl, zInv5 V _⟩
theorem em_bread (V : zInv Z T0 T1 T2 T3 T4 T5 T X M) (x : Int32) (k : Int32) :
    (e_X4_bread T x k = none ∧ (v_X5_bread M x k).2 5 0 = 0 ∧ v_X4_bread T x k = (v_X5_bread M x k).1 ∧ zInv Z T0 T1 T2 T3 T4 T5 T X (v_X5_bread M x k).2) ∨
    (e_X4_bread T x k = some zIO ∧ (v_X5_bread M x k).2 5 0 = 1 ∧ zInv Z T0 T1 T2 T3 T4 T5 T X (v_X5_bread M x k).2) ∨
    (e_X4_bread T x k = some zIA ∧ (v_X5_bread M x k).2 5 0 = 2 ∧ zInv Z T0 T1 T2 T3 T4 T5 T X (v_X5_bread M x k).2) := by
  unfold e_X4_bread v_X5_bread
  rw [enB V, enW11]
  have V' := zInv5 V (fun _ => 0)
  by_cases c0 : v_X5_isBread M x = true
  · obtain ⟨ex, h8, hnx⟩ := zisb_in V.ro c0
    rw [if_pos c0, if_pos rfl, if_pos c0]
    by_cases c1 : v_X5_within k 0 11 = true
    · obtain ⟨ek, hk⟩ := znat (zwithin_in (n := 12) c1 (by decide))
      rw [if_pos c1, if_pos c1]
      left
      refine ⟨rfl, rfl, ?_, V'⟩
      unfold v_X4_bread
      dsimp only
      have h := eq_bp V'.tw V'.ro h8 hk
      rw [← ek] at h; exact h
    · right; right
      rw [if_neg c1, if_neg c1]; exact ⟨rfl, rfl, zInv5 V _⟩
  · right; left
    rw [if_neg c0, if_neg (by simp), if_neg c0]; exact ⟨rfl, rfl, zInv5 V _⟩
theorem encnt (x : Int32) : v_X4_isCounted x = (v_X5_within x 0 8 || v_X5_within x 10 12 || v_X5_within x 20 22) := by
  have key : ∀ a b : Int32, v_X5_within x a b = (decide (a.toInt ≤ x.toInt) && decide (x.toInt ≤ b.toInt)) := fun a b => by
    rw [Bool.eq_iff_iff, zcanCut, Int32.le_iff_toInt_le, Int32.le_iff_toInt_le]; simp
  rw [key, key, key]
  unfold v_X4_isCounted
  simp only [Int32.le_iff_toInt_le, Int32.lt_iff_toInt_lt, show (0 : Int32).toInt = 0 from rfl, show (8 : Int32).toInt = 8 from rfl, show (10 : Int32).toInt = 10 from rfl, show (12 : Int32).toInt = 12 from rfl, show (20 : Int32).toInt = 20 from rfl, show (22 : Int32).toInt = 22 from rfl]
  generalize x.toInt = z
  by_cases a1 : z < 0
  · rw [if_pos a1, if_pos (by omega), if_pos (by omega)]
    rw [decide_eq_false (show ¬ 0 ≤ z by omega), decide_eq_false (show ¬ 10 ≤ z by omega), decide_eq_false (show ¬ 20 ≤ z by omega)]; rfl
  · rw [if_neg a1]
    by_cases a2 : z ≤ 8
    · rw [if_pos a2, decide_eq_true (show 0 ≤ z by omega), decide_eq_true a2]; rfl
    · rw [if_neg a2, decide_eq_false a2, Bool.and_false, Bool.false_or]
      by_cases a3 : z < 10
      · rw [if_pos a3, if_pos (by omega), decide_eq_false (show ¬ 10 ≤ z by omega), decide_eq_false (show ¬ 20 ≤ z by omega)]; rfl
      · rw [if_neg a3]
        by_cases a4 : z ≤ 12
        · rw [if_pos a4, decide_eq_true (show 10 ≤ z by omega), decide_eq_true a4]; rfl
        · rw [if_neg a4, decide_eq_false a4, Bool.and_false, Bool.false_or]
          by_cases a5 : z < 20
          · rw [if_pos a5, decide_eq_false (show ¬ 20 ≤ z by omega)]; rfl
          · rw [if_neg a5, decide_eq_true (show 20 ≤ z by omega), Bool.true_and]
            by_cases a6 : 22 < z
            · rw [if_pos a6, decide_eq_false (show ¬ z ≤ 22 by omega)]
            · rw [if_neg a6, decide_eq_true (show z ≤ 22 by omega)]
theorem em_count (V : zInv Z T0 T1 T2 T3 T4 T5 T X M) (k : Int32) :
    (e_X4_count Z T k = none ∧ (v_X5_count M k).2 5 0 = 0 ∧ v_X4_count Z T k = (v_X5_count M k).1 ∧ zInv Z T0 T1 T2 T3 T4 T5 T X (v_X5_count M k).2) ∨
    (e_X4_count Z T k = some zIA ∧ (v_X5_count M k).2 5 0 = 1 ∧ zInv Z T0 T1 T2 T3 T4 T5 T X (v_X5_count M k).2) := by
  unfold e_X4_count v_X5_count
  rw [encnt]
  have V' := zInv5 V (fun _ => 0)
  have fin : (v_X5_within k 0 8 = true ∨ v_X5_within k 10 12 = true ∨ v_X5_within k 20 22 = true) → v_X4_count Z T k = v_X5_counted (zU M 5 (fun _ => 0)) k.toNatClampNeg := fun h => by
    obtain ⟨h1, h2⟩ := zin_cnt h
    have e := eq_cnt (Z := Z) V'.tw V'.ro V'.hi.2.1 h2
    rw [← (znat h1).1] at e
    exact e
  by_cases c0 : v_X5_within k 0 8 = true
  · left; rw [c0, if_pos rfl]; exact ⟨rfl, rfl, fin (Or.inl c0), V'⟩
  · rw [if_neg c0]
    by_cases c1 : v_X5_within k 10 12 = true
    · left; rw [c1, if_pos rfl, if_pos (by simp)]; exact ⟨rfl, rfl, fin (Or.inr (Or.inl c1)), V'⟩
    · rw [if_neg c1]
      by_cases c2 : v_X5_within k 20 22 = true
      · left; rw [c2, if_pos rfl, if_pos (by simp)]; exact ⟨rfl, rfl, fin (Or.inr (Or.inr c2)), V'⟩
      · right; rw [if_neg c2, if_neg (by simp [c0, c1, c2])]; exact ⟨rfl, rfl, zInv5 V _⟩
theorem zit_lt8 {M : Nat → Nat → Int32} (I : zI M) (c : ¬ M 0 1 = 8) : M 0 1 < 8 := by
  obtain ⟨j, hj, e⟩ := vp_in_of (zI_B I) (by decide)
  have : j ≠ 8 := fun q => c (by rw [e, q]; rfl)
  rw [e]; exact nI_lt (b := 8) (by omega) (by decide)
theorem enGo {gr : Int32} {α : Type} {a b : α} : (if gr = -1 then a else if v_X4_isGroup gr = true then a else b) = if v_X5_within gr (-1) 2 = true then a else b := by
  by_cases c : gr = -1
  · rw [if_pos c, if_pos (by rw [c]; decide)]
  · rw [if_neg c, enGr]
    have e : v_X5_isGroup gr = v_X5_within gr (-1) 2 := by
      unfold v_X5_isGroup
      rw [Bool.eq_iff_iff, zcanCut, zcanCut, Int32.le_iff_toInt_le, Int32.le_iff_toInt_le, Int32.le_iff_toInt_le]
      have h1 : (-1 : Int32).toInt = -1 := by decide
      have h0 : (0 : Int32).toInt = 0 := rfl
      have hc : gr.toInt ≠ -1 := fun q => c (Int32.toInt_inj.mp (by rw [q, h1]))
      rw [h1, h0]; omega
    rw [e]
theorem em_open (V : zInv Z T0 T1 T2 T3 T4 T5 T X M) (gr : Int32) (s : Int32) (q : Bool) :
    (e_X4_open Z T0 T1 T2 T3 T4 T5 T gr s q = none ∧ (v_X5_open M gr s q).2 5 0 = 0 ∧ (v_X4_open Z T0 T1 T2 T3 T4 T5 T gr s q).1 = (v_X5_open M gr s q).1 ∧ ∃ Z' U0 U1 U2 U3 U4 U5 T', (v_X4_open Z T0 T1 T2 T3 T4 T5 T gr s q).2 = (Z', U0, U1, U2, U3, U4, U5, T') ∧ zInv Z' U0 U1 U2 U3 U4 U5 T' X (v_X5_open M gr s q).2) ∨
    (e_X4_open Z T0 T1 T2 T3 T4 T5 T gr s q = some zIA ∧ (v_X5_open M gr s q).2 5 0 = 1 ∧ zInv Z T0 T1 T2 T3 T4 T5 T X (v_X5_open M gr s q).2) ∨
    (e_X4_open Z T0 T1 T2 T3 T4 T5 T gr s q = some zIS ∧ (v_X5_open M gr s q).2 5 0 = 2 ∧ zInv Z T0 T1 T2 T3 T4 T5 T X (v_X5_open M gr s q).2) := by
  unfold e_X4_open v_X5_open
  rw [enGo, enSa]
  by_cases c0 : v_X5_within gr (-1) 2 = true
  · rw [if_pos c0, if_pos c0]
    by_cases c1 : v_X5_isSalt s = true
    · rw [if_pos c1, if_pos rfl, if_pos c1]
      by_cases c2 : M 0 1 = 8
      · right; right
        rw [if_pos c2, if_neg (show ¬ T 0 0 < 8 by rw [eq_nb V.tw, c2]; decide)]; exact ⟨rfl, rfl, zInv5 V _⟩
      · left
        rw [if_neg c2, if_pos (show T 0 0 < 8 by rw [eq_nb V.tw]; exact zit_lt8 V.ro c2)]
        obtain ⟨Z', U0, U1, U2, U3, U4, U5, es, V1⟩ := eq_save V (fun _ => 0)
        have h0 : v_X5_save (zU M 5 (fun _ => 0)) 0 = M 0 := zs5_row V.hi.1
        have e5 : v_X5_save (zU M 5 (fun _ => 0)) 5 = fun _ => 0 := zse5 V.hi.1
        have v4 : v_X4_open Z T0 T1 T2 T3 T4 T5 T gr s q = ((v_X3_addBread T gr s q).1, (Z', U0, U1, U2, U3, U4, U5, (v_X3_addBread T gr s q).2)) := by
          unfold v_X4_open; rw [es]; split <;> rfl
        rw [v4]
        generalize v_X5_save (zU M 5 (fun _ => 0)) = N at *
        have c2' : ¬ N 0 1 = 8 := by rw [h0]; exact c2
        obtain ⟨n, hn⟩ : ∃ n, n = (N 0 1).toNatClampNeg := ⟨_, rfl⟩
        rw [← hn]
        have n8 : n < 8 := by
          have := zit_lt8 V1.ro c2'
          obtain ⟨j, hj, e⟩ := vp_in_of (zI_B V1.ro) (by decide)
          rw [hn, e, nI_nat (by omega)]
          rw [e, Int32.lt_iff_toInt_lt, nI_toInt (by omega), show (8 : Int32).toInt = 8 from rfl] at this; omega
        obtain ⟨P, hP⟩ : ∃ P, P = v_X5_put (v_X5_put (v_X5_put (v_X5_put (v_X5_put (v_X5_put (zU N 0 (upd (N 0) 1 ((N 0 1) + 1))) n 0 1) n 1 gr) n 2 s) n 3 0) n 4 (bI q)) n 5 0 := ⟨_, rfl⟩
        have eq : (if q = true then (nI n, v_X5_put (v_X5_put (v_X5_put (v_X5_put (v_X5_put (v_X5_put (zU N 0 (upd (N 0) 1 ((N 0 1) + 1))) n 0 1) n 1 gr) n 2 s) n 3 0) n 4 1) n 5 0) else (nI n, v_X5_put (v_X5_put (v_X5_put (v_X5_put (v_X5_put (v_X5_put (zU N 0 (upd (N 0) 1 ((N 0 1) + 1))) n 0 1) n 1 gr) n 2 s) n 3 0) n 4 0) n 5 0)) = (nI n, P) := by
          rw [hP]; cases q <;> rfl
        rw [eq]
        have pk : ∀ k, k ≠ 0 → P k = N k := fun k hk => by
          rw [hP]; unfold v_X5_put
          rw [zU_n _ _ hk, zU_n _ _ hk, zU_n _ _ hk, zU_n _ _ hk, zU_n _ _ hk, zU_n _ _ hk, zU_n _ _ hk]
        have p0 : P 0 = upd (upd (upd (upd (upd (upd (upd (N 0) 1 (N 0 1 + 1)) (5 + 6 * n + 0) 1) (5 + 6 * n + 1) gr) (5 + 6 * n + 2) s) (5 + 6 * n + 3) 0) (5 + 6 * n + 4) (bI q)) (5 + 6 * n + 5) 0 := by
          rw [hP]; unfold v_X5_put; simp only [zU_s]
        have po : ∀ j, j ≠ 1 → (j < 5 + 6 * n ∨ 5 + 6 * n + 6 ≤ j) → P 0 j = N 0 j := fun j hj hj2 => by
          rw [p0, zupd_n _ _ (by omega), zupd_n _ _ (by omega), zupd_n _ _ (by omega), zupd_n _ _ (by omega), zupd_n _ _ (by omega), zupd_n _ _ (by omega), zupd_n _ _ (by omega)]
        have q0 : P 0 (5 + 6 * n + 0) = 1 := by rw [p0, zupd_n _ _ (by omega), zupd_n _ _ (by omega), zupd_n _ _ (by omega), zupd_n _ _ (by omega), zupd_n _ _ (by omega), zupd_s]
        have q1 : P 0 (5 + 6 * n + 1) = gr := by rw [p0, zupd_n _ _ (by omega), zupd_n _ _ (by omega), zupd_n _ _ (by omega), zupd_n _ _ (by omega), zupd_s]
        have q2 : P 0 (5 + 6 * n + 2) = s := by rw [p0, zupd_n _ _ (by omega), zupd_n _ _ (by omega), zupd_n _ _ (by omega), zupd_s]
        have q3 : P 0 (5 + 6 * n + 3) = 0 := by rw [p0, zupd_n _ _ (by omega), zupd_n _ _ (by omega), zupd_s]
        have q4 : P 0 (5 + 6 * n + 4) = bI q := by rw [p0, zupd_n _ _ (by omega), zupd_s]
        have q5 : P 0 (5 + 6 * n + 5) = 0 := by rw [p0, zupd_s]
        have qb : P 0 1 = N 0 1 + 1 := by rw [p0, zupd_n _ _ (by omega), zupd_n _ _ (by omega), zupd_n _ _ (by omega), zupd_n _ _ (by omega), zupd_n _ _ (by omega), zupd_n _ _ (by omega), zupd_s]
        obtain ⟨a1, a2⟩ := zTw_open V1.tw V1.ro c2' gr s q (P 0) hn q0 q1 q2 q3 q4 q5 qb po
        have nb1 : P 0 1 = nI (n + 1) := by
          obtain ⟨j, hj, e⟩ := vp_in_of (zI_B V1.ro) (by decide)
          rw [qb, nI_succ, hn, e, nI_nat (by omega)]
        have I' : zI P := by
          refine ⟨by rw [nb1]; exact vp_in_nI (by omega) (by decide), fun b hb => ?_, fun k hk => ?_⟩
          · obtain ⟨r1, r2, r3⟩ := V1.ro.2.1 b hb
            by_cases d : b = n
            · subst d
              rw [q1, q3]
              have gin : gr = -1 ∨ vp_in gr 3 := by
                have w := zcanCut.mp c0
                rw [Int32.le_iff_toInt_le, Int32.le_iff_toInt_le, show (-1 : Int32).toInt = -1 by decide, show (2 : Int32).toInt = 2 from rfl] at w
                by_cases g : gr.toInt = -1
                · left; exact Int32.toInt_inj.mp (by rw [g]; decide)
                · right; exact vp_in_iff.mpr ⟨by omega, by omega⟩
              refine ⟨gin, (vp_in_nI (by decide) (by decide) : vp_in (nI 0) 101), fun hg => ?_⟩
              have hg2 := (znat hg).2
              have z : zct (P 0) (nI b) (53 + 100 * gr.toNatClampNeg) 100 = 0 := by
                rcases Nat.eq_zero_or_pos (zct (P 0) (nI b) (53 + 100 * gr.toNatClampNeg) 100) with z | z
                · exact z
                · obtain ⟨k, hk, e⟩ := zct_pos _ _ _ _ z
                  rw [po _ (by omega) (by omega), show 53 + 100 * gr.toNatClampNeg + k = 53 + (100 * gr.toNatClampNeg + k) by omega] at e
                  rcases V1.ro.2.2 (100 * gr.toNatClampNeg + k) (by omega) with f | ⟨b', hb', f⟩
                  · rw [f] at e; exact absurd e.symm (nI_ne1 hb)
                  · rw [f] at e
                    have e2 := congrArg Int32.toNatClampNeg e
                    rw [nI_nat (by omega), nI_nat (by omega)] at e2; omega
              rw [z]; rfl
            · rw [po (5 + 6 * b + 1) (by omega) (by omega), po (5 + 6 * b + 3) (by omega) (by omega)]
              refine ⟨r1, r2, fun hg => ?_⟩
              have hg2 := (znat hg).2
              rw [r3 hg]
              exact zct_congr _ _ _ (fun k hk => (po _ (by omega) (by omega)).symm)
          · rw [po _ (by omega) (by omega), nb1, nI_nat (by omega)]
            rcases V1.ro.2.2 k hk with f | ⟨b', hb', f⟩
            · exact Or.inl f
            · exact Or.inr ⟨b', by omega, f⟩
        exact ⟨rfl, by dsimp only; rw [pk 5 (by decide), e5], a1, Z', U0, U1, U2, U3, U4, U5, _, rfl, zInv_tw V1 a2 I' pk⟩
    · right; left
      rw [if_neg c1, if_neg (by simp), if_neg c1]; exact ⟨rfl, rfl, zInv5 V _⟩
  · right; left
    rw [if_neg c0, if_neg c0]; exact ⟨rfl, rfl, zInv5 V _⟩
end ER
