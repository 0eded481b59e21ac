/-! the law's share -/
def zFe (gr : Int32) (I : Nat → Nat → Int32) (Q : Nat → Nat → Int64) (b j : Nat) : Prop := if 0 ≤ gr then v_L_free I Q gr j = true else zLb Q 0 2 b j = false
def zEx (gr : Int32) (I : Nat → Nat → Int32) (Q : Nat → Nat → Int64) (b k : Nat) : Prop := ∃ j, k ≤ j ∧ j < 100 ∧ zFe gr I Q b j
def zOx (Q : Nat → Nat → Int64) (b k : Nat) : Prop := ∃ j, j ≤ k ∧ zLb Q 0 2 b j = true
def zFst (gr : Int32) (I : Nat → Nat → Int32) (Q : Nat → Nat → Int64) (b k r : Nat) : Prop := r < 100 ∧ zFe gr I Q b r ∧ ∀ j, k ≤ j → j < r → ¬ zFe gr I Q b j
def zLst (Q : Nat → Nat → Int64) (b k : Nat) (r : Int32) : Prop := vp_in r 100 ∧ zLb Q 0 2 b r.toNatClampNeg = true ∧ ∀ j, r.toNatClampNeg < j → j ≤ k → zLb Q 0 2 b j = false
def zOth (I : Nat → Nat → Int32) (Q : Nat → Nat → Int64) (gr : Int32) (b j : Nat) : Prop := 0 ≤ gr → ∀ j', j' < zNb I → j' ≠ b → ¬ (I 1 (6 * j' + 1) = gr ∧ zLb Q 0 2 j' j = true)
def zSx (I0 : Nat → Nat → Int32) (Q0 : Nat → Nat → Int64) (b : Nat) (f : Nat → Int32) (I1 : Nat → Nat → Int32) (Q1 : Nat → Nat → Int64) : Prop :=
  I1 0 = I0 0 ∧ (∀ j, j ≠ 6 * b + 3 → I1 1 j = I0 1 j) ∧ (∀ t, t ≠ 0 → Q1 t = Q0 t) ∧ (∀ b' k, b' ≠ b → k < 100 → zLb Q1 0 2 b' k = zLb Q0 0 2 b' k) ∧ (∀ j, j < 100 → zLb Q1 0 2 b j = decide (f j = nI b)) ∧ I1 1 (6 * b + 3) = nI (fb_ct (zq f (nI b)) 100)
def zSh0 (gr : Int32) (I0 : Nat → Nat → Int32) (Q0 : Nat → Nat → Int64) (b : Nat) (f : Nat → Int32) : Prop := vp_in (I0 0 0) 6 ∧ b < zNb I0 ∧ I0 1 (6 * b + 1) = gr ∧ ∀ j, j < 100 → (zOth I0 Q0 gr b j ↔ (f j = -1 ∨ f j = nI b))
def zSw (gr : Int32) (I1 : Nat → Nat → Int32) (Q1 : Nat → Nat → Int64) (b sh : Nat) : Prop := ∃ f : Nat → Int32, zSh0 gr I1 Q1 b f ∧ zSx I1 Q1 b f I1 Q1 ∧ sh ≤ fb_ct (zq f (nI b)) 100 + fb_ct (zq f (-1)) 100
section SHL
variable {I I0 I1 I2 : Nat → Nat → Int32} {Q Q0 Q1 Q2 : Nat → Nat → Int64} {gr : Int32} {b sh : Nat} {f f2 : Nat → Int32}
theorem zm1n {b : Nat} (hb : b < 5) : ¬ (-1 : Int32) = nI b := (by decide : ∀ j, j < 5 → ¬ (-1 : Int32) = nI j) b hb
theorem zsb5 (H : zSh0 gr I Q b f) : b < 5 := by
  have h1 := (znat H.1).2
  have h2 : b < (I 0 0).toNatClampNeg := H.2.1
  omega
theorem zEx_lt {k : Nat} (h : zEx gr I1 Q1 b k) : k < 100 := by obtain ⟨j, h1, h2, _⟩ := h; omega
theorem zEx_a {k : Nat} (h : zEx gr I1 Q1 b k) (c : 0 ≤ gr) (e : v_L_free I1 Q1 gr k = false) : zEx gr I1 Q1 b (k + 1) := by
  obtain ⟨j, h1, h2, h3⟩ := h
  rcases Nat.lt_or_ge k j with q | q
  · exact ⟨j, q, h2, h3⟩
  · have : j = k := by omega
    subst this
    unfold zFe at h3
    rw [if_pos c, e] at h3; cases h3
theorem zEx_b {k : Nat} (h : zEx gr I1 Q1 b k) (c : ¬ 0 ≤ gr) (e : v_L_has_0 Q1 2 b k = true) : zEx gr I1 Q1 b (k + 1) := by
  obtain ⟨j, h1, h2, h3⟩ := h
  rcases Nat.lt_or_ge k j with q | q
  · exact ⟨j, q, h2, h3⟩
  · have : j = k := by omega
    subst this
    unfold zFe at h3
    rw [has0] at e
    rw [if_neg c, e] at h3; cases h3
theorem zin26 (n k : Nat) (h : 100 - k < n) (e : zEx (I 1 (6 * b + 1)) I1 Q1 b k) : zFst (I 1 (6 * b + 1)) I1 Q1 b k (v_L_share_26 I b I1 Q1 n k) := by
  induction n generalizing k with
  | zero => exact absurd h (Nat.not_lt_zero _)
  | succ n ih =>
    have hk := zEx_lt e
    rw [v_L_share_26]
    by_cases c : 0 ≤ I 1 (6 * b + 1)
    · rw [if_pos c]
      by_cases d : v_L_free I1 Q1 (I 1 (6 * b + 1)) k = true
      · rw [if_pos d]
        exact ⟨hk, by unfold zFe; rw [if_pos c]; exact d, fun j h1 h2 => by omega⟩
      · rw [if_neg d]
        have d' : v_L_free I1 Q1 (I 1 (6 * b + 1)) k = false := by simpa using d
        have r := ih (k + 1) (by omega) (zEx_a e c d')
        refine ⟨r.1, r.2.1, fun j h1 h2 => ?_⟩
        rcases Nat.lt_or_ge k j with q | q
        · exact r.2.2 j q h2
        · have : j = k := by omega
          subst this
          unfold zFe; rw [if_pos c]; exact d
    · rw [if_neg c]
      by_cases d : v_L_has_0 Q1 2 b k = true
      · rw [if_pos d]
        have r := ih (k + 1) (by omega) (zEx_b e c d)
        refine ⟨r.1, r.2.1, fun j h1 h2 => ?_⟩
        rcases Nat.lt_or_ge k j with q | q
        · exact r.2.2 j q h2
        · have : j = k := by omega
          subst this
          rw [has0] at d
          unfold zFe; rw [if_neg c, d]; exact fun z => by cases z
      · rw [if_neg d]
        rw [has0] at d
        exact ⟨hk, by unfold zFe; rw [if_neg c]; simpa using d, fun j h1 h2 => by omega⟩
theorem zFe_iff (H : zSh0 gr I1 Q1 b f) (S : zSx I1 Q1 b f I1 Q1) {j : Nat} (hj : j < 100) : zFe gr I1 Q1 b j ↔ f j = -1 := by
  have b5 := zsb5 H
  have hn := znat H.1
  have bit := S.2.2.2.2.1 j hj
  have o := H.2.2.2 j hj
  have one : (f j ≠ nI b ∧ zOth I1 Q1 gr b j) ↔ f j = -1 := by
    rw [o]
    constructor
    · rintro ⟨a, h | h⟩
      · exact h
      · exact absurd h a
    · intro h
      exact ⟨by rw [h]; exact zm1n b5, Or.inl h⟩
  rw [← one]
  unfold zFe
  by_cases c : 0 ≤ gr
  · rw [if_pos c, lfree hn.1 (by show (I1 0 0).toNatClampNeg ≤ 5; have := hn.2; omega)]
    constructor
    · intro a
      refine ⟨fun e => a b H.2.1 ⟨H.2.2.1, by rw [bit, e]; simp⟩, fun _ j' h1 _ => a j' h1⟩
    · rintro ⟨a1, a2⟩ j' h1
      by_cases e : j' = b
      · subst e
        rintro ⟨_, z⟩
        rw [bit] at z
        exact a1 (by simpa using z)
      · exact a2 c j' h1 e
  · rw [if_neg c, bit]
    constructor
    · intro a
      exact ⟨by simpa using a, fun z => absurd z c⟩
    · rintro ⟨a, _⟩
      simpa using a
theorem zq_upd (f : Nat → Int32) (t : Nat) (v x : Int32) : zq (fun j => if j = t then v else f j) x = fun k => if k = t then decide (v = x) else zq f x k := by
  funext k
  unfold zq
  by_cases c : k = t
  · simp [c]
  · simp [c]
theorem zct_up {t : Nat} (ht : t < 100) (hb : b < 5) (e : f t = -1) : fb_ct (zq (fun j => if j = t then nI b else f j) (nI b)) 100 = fb_ct (zq f (nI b)) 100 + 1 ∧ fb_ct (zq (fun j => if j = t then nI b else f j) (-1)) 100 + 1 = fb_ct (zq f (-1)) 100 := by
  rw [zq_upd, zq_upd]
  have h1 := fb_ct_upd (zq f (nI b)) (decide (nI b = nI b)) ht
  have h2 := fb_ct_upd (zq f (-1)) (decide (nI b = -1)) ht
  have e1 : zq f (nI b) t = false := zq_f.mpr (by rw [e]; exact zm1n hb)
  have e2 : zq f (-1) t = true := zq_t.mpr e
  have e3 : decide (nI b = (-1 : Int32)) = false := decide_eq_false (fun z => zm1n hb z.symm)
  rw [e1] at h1
  rw [e2, e3] at h2
  rw [e3]
  simp at h1 h2 ⊢
  exact ⟨h1, h2⟩
theorem zct_dn {t : Nat} (ht : t < 100) (hb : b < 5) (e : f t = nI b) : fb_ct (zq (fun j => if j = t then -1 else f j) (nI b)) 100 + 1 = fb_ct (zq f (nI b)) 100 ∧ fb_ct (zq (fun j => if j = t then -1 else f j) (-1)) 100 = fb_ct (zq f (-1)) 100 + 1 := by
  rw [zq_upd, zq_upd]
  have h1 := fb_ct_upd (zq f (nI b)) (decide ((-1 : Int32) = nI b)) ht
  have h2 := fb_ct_upd (zq f (-1)) (decide ((-1 : Int32) = -1)) ht
  have e1 : zq f (nI b) t = true := zq_t.mpr e
  have e2 : zq f (-1) t = false := zq_f.mpr (by rw [e]; exact fun z => zm1n hb z.symm)
  have e3 : decide ((-1 : Int32) = nI b) = false := decide_eq_false (zm1n hb)
  rw [e1, e3] at h1
  rw [e2] at h2
  rw [e3]
  simp at h1 h2 ⊢
  exact ⟨h1, h2⟩
/-- one more bucket, one less -/
theorem zSx_put (S : zSx I1 Q1 b f I1 Q1) {t : Nat} (ht : t < 100) (v : Bool) {y : Int32} {x : Int32} (hx : v = decide (y = nI b)) (hc : x = nI (fb_ct (zq (fun j => if j = t then y else f j) (nI b)) 100)) :
    zSx I1 Q1 b (fun j => if j = t then y else f j) (zU I1 1 (upd (I1 1) (6 * b + 3) x)) (v_L_put_0 Q1 2 b t v) := by
  rw [put0]
  refine ⟨zU_n _ _ (by decide), fun j hj => by rw [zU_s]; unfold upd; rw [if_neg hj], fun t' h => zPut_n _ _ _ _ _ h, fun b' k hb' hk => ?_, fun j hj => ?_, by rw [zU_s]; unfold upd; rw [if_pos rfl]; exact hc⟩
  · rw [zPut_at _ _ _ (by omega) (by omega), if_neg (fun z => hb' z.1)]
  · rw [zPut_at _ _ _ (by omega) (by omega)]
    by_cases c : j = t
    · rw [if_pos ⟨rfl, c⟩]; simp only [if_pos c]; exact hx
    · rw [if_neg (fun z => c z.2)]; simp only [if_neg c]; exact S.2.2.2.2.1 j hj
theorem zSx_self (S : zSx I0 Q0 b f I1 Q1) : zSx I1 Q1 b f I1 Q1 := ⟨rfl, fun _ _ => rfl, fun _ _ => rfl, fun _ _ _ _ => rfl, S.2.2.2.2.1, S.2.2.2.2.2⟩
theorem zSx_trans (S : zSx I0 Q0 b f I1 Q1) (U : zSx I1 Q1 b f2 I2 Q2) : zSx I0 Q0 b f2 I2 Q2 :=
  ⟨U.1.trans S.1, fun j h => (U.2.1 j h).trans (S.2.1 j h), fun t h => (U.2.2.1 t h).trans (S.2.2.1 t h), fun b' k h1 h2 => (U.2.2.2.1 b' k h1 h2).trans (S.2.2.2.1 b' k h1 h2), U.2.2.2.2.1, U.2.2.2.2.2⟩
theorem zSx_cong (S : zSx I0 Q0 b f I1 Q1) (h : ∀ j, j < 100 → f2 j = f j) : zSx I0 Q0 b f2 I1 Q1 :=
  ⟨S.1, S.2.1, S.2.2.1, S.2.2.2.1, fun j hj => by rw [h j hj]; exact S.2.2.2.2.1 j hj, by
    rw [S.2.2.2.2.2]
    exact congrArg nI (fb_ct_cong (fun k hk => by unfold zq; rw [h k hk]))⟩
theorem zSh0_to (H : zSh0 gr I0 Q0 b f) (S : zSx I0 Q0 b f2 I1 Q1) (r : ∀ j, j < 100 → ((f2 j = -1 ∨ f2 j = nI b) ↔ (f j = -1 ∨ f j = nI b))) : zSh0 gr I1 Q1 b f2 := by
  have nb : zNb I1 = zNb I0 := by show (I1 0 0).toNatClampNeg = (I0 0 0).toNatClampNeg; rw [S.1]
  refine ⟨by rw [S.1]; exact H.1, by rw [nb]; exact H.2.1, by rw [S.2.1 _ (by omega)]; exact H.2.2.1, fun j hj => ?_⟩
  rw [r j hj, ← H.2.2.2 j hj]
  unfold zOth
  rw [nb]
  refine forall_congr' fun c => forall_congr' fun j' => forall_congr' fun h1 => forall_congr' fun h2 => ?_
  rw [S.2.1 _ (by omega), S.2.2.2.1 j' j h2 hj]
theorem zrng_up {t : Nat} (e : f t = -1) (j : Nat) : (((fun j => if j = t then nI b else f j) j = -1 ∨ (fun j => if j = t then nI b else f j) j = nI b) ↔ (f j = -1 ∨ f j = nI b)) := by
  by_cases c : j = t
  · subst c; simp [e]
  · simp [c]
theorem zrng_dn {t : Nat} (e : f t = nI b) (j : Nat) : (((fun j => if j = t then (-1 : Int32) else f j) j = -1 ∨ (fun j => if j = t then (-1 : Int32) else f j) j = nI b) ↔ (f j = -1 ∨ f j = nI b)) := by
  by_cases c : j = t
  · subst c; simp [e]
  · simp [c]
theorem zct100 (f : Nat → Int32) (x : Int32) : fb_ct (zq f x) 100 ≤ 100 := fb_ct_le _ 100
theorem zsle (S : zSx I1 Q1 b f I1 Q1) (hs : sh < 1000) : (nI sh ≤ I1 1 (6 * b + 3)) ↔ sh ≤ fb_ct (zq f (nI b)) 100 := by
  have := zct100 f (nI b)
  rw [S.2.2.2.2.2, Int32.le_iff_toInt_le, nI_toInt (by omega), nI_toInt (by omega)]; omega
theorem zsge (S : zSx I1 Q1 b f I1 Q1) (hs : sh < 1000) : (I1 1 (6 * b + 3) ≤ nI sh) ↔ fb_ct (zq f (nI b)) 100 ≤ sh := by
  have := zct100 f (nI b)
  rw [S.2.2.2.2.2, Int32.le_iff_toInt_le, nI_toInt (by omega), nI_toInt (by omega)]; omega
theorem zs_nat (S : zSx I1 Q1 b f I1 Q1) : (I1 1 (6 * b + 3)).toNatClampNeg = fb_ct (zq f (nI b)) 100 := by
  have := zct100 f (nI b)
  rw [S.2.2.2.2.2, nI_nat (by omega)]
/-- the step up -/
theorem zstep_up (H : zSh0 gr I1 Q1 b f) (S : zSx I1 Q1 b f I1 Q1) {t : Nat} (ht : t < 100) (e : f t = -1) : zSx I1 Q1 b (fun j => if j = t then nI b else f j) (zU I1 1 (upd (I1 1) (6 * b + 3) (I1 1 (6 * b + 3) + 1))) (v_L_put_0 Q1 2 b t true) ∧
    zSh0 gr (zU I1 1 (upd (I1 1) (6 * b + 3) (I1 1 (6 * b + 3) + 1))) (v_L_put_0 Q1 2 b t true) b (fun j => if j = t then nI b else f j) := by
  have b5 := zsb5 H
  have s := zSx_put S ht true (y := nI b) (x := I1 1 (6 * b + 3) + 1) (by simp) (by rw [(zct_up ht b5 e).1, S.2.2.2.2.2, nI_1])
  exact ⟨s, zSh0_to H s (fun j _ => zrng_up e j)⟩
theorem zstep_dn (H : zSh0 gr I1 Q1 b f) (S : zSx I1 Q1 b f I1 Q1) {t : Nat} (ht : t < 100) (e : f t = nI b) : zSx I1 Q1 b (fun j => if j = t then -1 else f j) (zU I1 1 (upd (I1 1) (6 * b + 3) (I1 1 (6 * b + 3) - 1))) (v_L_put_0 Q1 2 b t false) ∧
    zSh0 gr (zU I1 1 (upd (I1 1) (6 * b + 3) (I1 1 (6 * b + 3) - 1))) (v_L_put_0 Q1 2 b t false) b (fun j => if j = t then -1 else f j) := by
  have b5 := zsb5 H
  have s := zSx_put S ht false (y := -1) (x := I1 1 (6 * b + 3) - 1) (decide_eq_false (zm1n b5)).symm (by
    rw [S.2.2.2.2.2, ← (zct_dn ht b5 e).1, ← nI_1]
    exact Int32.add_sub_cancel _ _)
  exact ⟨s, zSh0_to H s (fun j _ => zrng_dn e j)⟩
theorem zv99 : vp_in 99 100 := vp_in_nI (n := 99) (N := 100) (by decide) (by decide)
theorem zSw_n (w : zSw gr I1 Q1 b sh) : vp_in (I1 0 0) 6 := by obtain ⟨f, H, _⟩ := w; exact H.1
theorem zSw_ex (w : zSw gr I1 Q1 b sh) (c : ¬ nI sh ≤ I1 1 (6 * b + 3)) (hs : sh < 1000 := by omega) : zEx gr I1 Q1 b 0 := by
  obtain ⟨f, H, S, hm⟩ := w
  rw [zsle S hs] at c
  obtain ⟨j, h1, h2⟩ := fb_ct_pos.mp (show 0 < fb_ct (zq f (-1)) 100 by omega)
  exact ⟨j, Nat.zero_le _, h1, (zFe_iff H S h1).mpr (zq_t.mp h2)⟩
theorem zSw_up {r : Nat} (w : zSw gr I1 Q1 b sh) (c : ¬ nI sh ≤ I1 1 (6 * b + 3)) (h : zFst gr I1 Q1 b 0 r) : zSw gr (zU I1 1 (upd (I1 1) (6 * b + 3) (I1 1 (6 * b + 3) + 1))) (v_L_put_0 Q1 2 b r true) b sh := by
  obtain ⟨f, H, S, hm⟩ := w
  have e := (zFe_iff H S h.1).mp h.2.1
  have z := zstep_up H S h.1 e
  have ct := zct_up h.1 (zsb5 H) e
  exact ⟨_, z.2, zSx_self z.1, by omega⟩
theorem zSw_um {r n : Nat} (w : zSw gr I1 Q1 b sh) (c : ¬ nI sh ≤ I1 1 (6 * b + 3)) (hn : sh - (I1 1 (6 * b + 3)).toNatClampNeg < n + 1) (h : zFst gr I1 Q1 b 0 r) (hs : sh < 1000 := by omega) : sh - ((zU I1 1 (upd (I1 1) (6 * b + 3) (I1 1 (6 * b + 3) + 1))) 1 (6 * b + 3)).toNatClampNeg < n := by
  obtain ⟨f, H, S, hm⟩ := w
  have e := (zFe_iff H S h.1).mp h.2.1
  have z := zstep_up H S h.1 e
  have ct := zct_up h.1 (zsb5 H) e
  rw [zs_nat (zSx_self z.1)]
  rw [zs_nat S] at hn
  rw [zsle S hs] at c
  omega
theorem zsu_10a (hs : sh < 1000) : ∀ (n : Nat) (I1 : Nat → Nat → Int32) (Q1 : Nat → Nat → Int64), sh - (I1 1 (6 * b + 3)).toNatClampNeg < n → zSw (I 1 (6 * b + 1)) I1 Q1 b sh → zSw (I 1 (6 * b + 1)) (v_L_share_10 I b sh n I1 Q1).1 (v_L_share_10 I b sh n I1 Q1).2 b sh := by
  intro n
  induction n with
  | zero => intro I1 Q1 h; exact absurd h (Nat.not_lt_zero _)
  | succ n ih =>
    intro I1 Q1 h w
    rw [v_L_share_10]
    by_cases c : nI sh ≤ I1 1 (6 * b + 3)
    · rw [if_pos c]; exact w
    · rw [if_neg c]
      have r := zin26 (I := I) 101 0 (by decide) (zSw_ex w c hs)
      exact ih _ _ (zSw_um w c h r hs) (zSw_up w c r)
theorem zsu_10 {n : Nat} (w : zSw (I 1 (6 * b + 1)) I Q b sh) (h : sh - (I 1 (6 * b + 3)).toNatClampNeg < n) (hs : sh < 1000 := by omega) : zSw (I 1 (6 * b + 1)) (v_L_share_10 I b sh n I Q).1 (v_L_share_10 I b sh n I Q).2 b sh := zsu_10a hs n I Q h w
theorem zSw_100 (w : zSw gr I1 Q1 b sh) : (I1 1 (6 * b + 3)).toNatClampNeg - sh < 101 := by
  obtain ⟨f, H, S, hm⟩ := w
  rw [zs_nat S]
  have := zct100 f (nI b)
  omega
/-- downwards -/
theorem zSw_ox (w : zSw gr I1 Q1 b sh) (c : ¬ I1 1 (6 * b + 3) ≤ nI sh) (hs : sh < 1000 := by omega) : zOx Q1 b (Int32.toNatClampNeg 99) := by
  obtain ⟨f, H, S, hm⟩ := w
  rw [zsge S hs] at c
  obtain ⟨j, h1, h2⟩ := fb_ct_pos.mp (show 0 < fb_ct (zq f (nI b)) 100 by omega)
  refine ⟨j, by show j ≤ 99; omega, ?_⟩
  rw [S.2.2.2.2.1 j h1, zq_t.mp h2]; simp
theorem zOx_lt {k : Nat} (o : zOx Q1 b k) (c : v_L_has_0 Q1 2 b k = false) : ∃ j, j < k ∧ zLb Q1 0 2 b j = true := by
  obtain ⟨j, h1, h2⟩ := o
  rcases Nat.lt_or_ge j k with q | q
  · exact ⟨j, q, h2⟩
  · have : j = k := by omega
    subst this
    rw [has0, h2] at c; cases c
theorem zdec1' {k : Nat} (h : 0 < k) (hk : k < 100) : nI k + (-1) = nI (k - 1) := by
  obtain ⟨m, rfl⟩ : ∃ m, k = m + 1 := ⟨k - 1, by omega⟩
  have := (zm1i m (by omega)).1
  rw [this]; congr 1
theorem zOx_e {x : Int32} (v : vp_in x 100) (o : zOx Q1 b x.toNatClampNeg) (c : v_L_has_0 Q1 2 b x.toNatClampNeg = false) : nI x.toNatClampNeg + (-1) = nI (x.toNatClampNeg - 1) ∧ 0 < x.toNatClampNeg ∧ x.toNatClampNeg < 100 := by
  obtain ⟨j, h1, h2⟩ := zOx_lt o c
  have h3 := (znat v).2
  exact ⟨zdec1' (by omega) h3, by omega, h3⟩
theorem zOx_in {x : Int32} (v : vp_in x 100) (o : zOx Q1 b x.toNatClampNeg) (c : v_L_has_0 Q1 2 b x.toNatClampNeg = false) : vp_in (nI x.toNatClampNeg + (-1)) 100 := by
  have e := zOx_e v o c
  rw [e.1]; exact vp_in_nI (by omega) (by decide)
theorem zOx_b {x : Int32} (v : vp_in x 100) (o : zOx Q1 b x.toNatClampNeg) (c : v_L_has_0 Q1 2 b x.toNatClampNeg = false) : zOx Q1 b (nI x.toNatClampNeg + (-1)).toNatClampNeg := by
  have e := zOx_e v o c
  obtain ⟨j, h1, h2⟩ := zOx_lt o c
  rw [e.1, nI_nat (by omega)]
  exact ⟨j, by omega, h2⟩
theorem zOx_m {x : Int32} {n : Nat} (v : vp_in x 100) (o : zOx Q1 b x.toNatClampNeg) (c : v_L_has_0 Q1 2 b x.toNatClampNeg = false) (hn : x.toNatClampNeg < n + 1) : (nI x.toNatClampNeg + (-1)).toNatClampNeg < n := by
  have e := zOx_e v o c
  rw [e.1, nI_nat (by omega)]
  omega
theorem zin105 (n : Nat) (x : Int32) (h : x.toNatClampNeg < n) (o : zOx Q1 b x.toNatClampNeg) (v : vp_in x 100) : zLst Q1 b x.toNatClampNeg (v_L_share_105 b Q1 n x) := by
  induction n generalizing x with
  | zero => exact absurd h (Nat.not_lt_zero _)
  | succ n ih =>
    rw [v_L_share_105]
    have ex := (znat v)
    by_cases d : v_L_has_0 Q1 2 b x.toNatClampNeg = true
    · rw [if_pos d]
      refine ⟨vp_in_nI ex.2 (by decide), by rw [nI_nat (by omega)]; rw [has0] at d; exact d, fun j h1 h2 => ?_⟩
      rw [nI_nat (by omega)] at h1; omega
    · rw [if_neg d]
      have d' : v_L_has_0 Q1 2 b x.toNatClampNeg = false := by simpa using d
      have e := zOx_e v o d'
      have r := ih _ (zOx_m v o d' h) (zOx_b v o d') (zOx_in v o d')
      refine ⟨r.1, r.2.1, fun j h1 h2 => ?_⟩
      rcases Nat.lt_or_ge j x.toNatClampNeg with q | q
      · exact r.2.2 j h1 (by rw [e.1, nI_nat (by omega)]; omega)
      · have : j = x.toNatClampNeg := by omega
        subst this
        rw [has0] at d'; exact d'
theorem zLst_f (S : zSx I1 Q1 b f I1 Q1) {r : Int32} (h : zLst Q1 b (Int32.toNatClampNeg 99) r) : r.toNatClampNeg < 100 ∧ f r.toNatClampNeg = nI b ∧ ∀ i, r.toNatClampNeg < i → i < 100 → f i ≠ nI b := by
  have h1 := (znat h.1).2
  refine ⟨h1, ?_, fun i hi h100 => ?_⟩
  · have := h.2.1
    rw [S.2.2.2.2.1 _ h1] at this
    simpa using this
  · have := h.2.2 i hi (by show i ≤ 99; omega)
    rw [S.2.2.2.2.1 _ h100] at this
    simpa using this
theorem zSw_dn {r : Int32} (w : zSw gr I1 Q1 b sh) (c : ¬ I1 1 (6 * b + 3) ≤ nI sh) (h : zLst Q1 b (Int32.toNatClampNeg 99) r) : zSw gr (zU I1 1 (upd (I1 1) (6 * b + 3) (I1 1 (6 * b + 3) - 1))) (v_L_put_0 Q1 2 b r.toNatClampNeg false) b sh := by
  obtain ⟨f, H, S, hm⟩ := w
  have e := zLst_f S h
  have z := zstep_dn H S e.1 e.2.1
  have ct := zct_dn e.1 (zsb5 H) e.2.1
  exact ⟨_, z.2, zSx_self z.1, by omega⟩
theorem zSw_dm {r : Int32} {n : Nat} (w : zSw gr I1 Q1 b sh) (c : ¬ I1 1 (6 * b + 3) ≤ nI sh) (hn : (I1 1 (6 * b + 3)).toNatClampNeg - sh < n + 1) (h : zLst Q1 b (Int32.toNatClampNeg 99) r) (hs : sh < 1000 := by omega) : ((zU I1 1 (upd (I1 1) (6 * b + 3) (I1 1 (6 * b + 3) - 1))) 1 (6 * b + 3)).toNatClampNeg - sh < n := by
  obtain ⟨f, H, S, hm⟩ := w
  have e := zLst_f S h
  have z := zstep_dn H S e.1 e.2.1
  have ct := zct_dn e.1 (zsb5 H) e.2.1
  rw [zs_nat (zSx_self z.1)]
  rw [zs_nat S] at hn
  rw [zsge S hs] at c
  omega
/-- what share makes -/
theorem zsu_x (hs : sh < 1000) (eg : gr = I 1 (6 * b + 1)) : ∀ (n : Nat) (I1 : Nat → Nat → Int32) (Q1 : Nat → Nat → Int64) (f : Nat → Int32), sh - fb_ct (zq f (nI b)) 100 < n → zSh0 gr I1 Q1 b f → zSx I1 Q1 b f I1 Q1 → sh ≤ fb_ct (zq f (nI b)) 100 + fb_ct (zq f (-1)) 100 →
    zSx I1 Q1 b (zUp b (sh - fb_ct (zq f (nI b)) 100) f) (v_L_share_10 I b sh n I1 Q1).1 (v_L_share_10 I b sh n I1 Q1).2 ∧ (v_L_share_10 I b sh n I1 Q1).1 1 (6 * b + 3) = nI (max (fb_ct (zq f (nI b)) 100) sh) ∧ (fb_ct (zq f (nI b)) 100 ≥ sh → v_L_share_10 I b sh n I1 Q1 = (I1, Q1)) := by
  subst eg
  intro n
  induction n with
  | zero => intro I1 Q1 f h; exact absurd h (Nat.not_lt_zero _)
  | succ n ih =>
    intro I1 Q1 f h H S hm
    rw [v_L_share_10]
    by_cases c : nI sh ≤ I1 1 (6 * b + 3)
    · rw [if_pos c]
      rw [zsle S hs] at c
      refine ⟨zSx_cong S (fun j _ => by rw [show sh - fb_ct (zq f (nI b)) 100 = 0 by omega, zUp_0]), ?_, fun _ => rfl⟩
      rw [Nat.max_eq_left c]; exact S.2.2.2.2.2
    · rw [if_neg c]
      have r := zin26 (I := I) 101 0 (by decide) (zSw_ex ⟨f, H, S, hm⟩ c hs)
      have e := (zFe_iff H S r.1).mp r.2.1
      have lo : ∀ i, i < v_L_share_26 I b I1 Q1 101 0 → f i ≠ -1 := fun i hi z => r.2.2 i (Nat.zero_le _) hi ((zFe_iff H S (by have := r.1; omega)).mpr z)
      have z := zstep_up H S r.1 e
      have ct := zct_up r.1 (zsb5 H) e
      rw [zsle S hs] at c
      have q := ih _ _ _ (by rw [ct.1]; omega) z.2 (zSx_self z.1) (by omega)
      rw [ct.1] at q
      refine ⟨zSx_cong (zSx_trans z.1 q.1) (fun j _ => ?_), ?_, fun z9 => absurd z9 (by omega)⟩
      · have b8 : b < 8 := by have := zsb5 H; omega
        obtain ⟨m, em⟩ : ∃ m, sh - fb_ct (zq f (nI b)) 100 = 1 + m := ⟨sh - fb_ct (zq f (nI b)) 100 - 1, by omega⟩
        rw [em, show sh - (fb_ct (zq f (nI b)) 100 + 1) = m by omega, ← zUp_add b8]
        exact zUp_cong (fun i _ => (zUp_1 e lo i).symm)
      · rw [q.2.1]; exact congrArg nI (by omega)
theorem zsd_x (hs : sh < 1000) : ∀ (n : Nat) (I1 : Nat → Nat → Int32) (Q1 : Nat → Nat → Int64) (f : Nat → Int32), fb_ct (zq f (nI b)) 100 - sh < n → zSh0 gr I1 Q1 b f → zSx I1 Q1 b f I1 Q1 → sh ≤ fb_ct (zq f (nI b)) 100 + fb_ct (zq f (-1)) 100 →
    zSx I1 Q1 b (zDn b (fb_ct (zq f (nI b)) 100 - sh) f) (v_L_share_88 b sh n I1 Q1).1 (v_L_share_88 b sh n I1 Q1).2 ∧ (v_L_share_88 b sh n I1 Q1).1 1 (6 * b + 3) = nI (min (fb_ct (zq f (nI b)) 100) sh) ∧ (fb_ct (zq f (nI b)) 100 ≤ sh → v_L_share_88 b sh n I1 Q1 = (I1, Q1)) := by
  intro n
  induction n with
  | zero => intro I1 Q1 f h; exact absurd h (Nat.not_lt_zero _)
  | succ n ih =>
    intro I1 Q1 f h H S hm
    rw [v_L_share_88]
    by_cases c : I1 1 (6 * b + 3) ≤ nI sh
    · rw [if_pos c]
      rw [zsge S hs] at c
      refine ⟨zSx_cong S (fun j hj => by rw [show fb_ct (zq f (nI b)) 100 - sh = 0 by omega, zDn_0 b f hj]), ?_, fun _ => rfl⟩
      rw [Nat.min_eq_left c]; exact S.2.2.2.2.2
    · rw [if_neg c]
      have r := zin105 100 99 (by decide) (zSw_ox ⟨f, H, S, hm⟩ c hs) zv99
      have e := zLst_f S r
      have z := zstep_dn H S e.1 e.2.1
      have ct := zct_dn e.1 (zsb5 H) e.2.1
      rw [zsge S hs] at c
      have q := ih _ _ _ (by omega) z.2 (zSx_self z.1) (by omega)
      refine ⟨zSx_cong (zSx_trans z.1 q.1) (fun j hj => ?_), ?_, fun z9 => absurd z9 (by omega)⟩
      · have b8 : b < 8 := by have := zsb5 H; omega
        obtain ⟨m, em⟩ : ∃ m, fb_ct (zq f (nI b)) 100 - sh = 1 + m := ⟨fb_ct (zq f (nI b)) 100 - sh - 1, by omega⟩
        rw [em, show fb_ct (zq (fun j => if j = (v_L_share_105 b Q1 100 99).toNatClampNeg then -1 else f j) (nI b)) 100 - sh = m by omega, ← zDn_add b8 f (by omega) hj]
        exact zDn_cong hj (fun i hi => (zDn_1 e.1 e.2.1 e.2.2 hi).symm)
      · rw [q.2.1]; exact congrArg nI (by omega)
theorem lq_share (hs : sh ≤ 100) (eg : gr = I 1 (6 * b + 1)) (H : zSh0 gr I Q b f) (S : zSx I Q b f I Q) (hm : sh ≤ fb_ct (zq f (nI b)) 100 + fb_ct (zq f (-1)) 100) :
    zSx I Q b (if fb_ct (zq f (nI b)) 100 ≤ sh then zUp b (sh - fb_ct (zq f (nI b)) 100) f else zDn b (fb_ct (zq f (nI b)) 100 - sh) f) (v_L_share I Q b sh).1 (v_L_share I Q b sh).2 ∧ (v_L_share I Q b sh).1 1 (6 * b + 3) = nI sh := by
  have h100 := zct100 f (nI b)
  have u := zsu_x (by omega) eg 101 I Q f (by omega) H S hm
  unfold v_L_share
  by_cases c : fb_ct (zq f (nI b)) 100 ≤ sh
  · rw [if_pos c]
    have cnt : fb_ct (zq (zUp b (sh - fb_ct (zq f (nI b)) 100) f) (nI b)) 100 = sh := by
      have e1 := u.1.2.2.2.2.2
      have e2 := u.2.1
      rw [Nat.max_eq_right c] at e2
      have h9 := zct100 (zUp b (sh - fb_ct (zq f (nI b)) 100) f) (nI b)
      have e3 := congrArg Int32.toNatClampNeg (e1.symm.trans e2)
      rw [nI_nat (by omega), nI_nat (by omega)] at e3
      exact e3
    have stop : v_L_share_88 b sh 101 (v_L_share_10 I b sh 101 I Q).1 (v_L_share_10 I b sh 101 I Q).2 = ((v_L_share_10 I b sh 101 I Q).1, (v_L_share_10 I b sh 101 I Q).2) := by
      show v_L_share_88 b sh (100 + 1) _ _ = _
      rw [v_L_share_88, if_pos]
      rw [zsge (zSx_self u.1) (by omega), cnt]; exact Nat.le_refl _
    rw [stop]
    exact ⟨u.1, by rw [u.2.1, Nat.max_eq_right c]⟩
  · rw [if_neg c]
    have stay := u.2.2 (by omega)
    rw [stay]
    have d := zsd_x (by omega) 101 I Q f (by omega) H S hm
    exact ⟨d.1, by rw [d.2.1, Nat.min_eq_right (by omega)]⟩
end SHL
