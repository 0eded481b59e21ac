/-! THE OUTLOOK: who eats at a share -/
abbrev zOw (T : Nat → Nat → Int32) (b k : Nat) : Bool := v_X3_owns T b k
def zFr (T : Nat → Nat → Int32) (b k : Nat) : Bool := if v_X4_isGroup (T 5 b) = true then decide (T 10 ((Int32.toNatClampNeg (T 5 b)) * 100 + k) = -1) else !decide (nI k < T 7 b)
abbrev zSn (T : Nat → Nat → Int32) (b : Nat) : Nat := fb_ct (zOw T b) 100
abbrev zFn (T : Nat → Nat → Int32) (b : Nat) : Nat := fb_ct (zFr T b) 100
abbrev zSu (T : Nat → Nat → Int32) (b p : Nat) : Bool := v_X3_isSure T p b
def zMy (T : Nat → Nat → Int32) (b p : Nat) : Bool := !v_X3_isSure T p b && !v_X3_isHeldOut T p b
abbrev zBu (T : Nat → Nat → Int32) (b p : Nat) : Nat := v_X4_bucketBy (nI p) (v_X3_saltOf T b)
def zin (T : Nat → Nat → Int32) (b s k : Nat) : Bool := (zOw T b k && decide (fb_ct (zOw T b) k < s)) || (zFr T b k && decide (zSn T b + fb_ct (zFr T b) k < s))
def zEs (T : Nat → Nat → Int32) (b s p : Nat) : Bool := zSu T b p || (zMy T b p && zin T b s (zBu T b p))
theorem zfb_lt (s n : Nat) (h : s ≤ n) : fb_ct (fun k => decide (k < s)) n = s := by
  obtain ⟨d, rfl⟩ : ∃ d, n = s + d := ⟨n - s, by omega⟩
  rw [fb_ct_split, fb_ct_all.mpr (fun k hk => by simpa using hk), fb_ct_zero.mpr (fun k hk => by simp), Nat.add_zero]
theorem zfb_ge (s n : Nat) (h : s ≤ n) : fb_ct (fun k => !decide (k < s)) n = n - s := by
  have := fb_ct_not (fun k => decide (k < s)) n
  rw [zfb_lt s n h] at this; omega
theorem zfb_lt' (s n : Nat) (h : n ≤ s) : fb_ct (fun k => decide (k < s)) n = n := fb_ct_all.mpr (fun k hk => by simp; omega)
section EO
variable {T M : Nat → Nat → Int32} {b p s : Nat}
theorem zou_own (R : zTw T (M 0)) (I : zI M) (hb : b < 8) (c : ¬ v_X5_isOfGroup M b = true) {k : Nat} (hk : k < 100) : zOw T b k = decide (k < zSh M b) ∧ zFr T b k = !decide (k < zSh M b) := by
  obtain ⟨h7, hs⟩ := zsh7 R I hb
  constructor
  · show v_X3_owns T b k = _
    rw [eq_owns R I hb hk]
    unfold v_X5_owns
    rw [if_neg c, ← (R.br hb).2.2.1, h7]
    by_cases d : k < zSh M b
    · rw [if_neg (nI_ge d (by omega)), decide_eq_true d]
    · rw [if_pos (nI_le (by omega) (by omega)), decide_eq_false d]
  · unfold zFr
    rw [eq_grp R I hb, if_neg c, h7]
    by_cases d : k < zSh M b
    · rw [decide_eq_true d, decide_eq_true (nI_lt d (by omega))]
    · rw [decide_eq_false d, decide_eq_false (fun z => by rw [Int32.lt_iff_toInt_lt, nI_toInt (by omega), nI_toInt (by omega)] at z; omega)]
theorem zog_own (R : zTw T (M 0)) (I : zI M) (hb : b < 8) (c : v_X5_isOfGroup M b = true) {k : Nat} (hk : k < 100) : zOw T b k = zq (zBk M b M) (nI b) k ∧ zFr T b k = zq (zBk M b M) (-1) k := by
  have hg := znat (zmg c hb (zI_G I))
  constructor
  · show v_X3_owns T b k = _
    rw [eq_owns R I hb hk]
    unfold v_X5_owns zq
    rw [if_pos c]
    by_cases d : M 0 (53 + 100 * (v_X5_of M b 1).toNatClampNeg + k) = nI b
    · rw [if_pos d]; exact (decide_eq_true d).symm
    · rw [if_neg d]; exact (decide_eq_false d).symm
  · unfold zFr zq
    rw [eq_grp R I hb, if_pos c, (R.br hb).1, zown10 R hg.2 hk]
theorem zof_dis (R : zTw T (M 0)) (I : zI M) (hb : b < 8) {k : Nat} (hk : k < 100) (h : zOw T b k = true) : zFr T b k = false := by
  by_cases c : v_X5_isOfGroup M b = true
  · obtain ⟨e1, e2⟩ := zog_own R I hb c hk
    rw [e1] at h
    rw [e2]
    exact zq_f.mpr (by rw [zq_t.mp h]; exact nI_ne1 hb)
  · obtain ⟨e1, e2⟩ := zou_own R I hb c hk
    rw [e1] at h
    rw [e2, h]; rfl
theorem zSn_sh (R : zTw T (M 0)) (I : zI M) (hb : b < 8) : zSn T b = zSh M b := by
  obtain ⟨h7, hs⟩ := zsh7 R I hb
  by_cases c : v_X5_isOfGroup M b = true
  · have h := (I.2.1 b hb).2.2 (zmg c hb (zI_G I))
    rw [zct_fb] at h
    have e : zSn T b = fb_ct (zq (zBk M b M) (nI b)) 100 := fb_ct_cong (fun k hk => (zog_own R I hb c hk).1)
    rw [e]; exact h.symm
  · have e : zSn T b = fb_ct (fun k => decide (k < zSh M b)) 100 := fb_ct_cong (fun k hk => (zou_own R I hb c hk).1)
    rw [e, zfb_lt _ _ hs]
theorem zSF (R : zTw T (M 0)) (I : zI M) (hb : b < 8) : zSn T b + zFn T b ≤ 100 := by
  have h := fb_ct_or (p := zOw T b) (q := zFr T b) (n := 100) (fun k hk z => by rw [zof_dis R I hb hk z.1] at z; exact absurd z.2 (by decide))
  have l := fb_ct_le (fun k => zOw T b k || zFr T b k) 100
  rw [h] at l; exact l
theorem zrm_iff (R : zTw T (M 0)) (I : zI M) (hb : b < 8) (hs : s ≤ 100) : zRoom M b s ↔ s ≤ zSn T b + zFn T b := by
  unfold zRoom
  rw [zSn_sh R I hb]
  by_cases c : v_X5_isOfGroup M b = true
  · have e : zFn T b = fb_ct (zq (zBk M b M) (-1)) 100 := fb_ct_cong (fun k hk => (zog_own R I hb c hk).2)
    rw [zct_fb, e]
    exact ⟨fun h => h c, fun h _ => h⟩
  · have e : zFn T b = fb_ct (fun k => !decide (k < zSh M b)) 100 := fb_ct_cong (fun k hk => (zou_own R I hb c hk).2)
    rw [e, zfb_ge _ _ (zsh7 R I hb).2]
    exact ⟨fun _ => by have := (zsh7 R I hb).2; omega, fun _ z => absurd z c⟩
/-- the buckets at a share -/
theorem zowS (R : zTw T (M 0)) (I : zI M) (hb : b < 8) (hbr : b < (M 0 1).toNatClampNeg) (hs : s ≤ 100) (room : zRoom M b s) {k : Nat} (hk : k < 100) : v_X5_owns (v_X5_setShare M b s) b k = zin T b s k := by
  obtain ⟨k1, k2, k3, k4, k5⟩ := zss hb I hbr hs room
  obtain ⟨h7, hsh⟩ := zsh7 R I hb
  have hS := zSn_sh R I hb
  have eg : v_X5_of (v_X5_setShare M b s) b 1 = v_X5_of M b 1 := k2 _ (by omega) (by omega)
  have es : v_X5_of (v_X5_setShare M b s) b 3 = nI s := k3
  unfold zin v_X5_owns v_X5_isOfGroup
  rw [eg, es]
  by_cases c : v_X5_isOfGroup M b = true
  · have c' := c
    unfold v_X5_isOfGroup at c'
    rw [c', if_pos rfl]
    have e1 : fb_ct (zOw T b) k = fb_ct (zq (zBk M b M) (nI b)) k := fb_ct_cong (fun i hi => (zog_own R I hb c (by omega)).1)
    have e2 : fb_ct (zFr T b) k = fb_ct (zq (zBk M b M) (-1)) k := fb_ct_cong (fun i hi => (zog_own R I hb c (by omega)).2)
    have e3 : zSn T b = fb_ct (zq (zBk M b M) (nI b)) 100 := fb_ct_cong (fun i hi => (zog_own R I hb c hi).1)
    have mo := fb_ct_mono (zq (zBk M b M) (nI b)) (show k + 1 ≤ 100 from hk)
    have sc := fb_ct_succ (zq (zBk M b M) (nI b)) k
    rw [(zog_own R I hb c hk).1, (zog_own R I hb c hk).2, e1, e2]
    have o := (zow hb I hs c room).1 k hk
    have o2 : v_X5_setShare M b s 0 (53 + 100 * (v_X5_of M b 1).toNatClampNeg + k) = zBk M b (v_X5_setShare M b s) k := rfl
    rw [o2]
    by_cases d : zSh M b ≤ s
    · rw [if_pos d] at o
      unfold zUp at o
      by_cases f : zBk M b M k = -1
      · have fn : ¬ zBk M b M k = nI b := fun z => nI_ne1 hb (z.symm.trans f)
        rw [zq_t.mpr f, zq_f.mpr fn]
        by_cases g : fb_ct (zq (zBk M b M) (-1)) k < s - zSh M b
        · rw [if_pos ⟨f, g⟩] at o
          rw [o, if_pos rfl, decide_eq_true (show zSn T b + fb_ct (zq (zBk M b M) (-1)) k < s by omega)]; rfl
        · rw [if_neg (fun z => g z.2)] at o
          rw [o, if_neg fn, decide_eq_false (show ¬ zSn T b + fb_ct (zq (zBk M b M) (-1)) k < s by omega)]; rfl
      · rw [if_neg (fun z => f z.1)] at o
        rw [o, zq_f.mpr f]
        by_cases g : zBk M b M k = nI b
        · rw [zq_t.mpr g] at sc ⊢
          simp only [if_true] at sc
          rw [if_pos g, decide_eq_true (show fb_ct (zq (zBk M b M) (nI b)) k < s by omega)]; rfl
        · rw [zq_f.mpr g, if_neg g]; rfl
    · rw [if_neg d] at o
      unfold zDn at o
      by_cases g : zBk M b M k = nI b
      · have f : ¬ zBk M b M k = -1 := fun z => nI_ne1 hb (g.symm.trans z)
        rw [zq_t.mpr g] at sc ⊢
        simp only [if_true] at sc
        rw [zq_f.mpr f]
        by_cases q : fb_ct (zq (zBk M b M) (nI b)) k < s
        · rw [if_neg (fun z => by have := z.2; omega)] at o
          rw [o, if_pos g, decide_eq_true q]; rfl
        · rw [if_pos ⟨g, by omega⟩] at o
          rw [o, if_neg (fun z => nI_ne1 hb z.symm), decide_eq_false q]; rfl
      · rw [if_neg (fun z => g z.1)] at o
        rw [o, if_neg g, zq_f.mpr g]
        by_cases f : zBk M b M k = -1
        · rw [zq_t.mpr f, decide_eq_false (show ¬ zSn T b + fb_ct (zq (zBk M b M) (-1)) k < s by omega)]; rfl
        · rw [zq_f.mpr f]; rfl
  · have c' := c
    unfold v_X5_isOfGroup at c'
    rw [if_neg c', (zou_own R I hb c hk).1, (zou_own R I hb c hk).2, hS]
    have e1 : fb_ct (zOw T b) k = fb_ct (fun k => decide (k < zSh M b)) k := fb_ct_cong (fun i hi => (zou_own R I hb c (by omega)).1)
    have e2 : fb_ct (zFr T b) k = fb_ct (fun k => !decide (k < zSh M b)) k := fb_ct_cong (fun i hi => (zou_own R I hb c (by omega)).2)
    rw [e1, e2]
    by_cases d : k < zSh M b
    · rw [decide_eq_true d, zfb_lt' _ _ (by omega)]
      by_cases q : k < s
      · rw [if_neg (nI_ge q (by omega)), decide_eq_true q]; rfl
      · rw [if_pos (nI_le (by omega) (by omega)), decide_eq_false q]; rfl
    · rw [decide_eq_false d, zfb_ge _ _ (by omega)]
      by_cases q : k < s
      · rw [if_neg (nI_ge q (by omega)), decide_eq_true (show zSh M b + (k - zSh M b) < s by omega)]; rfl
      · rw [if_pos (nI_le (by omega) (by omega)), decide_eq_false (show ¬ zSh M b + (k - zSh M b) < s by omega)]; rfl
theorem zSu_b (T : Nat → Nat → Int32) {b p : Nat} (hb : b < 8) : zSu T b p = (!bt (T 12 p) b && (bt (T 11 p) b || (bt (T 4 0) b && bt (T 13 p) b))) := by
  show v_X3_isSure T p b = _
  unfold v_X3_isSure
  have c1 : (T 12 p &&& zp2 b) = 0 ↔ bt (T 12 p) b = false := zan (by omega)
  have c2 : (T 11 p &&& zp2 b) = 0 ↔ bt (T 11 p) b = false := zan (by omega)
  have c3 : ((T 4 0 &&& T 13 p) &&& zp2 b) = 0 ↔ (bt (T 4 0) b && bt (T 13 p) b) = false := by rw [zan (by omega), b_and]
  cases h12 : bt (T 12 p) b
  · rw [if_pos (c1.mpr h12)]
    cases h11 : bt (T 11 p) b
    · rw [if_pos (c2.mpr h11)]
      cases h : (bt (T 4 0) b && bt (T 13 p) b)
      · rw [if_pos (c3.mpr h)]; rfl
      · rw [if_neg (fun z => by rw [c3.mp z] at h; cases h)]; rfl
    · rw [if_neg (fun z => by rw [c2.mp z] at h11; cases h11)]; rfl
  · rw [if_neg (fun z => by rw [c1.mp z] at h12; cases h12)]; rfl
theorem zOu_b (T : Nat → Nat → Int32) {b p : Nat} (hb : b < 8) : v_X3_isHeldOut T p b = bt (T 12 p) b := by
  unfold v_X3_isHeldOut
  rw [zsh1 (by omega)]
  cases bt (T 12 p) b <;> rfl
/-- who eats after the share is set -/
theorem zEs_ok (R : zTw T (M 0)) (I : zI M) (hb : b < 8) (hbr : b < (M 0 1).toNatClampNeg) (op : v_X5_isOpen M b = true) (hs : s ≤ 100) (room : zRoom M b s) (hp : p < 150) : zEt (v_X5_setShare M b s) b p = zEs T b s p := by
  obtain ⟨k1, k2, k3, k4, k5⟩ := zss hb I hbr hs room
  have o0 : v_X5_isOpen (v_X5_setShare M b s) b = v_X5_isOpen M b := by unfold v_X5_isOpen v_X5_of; rw [k2 _ (by omega) (by omega)]
  have o4 : v_X5_of (v_X5_setShare M b s) b 4 = v_X5_of M b 4 := k2 _ (by omega) (by omega)
  have hh : ∀ f, 353 ≤ f → v_X5_isHeld (v_X5_setShare M b s) f p b = v_X5_isHeld M f p b := fun f hf => by unfold v_X5_isHeld; rw [k4 _ (by omega)]
  have sa : v_X5_saltOf (v_X5_setShare M b s) b = v_X5_saltOf M b := by
    unfold v_X5_saltOf v_X5_isOfGroup
    have g1 : v_X5_of (v_X5_setShare M b s) b 1 = v_X5_of M b 1 := k2 _ (by omega) (by omega)
    have g2 : v_X5_of (v_X5_setShare M b s) b 2 = v_X5_of M b 2 := k2 _ (by omega) (by omega)
    rw [g1, g2]
    by_cases c : v_X5_isOfGroup M b = true
    · have hg := znat (zmg c hb (zI_G I))
      have c' := c
      unfold v_X5_isOfGroup at c'
      rw [if_pos c', if_pos c', k2 _ (by have := hg.2; omega) (by have := hg.2; omega)]
    · have c' := c
      unfold v_X5_isOfGroup at c'
      rw [if_neg c', if_neg c']
  have bk : v_X5_bucketBy (nI p) (v_X5_saltOf M b) = zBu T b p := by show _ = v_X4_bucketBy _ _; rw [eq_bucket, eq_salt R I hb]
  unfold zEt v_X5_eatsNow
  rw [o0, hh 503 (by decide), hh 353 (by decide), hh 653 (by decide), o4, sa, bk, if_pos op, eq_out R hp hb, eq_in R hp hb, eq_ate R hp hb, zowS R I hb hbr hs room (v_X5_bucketBy_lt _ _ |> fun h => by rw [bk] at h; exact h), (R.br hb).2.2.2.2.2]
  unfold zEs zMy
  rw [zOu_b T hb, show v_X3_isSure T p b = zSu T b p from rfl, zSu_b T hb]
  have cb : (bI (bt (T 4 0) b) = 1) = (bt (T 4 0) b = true) := propext (bI_1 _)
  simp only [cb]
  cases bt (T 12 p) b <;> cases bt (T 11 p) b <;> cases bt (T 4 0) b <;> cases bt (T 13 p) b <;> cases zin T b s (zBu T b p) <;> rfl
end EO
