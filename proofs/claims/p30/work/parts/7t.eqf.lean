/-! SHARES: the lowest free buckets taken, the highest own ones lost -/
/-- in a block of a hundred -/
def zq (f : Nat → Int32) (x : Int32) (i : Nat) : Bool := decide (f i = x)
/-- the m lowest free ones taken -/
def zUp (b m : Nat) (f : Nat → Int32) (j : Nat) : Int32 := if f j = -1 ∧ fb_ct (zq f (-1)) j < m then nI b else f j
/-- the m highest own ones lost -/
def zDn (b m : Nat) (f : Nat → Int32) (j : Nat) : Int32 := if f j = nI b ∧ fb_ct (zq f (nI b)) 100 < fb_ct (zq f (nI b)) (j + 1) + m then -1 else f j
theorem zq_t {f : Nat → Int32} {x : Int32} {i : Nat} : zq f x i = true ↔ f i = x := by unfold zq; simp
theorem zq_f {f : Nat → Int32} {x : Int32} {i : Nat} : zq f x i = false ↔ ¬ f i = x := by unfold zq; simp
theorem zct_fb (f : Nat → Int32) (x : Int32) (off : Nat) : ∀ n, zct f x off n = fb_ct (zq (fun j => f (off + j)) x) n
  | 0 => rfl
  | n + 1 => by
    rw [zct, fb_ct_succ, zct_fb f x off n]
    by_cases c : f (off + n) = x
    · rw [if_pos c, (zq_t (f := fun j => f (off + j))).mpr c]; rfl
    · rw [if_neg c, (zq_f (f := fun j => f (off + j))).mpr c]; rfl
theorem zfb_up {b m : Nat} (hb : b < 8) (f : Nat → Int32) : ∀ j, fb_ct (zq (zUp b m f) (-1)) j = fb_ct (zq f (-1)) j - m
  | 0 => (Nat.zero_sub m).symm
  | j + 1 => by
    rw [fb_ct_succ, fb_ct_succ, zfb_up hb f j]
    by_cases c : f j = -1
    · by_cases d : fb_ct (zq f (-1)) j < m
      · rw [zq_t.mpr c, zq_f.mpr (show ¬ zUp b m f j = -1 by unfold zUp; rw [if_pos ⟨c, d⟩]; exact nI_ne1 hb)]; simp; omega
      · rw [zq_t.mpr c, zq_t.mpr (show zUp b m f j = -1 by unfold zUp; rw [if_neg (fun z => d z.2)]; exact c)]; simp; omega
    · rw [zq_f.mpr c, zq_f.mpr (show ¬ zUp b m f j = -1 by unfold zUp; rw [if_neg (fun z => c z.1)]; exact c)]; simp
theorem zUp_0 (b : Nat) (f : Nat → Int32) (j : Nat) : zUp b 0 f j = f j := by unfold zUp; rw [if_neg (fun z => Nat.not_lt_zero _ z.2)]
theorem zUp_add {b m k : Nat} (hb : b < 8) (f : Nat → Int32) (j : Nat) : zUp b k (zUp b m f) j = zUp b (m + k) f j := by
  have e := zfb_up (m := m) hb f j
  unfold zUp at e ⊢
  by_cases c : f j = -1
  · by_cases d : fb_ct (zq f (-1)) j < m
    · rw [if_pos (⟨c, d⟩ : f j = -1 ∧ fb_ct (zq f (-1)) j < m), if_neg (fun z => nI_ne1 hb z.1), if_pos ⟨c, by omega⟩]
    · rw [if_neg (fun z => d z.2 : ¬ (f j = -1 ∧ fb_ct (zq f (-1)) j < m)), e]
      by_cases g : fb_ct (zq f (-1)) j < m + k
      · rw [if_pos ⟨c, by omega⟩, if_pos ⟨c, g⟩]
      · rw [if_neg (fun z => g (by omega)), if_neg (fun z => g z.2)]
  · rw [if_neg (fun z => c z.1 : ¬ (f j = -1 ∧ fb_ct (zq f (-1)) j < m)), if_neg (fun z => c z.1), if_neg (fun z => c z.1)]
theorem zUp_cong {b m : Nat} {f g : Nat → Int32} {j : Nat} (h : ∀ i, i ≤ j → f i = g i) : zUp b m f j = zUp b m g j := by
  unfold zUp
  rw [h j (Nat.le_refl _), fb_ct_cong (p := zq f (-1)) (q := zq g (-1)) (fun i hi => by unfold zq; rw [h i (by omega)])]
/-- one bucket: the lowest free one -/
theorem zUp_1 {b t : Nat} {f : Nat → Int32} (h : f t = -1) (lo : ∀ i, i < t → f i ≠ -1) (j : Nat) : (if j = t then nI b else f j) = zUp b 1 f j := by
  unfold zUp
  have z : fb_ct (zq f (-1)) t = 0 := fb_ct_zero.mpr (fun k hk => zq_f.mpr (lo k hk))
  by_cases c : j = t
  · subst c
    rw [if_pos rfl, if_pos ⟨h, by omega⟩]
  · rw [if_neg c]
    by_cases d : f j = -1
    · rcases Nat.lt_or_ge j t with q | q
      · exact absurd d (lo j q)
      · have m := fb_ct_mono (zq f (-1)) (show t + 1 ≤ j by omega)
        rw [fb_ct_succ, zq_t.mpr h, z] at m
        rw [if_neg (fun y => by have := y.2; simp at m; omega)]
    · rw [if_neg (fun y => d y.1)]
/-- what is left above, after m are lost -/
theorem zfb_dn {b m : Nat} (hb : b < 8) (f : Nat → Int32) (hm : m ≤ fb_ct (zq f (nI b)) 100) : ∀ j, j ≤ 100 → fb_ct (zq (zDn b m f) (nI b)) j = min (fb_ct (zq f (nI b)) j) (fb_ct (zq f (nI b)) 100 - m)
  | 0, _ => by simp [fb_ct]
  | j + 1, hj => by
    have mo := fb_ct_mono (zq f (nI b)) (show j + 1 ≤ 100 from hj)
    have e := fb_ct_succ (zq f (nI b)) j
    rw [fb_ct_succ, fb_ct_succ, zfb_dn hb f hm j (by omega)]
    by_cases c : f j = nI b
    · rw [zq_t.mpr c] at e
      simp only [if_true] at e
      by_cases d : fb_ct (zq f (nI b)) 100 < fb_ct (zq f (nI b)) (j + 1) + m
      · rw [zq_t.mpr c, zq_f.mpr (show ¬ zDn b m f j = nI b by unfold zDn; rw [if_pos ⟨c, d⟩]; exact (nI_ne1 hb).symm)]; simp; omega
      · rw [zq_t.mpr c, zq_t.mpr (show zDn b m f j = nI b by unfold zDn; rw [if_neg (fun z => d z.2)]; exact c)]; simp; omega
    · rw [zq_f.mpr c, zq_f.mpr (show ¬ zDn b m f j = nI b by unfold zDn; rw [if_neg (fun z => c z.1)]; exact c)]; simp
theorem zDn_0 (b : Nat) (f : Nat → Int32) {j : Nat} (hj : j < 100) : zDn b 0 f j = f j := by
  unfold zDn; rw [if_neg (fun z => by have := fb_ct_mono (zq f (nI b)) (show j + 1 ≤ 100 from hj); omega)]
theorem zDn_add {b m k : Nat} (hb : b < 8) (f : Nat → Int32) (hm : m + k ≤ fb_ct (zq f (nI b)) 100) {j : Nat} (hj : j < 100) : zDn b k (zDn b m f) j = zDn b (m + k) f j := by
  have e1 := zfb_dn hb f (show m ≤ fb_ct (zq f (nI b)) 100 by omega) (j + 1) hj
  have e2 := zfb_dn hb f (show m ≤ fb_ct (zq f (nI b)) 100 by omega) 100 (Nat.le_refl _)
  have mo := fb_ct_mono (zq f (nI b)) (show j + 1 ≤ 100 from hj)
  rw [zDn, e1, e2]
  have hd : zDn b m f j = if f j = nI b ∧ fb_ct (zq f (nI b)) 100 < fb_ct (zq f (nI b)) (j + 1) + m then -1 else f j := rfl
  rw [hd, zDn]
  by_cases c : f j = nI b
  · by_cases d : fb_ct (zq f (nI b)) 100 < fb_ct (zq f (nI b)) (j + 1) + m
    · rw [if_pos (⟨c, d⟩ : f j = nI b ∧ fb_ct (zq f (nI b)) 100 < fb_ct (zq f (nI b)) (j + 1) + m), if_neg (fun z => nI_ne1 hb z.1.symm), if_pos ⟨c, by omega⟩]
    · rw [if_neg (fun z => d z.2 : ¬ (f j = nI b ∧ fb_ct (zq f (nI b)) 100 < fb_ct (zq f (nI b)) (j + 1) + m))]
      by_cases g : fb_ct (zq f (nI b)) 100 < fb_ct (zq f (nI b)) (j + 1) + (m + k)
      · rw [if_pos ⟨c, by omega⟩, if_pos ⟨c, g⟩]
      · rw [if_neg (fun z => g (by omega)), if_neg (fun z => g z.2)]
  · rw [if_neg (fun z => c z.1 : ¬ (f j = nI b ∧ fb_ct (zq f (nI b)) 100 < fb_ct (zq f (nI b)) (j + 1) + m)), if_neg (fun z => c z.1), if_neg (fun z => c z.1)]
theorem zDn_1 {b t : Nat} {f : Nat → Int32} (ht : t < 100) (h : f t = nI b) (hi : ∀ i, t < i → i < 100 → f i ≠ nI b) {j : Nat} (hj : j < 100) : (if j = t then -1 else f j) = zDn b 1 f j := by
  unfold zDn
  have z : fb_ct (zq f (nI b)) 100 = fb_ct (zq f (nI b)) (t + 1) := by
    have s := fb_ct_split (zq f (nI b)) (t + 1) (99 - t)
    rw [show t + 1 + (99 - t) = 100 by omega] at s
    rw [s, fb_ct_zero.mpr (fun k hk => zq_f.mpr (hi _ (by omega) (by omega)) : ∀ k, k < 99 - t → (fun k => zq f (nI b) (t + 1 + k)) k = false), Nat.add_zero]
  by_cases c : j = t
  · subst c
    rw [if_pos rfl, if_pos ⟨h, by omega⟩]
  · rw [if_neg c]
    by_cases d : f j = nI b
    · rcases Nat.lt_or_ge t j with q | q
      · exact absurd d (hi j q hj)
      · have m := fb_ct_mono (zq f (nI b)) (show j + 1 ≤ t by omega)
        have s := fb_ct_succ (zq f (nI b)) t
        rw [zq_t.mpr h] at s
        simp only [if_true] at s
        rw [if_neg (fun y => by have := y.2; omega)]
    · rw [if_neg (fun y => d y.1)]
theorem zDn_cong {b m : Nat} {f g : Nat → Int32} {j : Nat} (hj : j < 100) (h : ∀ i, i < 100 → f i = g i) : zDn b m f j = zDn b m g j := by
  unfold zDn
  rw [h j hj, fb_ct_cong (p := zq f (nI b)) (q := zq g (nI b)) (n := 100) (fun i hi => by unfold zq; rw [h i hi]), fb_ct_cong (p := zq f (nI b)) (q := zq g (nI b)) (n := j + 1) (fun i hi => by unfold zq; rw [h i (by omega)])]
