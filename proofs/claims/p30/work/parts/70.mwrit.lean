/-! the reference's writers -/
theorem zwithin {v lo hi : Int32} (h : v_X5_within v lo hi = true) : ¬ v < lo ∧ ¬ hi < v := by
  unfold v_X5_within at h
  by_cases c1 : v < lo
  · rw [if_pos c1] at h; cases h
  · rw [if_neg c1] at h
    by_cases c2 : hi < v
    · rw [if_pos c2] at h; cases h
    · exact ⟨c1, c2⟩
theorem zle_toInt {a b : Int32} (h : ¬ a < b) : b.toInt ≤ a.toInt := by
  have h2 : ¬ a.toInt < b.toInt := fun q => h (Int32.lt_iff_toInt_lt.mpr q)
  omega
theorem zwithin_in {v hi : Int32} {n : Nat} (h : v_X5_within v 0 hi = true) (hn : hi.toInt < n) : vp_in v n := by
  obtain ⟨h1, h2⟩ := zwithin h
  have := zle_toInt h2
  exact zin_dn h1 (by omega)
theorem zmp {x : Int32} (h : v_X5_isPerson x = true) : vp_in x 150 := zwithin_in (hi := 149) h (by decide)
theorem zmsh {x : Int32} (h : v_X5_isShare x = true) : vp_in x 101 := zwithin_in (hi := 100) h (by decide)
theorem zmgr {x : Int32} (h : v_X5_isGroup x = true) : vp_in x 3 := zwithin_in (hi := 2) h (by decide)
theorem zsub1 : ∀ j : Nat, j < 9 → (nI j - 1).toInt = (j : Int) - 1 := by decide
theorem zmb {M : Nat → Nat → Int32} {x : Int32} (h : v_X5_isBread M x = true) (hB : vp_in (M 0 1) 9) : vp_in x 8 := by
  obtain ⟨j, hj, e⟩ := vp_in_of hB (by decide)
  unfold v_X5_isBread at h
  rw [e] at h
  exact zwithin_in h (by rw [zsub1 j hj]; omega)
/-- how many places from off hold x -/
def zct (f : Nat → Int32) (x : Int32) (off : Nat) : Nat → Nat
  | 0 => 0
  | n + 1 => zct f x off n + (if f (off + n) = x then 1 else 0)
/-- a good row: breads 0..8; groups -1..2; shares 0..100; a bread's share is the number of its own buckets; no bucket is of a bread that is not there -/
def zRow (r : Nat → Int32) : Prop := vp_in (r 1) 9 ∧ (∀ b : Nat, b < 8 → (r (5 + 6 * b + 1) = -1 ∨ vp_in (r (5 + 6 * b + 1)) 3) ∧ vp_in (r (5 + 6 * b + 3)) 101 ∧
  (vp_in (r (5 + 6 * b + 1)) 3 → (r (5 + 6 * b + 3)).toNatClampNeg = zct r (nI b) (53 + 100 * (r (5 + 6 * b + 1)).toNatClampNeg) 100)) ∧
  (∀ k : Nat, k < 300 → r (53 + k) = -1 ∨ ∃ b : Nat, b < (r 1).toNatClampNeg ∧ r (53 + k) = nI b)
def zI (M : Nat → Nat → Int32) : Prop := zRow (M 0)
theorem zI_row {M N : Nat → Nat → Int32} (h : N 0 = M 0) (i : zI M) : zI N := by unfold zI at *; rw [h]; exact i
theorem zI_G {M : Nat → Nat → Int32} (i : zI M) : zG M := fun b hb => (i.2.1 b hb).1
theorem zI_B {M : Nat → Nat → Int32} (i : zI M) : vp_in (M 0 1) 9 := i.1
def v_X5_save_54  : Nat → Nat → (Nat → Nat → Int32) → (Nat → Nat → Int32)
  | 0, _, _ => ((fun _ _ => 0))
  | n + 1, i, M1 => (if 954 ≤ i then zU M1 1 (fun _ => ((M1 1 0) + 1)) else v_X5_save_54 n (i + 1) (zU M1 2 (upd (M1 2) (954 * (Int32.toNatClampNeg (M1 1 0)) + i) (M1 0 i))))
def v_X5_save_54b  : Nat → Nat → (Nat → Nat → Int32) → (Nat → Nat → Int32)
  | 0, _, _ => ((fun _ _ => 0))
  | n + 1, i, M1' => (if 954 ≤ i then zU M1' 1 (fun _ => ((M1' 1 0) + 1)) else v_X5_save_54b n (i + 1) (zU M1' 2 (upd (M1' 2) (954 * (Int32.toNatClampNeg (M1' 1 0)) + i) (M1' 0 i))))
def v_X5_save_13  : Nat → Nat → (Nat → Nat → Int32) → (Nat → Nat → Int32)
  | 0, _, _ => ((fun _ _ => 0))
  | n + 1, k, M1 => (if 5724 ≤ k then v_X5_save_54b 955 0 (zU M1 1 (fun _ => ((M1 1 0) - 1))) else v_X5_save_13 n (k + 1) (zU M1 2 (upd (M1 2) (k - 954) (M1 2 k))))
def v_X5_save (M : Nat → Nat → Int32) : (Nat → Nat → Int32) := (if (M 1 0) = 6 then v_X5_save_13 4771 954 M else v_X5_save_54 955 0 M)
def v_X5_put (M : Nat → Nat → Int32) (b : Nat) (k : Nat) (x : Int32) : (Nat → Nat → Int32) := zU M 0 (upd (M 0) (5 + (6 * b) + k) x)
def v_X5_canHold (M : Nat → Nat → Int32) (xx : Int32) : Bool := (if (v_X5_isBread M xx) = true then (if (v_X5_isOpen M (Int32.toNatClampNeg xx)) = true then true else false) else false)
def v_X5_layAhead_2 (b : Nat) : Nat → Nat → (Nat → Nat → Int32) → (Nat → Nat → Int32)
  | 0, _, _ => ((fun _ _ => 0))
  | n + 1, i, M1 => (if 150 ≤ i then M1 else (if (v_X5_eatsNow M1 i b) ≤ 0 then v_X5_layAhead_2 b n (i + 1) (zU M1 6 (upd (M1 6) i 0)) else v_X5_layAhead_2 b n (i + 1) (zU M1 6 (upd (M1 6) i 1))))
def v_X5_layAhead (M : Nat → Nat → Int32) (b : Nat) : (Nat → Nat → Int32) := v_X5_layAhead_2 b 151 0 M
def v_X5_holds (M : Nat → Nat → Int32) (pe : Nat) (b : Nat) (isin : Int32) (isout : Int32) : (Nat → Nat → Int32) := zU M 0 (upd (upd (M 0) (353 + pe) (((M 0 (353 + pe)) &&& (((1 : Int32) <<< ((nI b) &&& 31)) ^^^ (-1))) ||| (isin <<< ((nI b) &&& 31)))) (503 + pe) ((((upd (M 0) (353 + pe) (((M 0 (353 + pe)) &&& (((1 : Int32) <<< ((nI b) &&& 31)) ^^^ (-1))) ||| (isin <<< ((nI b) &&& 31)))) (503 + pe)) &&& (((1 : Int32) <<< ((nI b) &&& 31)) ^^^ (-1))) ||| (isout <<< ((nI b) &&& 31))))
def v_X5_keepShare_2 (b : Nat) : Nat → Nat → (Nat → Nat → Int32) → Int32 × (Nat → Nat → Int32)
  | 0, _, _ => (0, (fun _ _ => 0))
  | n + 1, i, M1 => (if 300 ≤ i then ((v_X5_of M1 b 3), M1) else v_X5_keepShare_2 b n (i + 1) (zU M1 11 (upd (M1 11) i (M1 0 (53 + i)))))
def v_X5_keepShare (M : Nat → Nat → Int32) (b : Nat) : Int32 × (Nat → Nat → Int32) := v_X5_keepShare_2 b 301 0 M
def v_X5_layBack_2 (b : Nat) (sh : Int32) : Nat → Nat → (Nat → Nat → Int32) → (Nat → Nat → Int32)
  | 0, _, _ => ((fun _ _ => 0))
  | n + 1, i, M1 => (if 300 ≤ i then v_X5_put M1 b 3 sh else v_X5_layBack_2 b sh n (i + 1) (zU M1 0 (upd (M1 0) (53 + i) (M1 11 i))))
def v_X5_layBack (M : Nat → Nat → Int32) (b : Nat) (sh : Int32) : (Nat → Nat → Int32) := v_X5_layBack_2 b sh 301 0 M
