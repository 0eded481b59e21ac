theorem zst_c {M : Nat → Nat → Int32} {b to : Nat} (hb : b < 8) (i : zI M) (hto : to ≤ 100) (hbr : b < (M 0 1).toNatClampNeg) (h : v_X5_canRaise M b (nI to) = true ∨ v_X5_canLower M b (nI to) = true) :
    v_X5_layBack (v_X5_setShare ((v_X5_keepShare M b).2) b to) b ((v_X5_keepShare M b).1) 0 = M 0 ∧ ∀ k, k ≠ 0 → k ≠ 11 → v_X5_layBack (v_X5_setShare ((v_X5_keepShare M b).2) b to) b ((v_X5_keepShare M b).1) k = M k := by
  have s := zssk hb i hbr hto h
  refine ⟨funext fun j => ?_, fun k h0 h11 => by rw [zlb_f _ hb _ h0, s.1 k h0, zks_f M b h11]⟩
  rw [zlb_0 _ hb]
  by_cases c : 53 ≤ j ∧ j < 353
  · rw [if_pos c, s.1 11 (by decide), zks_11 M b (by omega), show 53 + (j - 53) = j by omega]
  · rw [if_neg c]
    by_cases d : j = 5 + (6 * b) + 3
    · rw [if_pos d, zks_1, d]; rfl
    · rw [if_neg d]
      by_cases f : j < 53
      · rw [s.2.1 j f d, zks_f M b (by decide)]
      · rw [s.2.2.2.1 j (by omega), zks_f M b (by decide)]
theorem zst_all {M : Nat → Nat → Int32} {b to : Nat} (hb : b < 8) (i : zI M) (hto : to ≤ 100) (hbr : b < (M 0 1).toNatClampNeg) : (v_X5_sharedThen M b to).2 0 = M 0 ∧ ∀ k, k ≠ 0 → k ≠ 11 → (v_X5_sharedThen M b to).2 k = M k := by
  by_cases c1 : v_X5_canRaise M b (nI to) = true
  · have e : (v_X5_sharedThen M b to).2 = v_X5_layBack (v_X5_setShare ((v_X5_keepShare M b).2) b to) b ((v_X5_keepShare M b).1) := by
      unfold v_X5_sharedThen; rw [if_pos c1]
    rw [e]; exact zst_c hb i hto hbr (Or.inl c1)
  · by_cases c2 : v_X5_canLower M b (nI to) = true
    · have e : (v_X5_sharedThen M b to).2 = v_X5_layBack (v_X5_setShare ((v_X5_keepShare M b).2) b to) b ((v_X5_keepShare M b).1) := by
        unfold v_X5_sharedThen; rw [if_neg c1, if_pos c2]
      rw [e]; exact zst_c hb i hto hbr (Or.inr c2)
    · have e : (v_X5_sharedThen M b to).2 = M := by
        unfold v_X5_sharedThen; rw [if_neg c1, if_neg c2]
      rw [e]; exact ⟨rfl, fun _ _ _ => rfl⟩
theorem zmsa {x : Int32} (h : v_X5_isSalt x = true) : vp_in x 10000 := zwithin_in (hi := 9999) h (by decide)
