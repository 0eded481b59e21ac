/-! pass; digest -/
section EV
variable {Z T0 T1 T2 T3 T4 T5 T X M N O : Nat → Nat → Int32}
theorem em_pass (V : zInv Z T0 T1 T2 T3 T4 T5 T X M) (d : Int32) :
    (e_X4_pass Z T0 T1 T2 T3 T4 T5 T d = none ∧ (v_X5_pass M d).2 5 0 = 0 ∧ (v_X4_pass Z T0 T1 T2 T3 T4 T5 T d).1 = (v_X5_pass M d).1 ∧ ∃ Z' U0 U1 U2 U3 U4 U5 T', (v_X4_pass Z T0 T1 T2 T3 T4 T5 T d).2 = (Z', U0, U1, U2, U3, U4, U5, T') ∧ zInv Z' U0 U1 U2 U3 U4 U5 T' X (v_X5_pass M d).2) ∨
    (e_X4_pass Z T0 T1 T2 T3 T4 T5 T d = some zIA ∧ (v_X5_pass M d).2 5 0 = 1 ∧ zInv Z T0 T1 T2 T3 T4 T5 T X (v_X5_pass M d).2) := by
  unfold e_X4_pass v_X5_pass
  by_cases c : v_X5_within d 1 50 = true
  · left
    have c2 := zcanCut.mp c
    obtain ⟨ed, hd⟩ := znat (zw50 c)
    have h0 : 0 < d.toNatClampNeg := by
      rcases Nat.eq_zero_or_pos d.toNatClampNeg with z | z
      · have := c2.1
        rw [ed, z] at this; exact absurd this (by decide)
      · exact z
    rw [if_pos c, if_neg (show ¬ d < 1 from fun z => by have := c2.1; rw [Int32.le_iff_toInt_le] at this; rw [Int32.lt_iff_toInt_lt] at z; omega), if_pos c2.2]
    obtain ⟨Z', U0, U1, U2, U3, U4, U5, es, V1⟩ := eq_save V (fun _ => 0)
    have hp := eq_pass V1.tw V1.ro (show d.toNatClampNeg ≤ 50 by omega) h0
    have fr := zps_I (days := d.toNatClampNeg) V1.ro (by omega)
    rw [← ed] at hp
    refine ⟨rfl, ?_, ?_, Z', U0, U1, U2, U3, U4, U5, v_X3_letPass T d, ?_, zInv_tw V1 hp.1 fr.1 fr.2⟩
    · dsimp only; rw [fr.2 5 (by decide), zse5 V.hi.1]
    · unfold v_X4_pass; dsimp only; exact hp.2
    · unfold v_X4_pass; rw [es]
  · right
    have c2 : ¬ (1 ≤ d ∧ d ≤ 50) := fun z => c (zcanCut.mpr z)
    rw [if_neg c]
    by_cases e : d < 1
    · rw [if_pos e]; exact ⟨rfl, rfl, zInv5 V _⟩
    · rw [if_neg e, if_neg (fun z => c2 ⟨by rw [Int32.le_iff_toInt_le]; rw [Int32.lt_iff_toInt_lt] at e; omega, z⟩)]; exact ⟨rfl, rfl, zInv5 V _⟩
end EV
