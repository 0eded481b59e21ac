section PX
variable {Z T0 T1 T2 T3 T4 T5 T M I : Nat → Nat → Int32} {Q : Nat → Nat → Int64} {yy : Int32}
theorem zpo_pass (P : zPI Z T M I Q) (yy : Int32) : e_X4_pass Z T0 T1 T2 T3 T4 T5 T (nI ((1 : Int32) + v_L_at yy 3).toNatClampNeg) = none := sorry
theorem zpo_pass2 (P : zPI Z T M I Q) : (v_X4_pass Z T0 T1 T2 T3 T4 T5 T (nI ((1 : Int32) + v_L_at yy 3).toNatClampNeg)).1 = nI (v_L_persons_29 yy 4 0 0 I Q).1 := sorry
end PX
