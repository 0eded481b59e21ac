def v_L_share_26 (I : Nat → Nat → Int32) (b : Nat) (I1 : Nat → Nat → Int32) (Q1 : Nat → Nat → Int64) : Nat → Nat → Nat
  | 0, _ => (0)
  | n + 1, k => (if 0 ≤ (I 1 (6 * b + 1)) then (if (v_L_free I1 Q1 (I 1 (6 * b + 1)) k) = true then k else v_L_share_26 I b I1 Q1 n (k + 1)) else (if (v_L_has_0 Q1 2 b k) = true then v_L_share_26 I b I1 Q1 n (k + 1) else k))
def v_L_share_10 (I : Nat → Nat → Int32) (b : Nat) (sh : Nat) : Nat → (Nat → Nat → Int32) → (Nat → Nat → Int64) → (Nat → Nat → Int32) × (Nat → Nat → Int64)
  | 0, _, _ => ((fun _ _ => 0), (fun _ _ => 0))
  | n + 1, I1, Q1 => (if (nI sh) ≤ (I1 1 (6 * b + 3)) then (I1, Q1) else v_L_share_10 I b sh n (zU I1 1 (upd (I1 1) (6 * b + 3) ((I1 1 (6 * b + 3)) + 1))) (v_L_put_0 Q1 2 b (v_L_share_26 I b I1 Q1 101 0) true))
def v_L_share_105 (b : Nat) (Q1 : Nat → Nat → Int64) : Nat → Int32 → Int32
  | 0, _ => (0)
  | n + 1, k => (if (v_L_has_0 Q1 2 b (Int32.toNatClampNeg k)) = true then (nI (Int32.toNatClampNeg k)) else v_L_share_105 b Q1 n ((nI (Int32.toNatClampNeg k)) + (-1)))
def v_L_share_88 (b : Nat) (sh : Nat) : Nat → (Nat → Nat → Int32) → (Nat → Nat → Int64) → (Nat → Nat → Int32) × (Nat → Nat → Int64)
  | 0, _, _ => ((fun _ _ => 0), (fun _ _ => 0))
  | n + 1, I1, Q1 => (if (I1 1 (6 * b + 3)) ≤ (nI sh) then (I1, Q1) else v_L_share_88 b sh n (zU I1 1 (upd (I1 1) (6 * b + 3) ((I1 1 (6 * b + 3)) - 1))) (v_L_put_0 Q1 2 b (Int32.toNatClampNeg (v_L_share_105 b Q1 100 99)) false))
def v_L_share (I : Nat → Nat → Int32) (Q : Nat → Nat → Int64) (b : Nat) (sh : Nat) : (Nat → Nat → Int32) × (Nat → Nat → Int64) := ((v_L_share_88 b sh 101 ((v_L_share_10 I b sh 101 I Q).1) ((v_L_share_10 I b sh 101 I Q).2)).1, (v_L_share_88 b sh 101 ((v_L_share_10 I b sh 101 I Q).1) ((v_L_share_10 I b sh 101 I Q).2)).2)
