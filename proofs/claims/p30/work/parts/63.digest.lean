theorem zad_X0 (cI : ClassId) (h : Nat → Nat) (T : Nat → Nat → Int32) : (zB_X0 cI h T).map Prod.fst = [h 0, h 1] := rfl
theorem zad_X2 (cI : ClassId) (h : Nat → Nat) (T : Nat → Nat → Int32) : (zB_X2 cI h T).map Prod.fst = [h 0, h 1, h 4, h 5] := rfl
theorem zad_X3 (cI : ClassId) (h : Nat → Nat) (T : Nat → Nat → Int32) : (zB_X3 cI h T).map Prod.fst = [h 0, h 6, h 7, h 8, h 9, h 10, h 11, h 12, h 13, h 14, h 15] := rfl
theorem zad_X5 (cI : ClassId) (h : Nat → Nat) (T : Nat → Nat → Int32) (w : Int64) : (zB_X5 cI h T w).map Prod.fst = [h 0, h 1, h 3, h 5, h 7, h 8, h 12] := rfl
theorem zad_X1 (cT : ClassId) (u t0 t1 t2 t3 t4 t5 : Nat → Nat) (Z : Nat → Nat → Int32) : (zB_X1 cT u t0 t1 t2 t3 t4 t5 Z).map Prod.fst = [u 0, u 3] := rfl
theorem zad_X4 (f h u o x : Nat → Nat) : (zB_X4 f h u o x).map Prod.fst = [f 0] := rfl
