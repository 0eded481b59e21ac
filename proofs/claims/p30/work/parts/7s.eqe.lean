/-! WHAT WRITES THE TOWN AND THE ROW -/
theorem zshl0 {b : Nat} (hb : b < 32) : (0 : Int32) <<< ((nI b) &&& 31) = 0 := b_ext fun i hi => by rw [b_shl b hb 0 hi, b_0, b_0, Bool.and_false]
section EQ5
variable {T T' M N : Nat → Nat → Int32} {r r' : Nat → Int32} {b p : Nat}
theorem zTw_salt (R : zTw T r) (hb : b < 8) (x : Int32) : zTw (zU T 6 (upd (T 6) b x)) (upd r (5 + 6 * b + 2) x) := by
  obtain ⟨⟨a1, a2, a3⟩, B, C, D, E, F, G⟩ := R
  refine ⟨⟨by (simp only [zU, upd]; repeat (first | rw [if_pos (by omega)] | rw [if_neg (by omega)])); exact a1, by (simp only [zU, upd]; repeat (first | rw [if_pos (by omega)] | rw [if_neg (by omega)])); exact a2, ?_⟩, fun g hg => by (simp only [zU, upd]; repeat (first | rw [if_pos (by omega)] | rw [if_neg (by omega)])); exact B g hg, fun k hk => by (simp only [zU, upd]; repeat (first | rw [if_pos (by omega)] | rw [if_neg (by omega)])); exact C k hk, fun p hp => ?_, fun b' hb' => ?_, by (simp only [zU, upd]; repeat (first | rw [if_pos (by omega)] | rw [if_neg (by omega)])); exact F, fun b' hb' h => ?_⟩
  · show T 2 0 = _
    rw [a3]; exact zsu_cong 150 0 (fun j _ hj => by (simp only [zU, upd]; repeat (first | rw [if_pos (by omega)] | rw [if_neg (by omega)])))
  · have d := D p hp
    exact ⟨⟨by (simp only [zU, upd]; repeat (first | rw [if_pos (by omega)] | rw [if_neg (by omega)])); exact d.1.1, by (simp only [zU, upd]; repeat (first | rw [if_pos (by omega)] | rw [if_neg (by omega)])); exact d.1.2.1, by (simp only [zU, upd]; repeat (first | rw [if_pos (by omega)] | rw [if_neg (by omega)])); exact d.1.2.2.1, by (simp only [zU, upd]; repeat (first | rw [if_pos (by omega)] | rw [if_neg (by omega)])); exact d.1.2.2.2⟩, by (simp only [zU, upd]; repeat (first | rw [if_pos (by omega)] | rw [if_neg (by omega)])); exact d.2.1, by (simp only [zU, upd]; repeat (first | rw [if_pos (by omega)] | rw [if_neg (by omega)])); exact d.2.2.1, by (simp only [zU, upd]; repeat (first | rw [if_pos (by omega)] | rw [if_neg (by omega)])); exact d.2.2.2⟩
  · have e := E b' hb'
    refine ⟨by (simp only [zU, upd]; repeat (first | rw [if_pos (by omega)] | rw [if_neg (by omega)])); exact e.1, ?_, by (simp only [zU, upd]; repeat (first | rw [if_pos (by omega)] | rw [if_neg (by omega)])); exact e.2.2.1, by (simp only [zU, upd]; repeat (first | rw [if_pos (by omega)] | rw [if_neg (by omega)])); exact e.2.2.2.1, by (simp only [zU, upd]; repeat (first | rw [if_pos (by omega)] | rw [if_neg (by omega)])); exact e.2.2.2.2.1, by (simp only [zU, upd]; repeat (first | rw [if_pos (by omega)] | rw [if_neg (by omega)])); exact e.2.2.2.2.2⟩
    by_cases c : b' = b
    · subst c; rw [zU_s, zupd_s, zupd_s]
    · rw [zU_s, zupd_n _ _ c, zupd_n _ _ (by omega)]; exact e.2.1
  · have h2 : (r 1).toNatClampNeg ≤ b' := by
      have e : upd r (5 + 6 * b + 2) x 1 = r 1 := by (simp only [zU, upd]; repeat (first | rw [if_pos (by omega)] | rw [if_neg (by omega)]))
      rw [e] at h; exact h
    exact G b' hb' h2
theorem zTw_gsalt (R : zTw T r) {g : Nat} (hg : g < 3) (x : Int32) : zTw (zU T 9 (upd (T 9) g x)) (upd r (2 + g) x) := by
  obtain ⟨⟨a1, a2, a3⟩, B, C, D, E, F, G⟩ := R
  refine ⟨⟨by (simp only [zU, upd]; repeat (first | rw [if_pos (by omega)] | rw [if_neg (by omega)])); exact a1, by (simp only [zU, upd]; repeat (first | rw [if_pos (by omega)] | rw [if_neg (by omega)])); exact a2, ?_⟩, fun g' hg' => ?_, fun k hk => by (simp only [zU, upd]; repeat (first | rw [if_pos (by omega)] | rw [if_neg (by omega)])); exact C k hk, fun p hp => ?_, fun b' hb' => ?_, by (simp only [zU, upd]; repeat (first | rw [if_pos (by omega)] | rw [if_neg (by omega)])); exact F, fun b' hb' h => ?_⟩
  · show T 2 0 = _
    rw [a3]; exact zsu_cong 150 0 (fun j _ hj => by (simp only [zU, upd]; repeat (first | rw [if_pos (by omega)] | rw [if_neg (by omega)])))
  · by_cases c : g' = g
    · subst c; rw [zU_s, zupd_s, zupd_s]
    · rw [zU_s, zupd_n _ _ c, zupd_n _ _ (by omega)]; exact B g' hg'
  · have d := D p hp
    exact ⟨⟨by (simp only [zU, upd]; repeat (first | rw [if_pos (by omega)] | rw [if_neg (by omega)])); exact d.1.1, by (simp only [zU, upd]; repeat (first | rw [if_pos (by omega)] | rw [if_neg (by omega)])); exact d.1.2.1, by (simp only [zU, upd]; repeat (first | rw [if_pos (by omega)] | rw [if_neg (by omega)])); exact d.1.2.2.1, by (simp only [zU, upd]; repeat (first | rw [if_pos (by omega)] | rw [if_neg (by omega)])); exact d.1.2.2.2⟩, by (simp only [zU, upd]; repeat (first | rw [if_pos (by omega)] | rw [if_neg (by omega)])); exact d.2.1, by (simp only [zU, upd]; repeat (first | rw [if_pos (by omega)] | rw [if_neg (by omega)])); exact d.2.2.1, by (simp only [zU, upd]; repeat (first | rw [if_pos (by omega)] | rw [if_neg (by omega)])); exact d.2.2.2⟩
  · have e := E b' hb'
    exact ⟨by (simp only [zU, upd]; repeat (first | rw [if_pos (by omega)] | rw [if_neg (by omega)])); exact e.1, by (simp only [zU, upd]; repeat (first | rw [if_pos (by omega)] | rw [if_neg (by omega)])); exact e.2.1, by (simp only [zU, upd]; repeat (first | rw [if_pos (by omega)] | rw [if_neg (by omega)])); exact e.2.2.1, by (simp only [zU, upd]; repeat (first | rw [if_pos (by omega)] | rw [if_neg (by omega)])); exact e.2.2.2.1, by (simp only [zU, upd]; repeat (first | rw [if_pos (by omega)] | rw [if_neg (by omega)])); exact e.2.2.2.2.1, by (simp only [zU, upd]; repeat (first | rw [if_pos (by omega)] | rw [if_neg (by omega)])); exact e.2.2.2.2.2⟩
  · have h2 : (r 1).toNatClampNeg ≤ b' := by
      have e : upd r (2 + g) x 1 = r 1 := by (simp only [zU, upd]; repeat (first | rw [if_pos (by omega)] | rw [if_neg (by omega)]))
      rw [e] at h; exact h
    exact G b' hb' h2
theorem zTw_share (R : zTw T r) (hb : b < 8) {to : Nat} (hT : ∀ f, f ≠ 7 → f ≠ 10 → T' f = T f) (h7 : ∀ k, k < 8 → T' 7 k = if k = b then nI to else T 7 k)
    (h1 : ∀ j, j < 53 → j ≠ 5 + 6 * b + 3 → r' j = r j) (h2 : r' (5 + 6 * b + 3) = nI to) (h3 : ∀ j, 353 ≤ j → r' j = r j) (h10 : ∀ k, k < 300 → T' 10 k = r' (53 + k)) : zTw T' r' := by
  obtain ⟨⟨a1, a2, a3⟩, B, C, D, E, F, G⟩ := R
  have t : ∀ f k, f ≠ 7 → f ≠ 10 → T' f k = T f k := fun f k h h' => by rw [hT f h h']
  refine ⟨⟨?_, ?_, ?_⟩, fun g hg => ?_, h10, fun p hp => ?_, fun b' hb' => ?_, ?_, fun b' hb' h => ?_⟩
  · rw [t 0 0 (by decide) (by decide), h1 1 (by omega) (by omega)]; exact a1
  · rw [t 1 0 (by decide) (by decide), h1 0 (by omega) (by omega)]; exact a2
  · rw [t 2 0 (by decide) (by decide), a3]; exact zsu_cong 150 0 (fun j _ hj => (h3 _ (by omega)).symm)
  · rw [t 9 g (by decide) (by decide), h1 _ (by omega) (by omega)]; exact B g hg
  · rw [t 11 p (by decide) (by decide), t 12 p (by decide) (by decide), t 13 p (by decide) (by decide), t 14 p (by decide) (by decide), h3 _ (by omega), h3 _ (by omega), h3 _ (by omega), h3 _ (by omega)]; exact D p hp
  · rw [t 5 b' (by decide) (by decide), t 6 b' (by decide) (by decide), t 8 b' (by decide) (by decide), t 3 0 (by decide) (by decide), t 4 0 (by decide) (by decide), h1 (5 + 6 * b' + 1) (by omega) (by omega), h1 (5 + 6 * b' + 2) (by omega) (by omega), h1 (5 + 6 * b' + 5) (by omega) (by omega), h1 (5 + 6 * b' + 0) (by omega) (by omega), h1 (5 + 6 * b' + 4) (by omega) (by omega), h7 b' hb']
    have e := E b' hb'
    refine ⟨e.1, e.2.1, ?_, e.2.2.2⟩
    by_cases c : b' = b
    · subst c; rw [if_pos rfl, h2]
    · rw [if_neg c, h1 _ (by omega) (by omega)]; exact e.2.2.1
  · rw [t 3 0 (by decide) (by decide)]; exact F
  · rw [t 3 0 (by decide) (by decide)]
    exact G b' hb' (by rw [h1 1 (by omega) (by omega)] at h; exact h)
theorem zTw_hold (R : zTw T r) (hp : p < 150) {x y : Int32} (hx : zm8 x) (hy : zm8 y) (hT : ∀ f, f ≠ 11 → f ≠ 12 → T' f = T f) (h11 : ∀ k, k < 150 → T' 11 k = if k = p then x else T 11 k) (h12 : ∀ k, k < 150 → T' 12 k = if k = p then y else T 12 k) :
    zTw T' (upd (upd r (353 + p) x) (503 + p) y) := by
  obtain ⟨⟨a1, a2, a3⟩, B, C, D, E, F, G⟩ := R
  have t : ∀ f k, f ≠ 11 → f ≠ 12 → T' f k = T f k := fun f k h h' => by rw [hT f h h']
  have q : ∀ j, j ≠ 353 + p → j ≠ 503 + p → upd (upd r (353 + p) x) (503 + p) y j = r j := fun j h h' => by rw [zupd_n _ _ h', zupd_n _ _ h]
  refine ⟨⟨?_, ?_, ?_⟩, fun g hg => ?_, fun k hk => ?_, fun p' hp' => ?_, fun b' hb' => ?_, ?_, fun b' hb' h => ?_⟩
  · rw [t 0 0 (by decide) (by decide), q 1 (by omega) (by omega)]; exact a1
  · rw [t 1 0 (by decide) (by decide), q 0 (by omega) (by omega)]; exact a2
  · rw [t 2 0 (by decide) (by decide), a3]; exact zsu_cong 150 0 (fun j _ hj => (q _ (by omega) (by omega)).symm)
  · rw [t 9 g (by decide) (by decide), q _ (by omega) (by omega)]; exact B g hg
  · rw [t 10 k (by decide) (by decide), q _ (by omega) (by omega)]; exact C k hk
  · rw [h11 p' hp', h12 p' hp', t 13 p' (by decide) (by decide), t 14 p' (by decide) (by decide), q (653 + p') (by omega) (by omega), q (803 + p') (by omega) (by omega)]
    have d := D p' hp'
    by_cases c : p' = p
    · subst c
      rw [if_pos rfl, if_pos rfl, zupd_s, zupd_n _ _ (show 353 + p' ≠ 503 + p' by omega), zupd_s]
      exact ⟨⟨rfl, rfl, d.1.2.2.1, d.1.2.2.2⟩, hx, hy, d.2.2.2⟩
    · rw [if_neg c, if_neg c, q (353 + p') (by omega) (by omega), q (503 + p') (by omega) (by omega)]; exact d
  · rw [t 5 b' (by decide) (by decide), t 6 b' (by decide) (by decide), t 7 b' (by decide) (by decide), t 8 b' (by decide) (by decide), t 3 0 (by decide) (by decide), t 4 0 (by decide) (by decide), q _ (by omega) (by omega), q _ (by omega) (by omega), q _ (by omega) (by omega), q _ (by omega) (by omega), q _ (by omega) (by omega), q _ (by omega) (by omega)]
    exact E b' hb'
  · rw [t 3 0 (by decide) (by decide)]; exact F
  · rw [t 3 0 (by decide) (by decide)]
    exact G b' hb' (by rw [q 1 (by omega) (by omega)] at h; exact h)
theorem zTw_close (R : zTw T r) (hb : b < 8) : zTw (zU T 3 (fun _ => (T 3 0 &&& (zp2 b ^^^ (-1))))) (upd r (5 + 6 * b + 0) 0) := by
  obtain ⟨⟨a1, a2, a3⟩, B, C, D, E, F, G⟩ := R
  refine ⟨⟨by (simp only [zU, upd]; repeat (first | rw [if_pos (by omega)] | rw [if_neg (by omega)])); exact a1, by (simp only [zU, upd]; repeat (first | rw [if_pos (by omega)] | rw [if_neg (by omega)])); exact a2, ?_⟩, fun g hg => by (simp only [zU, upd]; repeat (first | rw [if_pos (by omega)] | rw [if_neg (by omega)])); exact B g hg, fun k hk => by (simp only [zU, upd]; repeat (first | rw [if_pos (by omega)] | rw [if_neg (by omega)])); exact C k hk, fun p hp => ?_, fun b' hb' => ?_, ?_, fun b' hb' h => ?_⟩
  · show T 2 0 = _
    rw [a3]; exact zsu_cong 150 0 (fun j _ hj => by (simp only [zU, upd]; repeat (first | rw [if_pos (by omega)] | rw [if_neg (by omega)])))
  · have d := D p hp
    exact ⟨⟨by (simp only [zU, upd]; repeat (first | rw [if_pos (by omega)] | rw [if_neg (by omega)])); exact d.1.1, by (simp only [zU, upd]; repeat (first | rw [if_pos (by omega)] | rw [if_neg (by omega)])); exact d.1.2.1, by (simp only [zU, upd]; repeat (first | rw [if_pos (by omega)] | rw [if_neg (by omega)])); exact d.1.2.2.1, by (simp only [zU, upd]; repeat (first | rw [if_pos (by omega)] | rw [if_neg (by omega)])); exact d.1.2.2.2⟩, by (simp only [zU, upd]; repeat (first | rw [if_pos (by omega)] | rw [if_neg (by omega)])); exact d.2.1, by (simp only [zU, upd]; repeat (first | rw [if_pos (by omega)] | rw [if_neg (by omega)])); exact d.2.2.1, by (simp only [zU, upd]; repeat (first | rw [if_pos (by omega)] | rw [if_neg (by omega)])); exact d.2.2.2⟩
  · have e := E b' hb'
    refine ⟨by (simp only [zU, upd]; repeat (first | rw [if_pos (by omega)] | rw [if_neg (by omega)])); exact e.1, by (simp only [zU, upd]; repeat (first | rw [if_pos (by omega)] | rw [if_neg (by omega)])); exact e.2.1, by (simp only [zU, upd]; repeat (first | rw [if_pos (by omega)] | rw [if_neg (by omega)])); exact e.2.2.1, by (simp only [zU, upd]; repeat (first | rw [if_pos (by omega)] | rw [if_neg (by omega)])); exact e.2.2.2.1, ?_, by (simp only [zU, upd]; repeat (first | rw [if_pos (by omega)] | rw [if_neg (by omega)])); exact e.2.2.2.2.2⟩
    rw [zU_s, bt_clr (by omega) (by omega)]
    by_cases c : b' = b
    · subst c; rw [zupd_s]; simp; rfl
    · rw [zupd_n _ _ (by omega), e.2.2.2.2.1, decide_eq_false c]; simp
  · rw [zU_s]; exact zm8_clr hb F
  · have h2 : (r 1).toNatClampNeg ≤ b' := by
      have e : upd r (5 + 6 * b + 0) 0 1 = r 1 := by (simp only [zU, upd]; repeat (first | rw [if_pos (by omega)] | rw [if_neg (by omega)]))
      rw [e] at h; exact h
    rw [zU_s, bt_clr (by omega) (by omega), G b' hb' h2]; rfl
theorem zTw_ext (R : zTw T r) (h : ∀ j, j < 953 → r' j = r j) : zTw T r' := by
  obtain ⟨⟨a1, a2, a3⟩, B, C, D, E, F, G⟩ := R
  refine ⟨⟨by rw [h 1 (by omega)]; exact a1, by rw [h 0 (by omega)]; exact a2, ?_⟩, fun g hg => by rw [h _ (by omega)]; exact B g hg, fun k hk => by rw [h _ (by omega)]; exact C k hk, fun p hp => ?_, fun b' hb' => ?_, F, fun b' hb' h' => ?_⟩
  · rw [a3]; exact zsu_cong 150 0 (fun j _ hj => (h _ (by omega)).symm)
  · rw [h (353 + p) (by omega), h (503 + p) (by omega), h (653 + p) (by omega), h (803 + p) (by omega)]; exact D p hp
  · rw [h (5 + 6 * b' + 1) (by omega), h (5 + 6 * b' + 2) (by omega), h (5 + 6 * b' + 3) (by omega), h (5 + 6 * b' + 5) (by omega), h (5 + 6 * b' + 0) (by omega), h (5 + 6 * b' + 4) (by omega)]; exact E b' hb'
  · exact G b' hb' (by rw [h 1 (by omega)] at h'; exact h')
end EQ5
