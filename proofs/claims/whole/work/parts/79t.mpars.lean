/-! the parser's promise: the numbers of what it has read -/
def zPs (due c num n2 : Int32) : Prop := due = 0 ∨ ((due = 1 ∨ due = 2) ∧ (c = 43 ∨ c = 45) ∧ num = -1) ∨ (due = 3 ∧ (((c = 43 ∨ c = 45) ∧ (num = -1 ∨ (n2 = num ∧ vp_in num 101))) ∨ (c = 100 ∧ (num = -1 ∨ (n2 = num ∧ vp_in num 51))))) ∨ (due = 4 ∧ (c = 105 ∨ c = 111) ∧ (num = -1 ∨ (n2 = num ∧ vp_in num 150))) ∨ ((due = 5 ∨ due = 6) ∧ (c = 120 ∨ ((c = 105 ∨ c = 111) ∧ n2 = num ∧ vp_in num 150)))
def zPI (M : Nat → Nat → Int32) : Prop := zPs (M 10 0) (M 7 (3 * (Int32.toNatClampNeg (M 8 0)))) (M 9 0) (M 7 (3 * (Int32.toNatClampNeg (M 8 0)) + 2)) ∧ ∀ p, p < (Int32.toNatClampNeg (M 8 0)) → zNum M p
theorem zNum_c {M N : Nat → Nat → Int32} {p : Nat} (h0 : N 7 (3 * p) = M 7 (3 * p)) (h2 : N 7 (3 * p + 2) = M 7 (3 * p + 2)) (h : zNum M p) : zNum N p := by
  unfold zNum at *; rw [h0, h2]; exact h
theorem zTk_0 {M : Nat → Nat → Int32} (code : Int32) (h : M 10 0 = 0) : zTk M code = v_X5_begins M code := by unfold zTk; rw [if_pos h]
theorem zTk_1 {M : Nat → Nat → Int32} (code : Int32) (h : M 10 0 = 1) : zTk M code = v_X5_takesBread M code 2 := by unfold zTk; rw [if_neg (by rw [h]; decide), if_pos h]
theorem zTk_2 {M : Nat → Nat → Int32} (code : Int32) (h : M 10 0 = 2) : zTk M code = (if code = 61 then (true, zU M 10 (fun _ => 3)) else (false, zU M 10 (fun _ => 3))) := by unfold zTk; rw [if_neg (by rw [h]; decide), if_neg (by rw [h]; decide), if_pos h]
theorem zTk_3 {M : Nat → Nat → Int32} (code : Int32) (h : M 10 0 = 3) : zTk M code = v_X5_takesDigit M (code - 48) := by unfold zTk; rw [if_neg (by rw [h]; decide), if_neg (by rw [h]; decide), if_neg (by rw [h]; decide), if_pos h]
theorem zTk_4 {M : Nat → Nat → Int32} (code : Int32) (h : M 10 0 = 4) : zTk M code = (if code = 64 then (if (M 9 0) = (-1) then v_X5_takesDigit M (code - 48) else (true, zU M 10 (fun _ => 5))) else v_X5_takesDigit M (code - 48)) := by unfold zTk; rw [if_neg (by rw [h]; decide), if_neg (by rw [h]; decide), if_neg (by rw [h]; decide), if_neg (by rw [h]; decide), if_pos h]
theorem zTk_5 {M : Nat → Nat → Int32} (code : Int32) (h : M 10 0 = 5) : zTk M code = v_X5_takesBread M code 6 := by unfold zTk; rw [if_neg (by rw [h]; decide), if_neg (by rw [h]; decide), if_neg (by rw [h]; decide), if_neg (by rw [h]; decide), if_neg (by rw [h]; decide), if_pos h]
theorem zTk_6 {M : Nat → Nat → Int32} (code : Int32) (h : M 10 0 = 6) : zTk M code = (false, M) := by unfold zTk; rw [if_neg (by rw [h]; decide), if_neg (by rw [h]; decide), if_neg (by rw [h]; decide), if_neg (by rw [h]; decide), if_neg (by rw [h]; decide), if_neg (by rw [h]; decide), if_pos h]
def zBg (M : Nat → Nat → Int32) (c d : Int32) : Nat → Nat → Int32 := zU (zU (zU M 7 (upd (M 7) (3 * (Int32.toNatClampNeg (M 8 0))) c)) 9 (fun _ => (-1))) 10 (fun _ => d)
theorem zbg_x (M : Nat → Nat → Int32) (c : Int32) : v_X5_begins M c = (if c = 43 then (true, zBg M c 1) else if c = 45 then (true, zBg M c 1) else if c = 105 then (true, zBg M c 4) else if c = 111 then (true, zBg M c 4) else if c = 120 then (true, zBg M c 5) else if c = 100 then (true, zBg M c 3) else (false, zBg M c 3)) := by
  unfold v_X5_begins zBg
  by_cases h1 : c = 43
  · simp only [if_pos h1]
  · by_cases h2 : c = 45
    · simp only [if_neg h1, if_pos h2]
    · by_cases h3 : c = 105
      · simp only [if_neg h1, if_neg h2, if_pos h3]
      · by_cases h4 : c = 111
        · simp only [if_neg h1, if_neg h2, if_neg h3, if_pos h4]
        · by_cases h5 : c = 120
          · simp only [if_neg h1, if_neg h2, if_neg h3, if_neg h4, if_pos h5]
          · by_cases h6 : c = 100
            · simp only [if_neg h1, if_neg h2, if_neg h3, if_neg h4, if_neg h5, if_pos h6]
            · simp only [if_neg h1, if_neg h2, if_neg h3, if_neg h4, if_neg h5, if_neg h6]
def zdv (M : Nat → Nat → Int32) (dg : Int32) : Int32 := if M 9 0 = -1 then dg else (10 : Int32) * M 9 0 + dg
def zdm (M : Nat → Nat → Int32) : Int32 := if M 10 0 = 4 then 149 else if M 7 (3 * (Int32.toNatClampNeg (M 8 0))) = 100 then 50 else 100
def zdl (M : Nat → Nat → Int32) : Int32 := if M 7 (3 * (Int32.toNatClampNeg (M 8 0))) = 100 then 1 else 0
def zDg (M : Nat → Nat → Int32) (v : Int32) : Nat → Nat → Int32 := zU (zU M 9 (fun _ => v)) 7 (upd (M 7) (3 * (Int32.toNatClampNeg (M 8 0)) + 2) v)
theorem ztd_x (M : Nat → Nat → Int32) (dg : Int32) : v_X5_takesDigit M dg = (if v_X5_within dg 0 9 = true then (if M 9 0 = 0 then (false, zDg M (M 9 0)) else if v_X5_within (zdv M dg) (zdl M) (zdm M) = true then (true, zDg M (zdv M dg)) else (false, zDg M (M 9 0))) else (false, zDg M (M 9 0))) := by
  unfold v_X5_takesDigit zdv zdm zdl zDg
  by_cases a : M 7 (3 * (Int32.toNatClampNeg (M 8 0))) = 100
  · by_cases b : M 10 0 = 4
    · by_cases c : M 9 0 = -1
      · simp only [if_pos a, if_pos b, if_pos c]
      · simp only [if_pos a, if_pos b, if_neg c]
    · by_cases c : M 9 0 = -1
      · simp only [if_pos a, if_neg b, if_pos c]
      · simp only [if_pos a, if_neg b, if_neg c]
  · by_cases b : M 10 0 = 4
    · by_cases c : M 9 0 = -1
      · simp only [if_neg a, if_pos b, if_pos c]
      · simp only [if_neg a, if_pos b, if_neg c]
    · by_cases c : M 9 0 = -1
      · simp only [if_neg a, if_neg b, if_pos c]
      · simp only [if_neg a, if_neg b, if_neg c]
theorem ztd_ok {M : Nat → Nat → Int32} {dg : Int32} (h : (v_X5_takesDigit M dg).1 = true) : v_X5_within dg 0 9 = true ∧ M 9 0 ≠ 0 ∧ v_X5_within (zdv M dg) (zdl M) (zdm M) = true ∧ (v_X5_takesDigit M dg).2 = zDg M (zdv M dg) := by
  have e := ztd_x M dg
  by_cases a : v_X5_within dg 0 9 = true
  · rw [if_pos a] at e
    by_cases b : M 9 0 = 0
    · rw [if_pos b] at e; rw [e] at h; cases h
    · rw [if_neg b] at e
      by_cases c : v_X5_within (zdv M dg) (zdl M) (zdm M) = true
      · rw [if_pos c] at e; rw [e]; exact ⟨a, b, c, rfl⟩
      · rw [if_neg c] at e; rw [e] at h; cases h
  · rw [if_neg a] at e; rw [e] at h; cases h
theorem zPI_of {M N : Nat → Nat → Int32} (h8 : N 8 0 = M 8 0) (h7 : ∀ q, q < 3 * (Int32.toNatClampNeg (M 8 0)) → N 7 q = M 7 q) (h : zPI M) (hs : zPs (N 10 0) (N 7 (3 * (Int32.toNatClampNeg (M 8 0)))) (N 9 0) (N 7 (3 * (Int32.toNatClampNeg (M 8 0)) + 2))) : zPI N := by
  unfold zPI
  rw [h8]
  exact ⟨hs, fun p hp => zNum_c (h7 _ (by omega)) (h7 _ (by omega)) (h.2 p hp)⟩
theorem zPI_dg {M : Nat → Nat → Int32} {dg : Int32} (h : zPI M) (ok : (v_X5_takesDigit M dg).1 = true) (hd : M 10 0 = 3 ∨ M 10 0 = 4) : zPI (v_X5_takesDigit M dg).2 := by
  obtain ⟨_, _, hw, e⟩ := ztd_ok ok
  rw [e]
  unfold zDg
  refine zPI_of (M := M) (by rw [zU_n _ _ (by decide), zU_n _ _ (by decide)]) (fun q hq => by rw [zU_s, zupd_n _ _ (by omega)]) h ?_
  rw [zU_n _ _ (show (10 : Nat) ≠ 7 by decide), zU_n _ _ (show (10 : Nat) ≠ 9 by decide), zU_s, zU_n _ _ (show (9 : Nat) ≠ 7 by decide), zU_s, zupd_s, zupd_n _ _ (by omega)]
  generalize ev : zdv M dg = v at *
  have hs := h.1
  unfold zPs at hs ⊢
  rcases hs with a | ⟨a | a, _⟩ | ⟨a, q⟩ | ⟨a, q, _⟩ | ⟨a | a, _⟩
  · rcases hd with z | z <;> rw [z] at a <;> exact absurd a (by decide)
  · rcases hd with z | z <;> rw [z] at a <;> exact absurd a (by decide)
  · rcases hd with z | z <;> rw [z] at a <;> exact absurd a (by decide)
  · right; right; left
    refine ⟨a, ?_⟩
    unfold zdl zdm at hw
    rw [if_neg (show ¬ M 10 0 = 4 by rw [a]; decide)] at hw
    rcases q with ⟨q, _⟩ | ⟨q, _⟩
    · left
      have n : ¬ M 7 (3 * (Int32.toNatClampNeg (M 8 0))) = 100 := fun z => by rcases q with q | q <;> rw [q] at z <;> exact absurd z (by decide)
      rw [if_neg n, if_neg n] at hw
      exact ⟨q, Or.inr ⟨rfl, zwithin_in (hi := 100) hw (by decide)⟩⟩
    · right
      rw [if_pos q, if_pos q] at hw
      exact ⟨q, Or.inr ⟨rfl, zw50 hw⟩⟩
  · right; right; right; left
    refine ⟨a, q, Or.inr ⟨rfl, ?_⟩⟩
    unfold zdl zdm at hw
    have n : ¬ M 7 (3 * (Int32.toNatClampNeg (M 8 0))) = 100 := fun z => by rcases q with q | q <;> rw [q] at z <;> exact absurd z (by decide)
    rw [if_pos a, if_neg n] at hw
    exact zwithin_in (hi := 149) hw (by decide)
  · rcases hd with z | z <;> rw [z] at a <;> exact absurd a (by decide)
  · rcases hd with z | z <;> rw [z] at a <;> exact absurd a (by decide)
theorem zPI_br {M : Nat → Nat → Int32} {code nx : Int32} (h : zPI M) (hs : ∀ n2, zPs (M 10 0) (M 7 (3 * (Int32.toNatClampNeg (M 8 0)))) (M 9 0) n2 → zPs nx (M 7 (3 * (Int32.toNatClampNeg (M 8 0)))) (M 9 0) n2) : zPI (v_X5_takesBread M code nx).2 := by
  unfold v_X5_takesBread
  dsimp only
  refine zPI_of (M := M) (by rw [zU_n _ _ (by decide), zU_n _ _ (by decide)]) (fun q hq => by rw [zU_n _ _ (by decide), zU_s, zupd_n _ _ (by omega)]) h ?_
  rw [zU_s, zU_n _ _ (show (7 : Nat) ≠ 10 by decide), zU_s, zU_n _ _ (show (9 : Nat) ≠ 10 by decide), zU_n _ _ (show (9 : Nat) ≠ 7 by decide), zupd_n _ _ (by omega), zupd_n _ _ (by omega)]
  exact hs _ h.1
theorem zPI_due {M : Nat → Nat → Int32} {nx : Int32} (h : zPI M) (hs : zPs nx (M 7 (3 * (Int32.toNatClampNeg (M 8 0)))) (M 9 0) (M 7 (3 * (Int32.toNatClampNeg (M 8 0)) + 2))) : zPI (zU M 10 (fun _ => nx)) := by
  refine zPI_of (M := M) (by rw [zU_n _ _ (by decide)]) (fun q hq => by rw [zU_n _ _ (by decide)]) h ?_
  rw [zU_s, zU_n _ _ (show (7 : Nat) ≠ 10 by decide), zU_n _ _ (show (9 : Nat) ≠ 10 by decide)]
  exact hs
theorem zPI_bg {M : Nat → Nat → Int32} {c d : Int32} (h : zPI M) (hs : ∀ n2, zPs d c (-1) n2) : zPI (zBg M c d) := by
  unfold zBg
  refine zPI_of (M := M) (by rw [zU_n _ _ (by decide), zU_n _ _ (by decide), zU_n _ _ (by decide)]) (fun q hq => by rw [zU_n _ _ (by decide), zU_n _ _ (by decide), zU_s, zupd_n _ _ (by omega)]) h ?_
  rw [zU_s, zU_n _ _ (show (7 : Nat) ≠ 10 by decide), zU_n _ _ (show (7 : Nat) ≠ 9 by decide), zU_s, zU_n _ _ (show (9 : Nat) ≠ 10 by decide), zU_s, zupd_s]
  exact hs _
theorem zPI_en {M : Nat → Nat → Int32} (h : zPI M) (e : v_X5_isEnded M = true) : zNum M (Int32.toNatClampNeg (M 8 0)) := by
  have hs := h.1
  unfold v_X5_isEnded at e
  unfold zPs at hs
  unfold zNum
  generalize M 7 (3 * (Int32.toNatClampNeg (M 8 0))) = c at *
  generalize M 7 (3 * (Int32.toNatClampNeg (M 8 0)) + 2) = n2 at *
  by_cases a : M 10 0 = 6
  · rcases hs with q | ⟨q | q, _⟩ | ⟨q, _⟩ | ⟨q, _⟩ | ⟨_, q⟩
    · rw [a] at q; exact absurd q (by decide)
    · rw [a] at q; exact absurd q (by decide)
    · rw [a] at q; exact absurd q (by decide)
    · rw [a] at q; exact absurd q (by decide)
    · rw [a] at q; exact absurd q (by decide)
    · rcases q with rfl | ⟨rfl | rfl, rfl, q⟩
      · exact ⟨fun z => absurd z (by decide), fun z => by rcases z with z | z <;> exact absurd z (by decide), fun _ _ _ z => absurd rfl z⟩
      · exact ⟨fun z => absurd z (by decide), fun z => by rcases z with z | z <;> exact absurd z (by decide), fun _ _ _ _ => q⟩
      · exact ⟨fun z => absurd z (by decide), fun z => by rcases z with z | z <;> exact absurd z (by decide), fun _ _ _ _ => q⟩
  · rw [if_neg a] at e
    by_cases b : M 10 0 = 3
    · rw [if_pos b] at e
      by_cases n : M 9 0 = -1
      · rw [if_pos n] at e; cases e
      · rcases hs with q | ⟨q | q, _⟩ | ⟨_, q⟩ | ⟨q, _⟩ | ⟨q | q, _⟩
        · rw [b] at q; exact absurd q (by decide)
        · rw [b] at q; exact absurd q (by decide)
        · rw [b] at q; exact absurd q (by decide)
        · rcases q with ⟨q, q2⟩ | ⟨rfl, q2⟩
          · rcases q2 with q2 | ⟨rfl, q2⟩
            · exact absurd q2 n
            · refine ⟨fun z => ?_, fun _ => q2, fun _ z1 z2 _ => ?_⟩
              · rcases q with rfl | rfl <;> exact absurd z (by decide)
              · rcases q with rfl | rfl
                · exact absurd rfl z1
                · exact absurd rfl z2
          · rcases q2 with q2 | ⟨rfl, q2⟩
            · exact absurd q2 n
            · exact ⟨fun _ => q2, fun z => by rcases z with z | z <;> exact absurd z (by decide), fun z _ _ _ => absurd rfl z⟩
        · rw [b] at q; exact absurd q (by decide)
        · rw [b] at q; exact absurd q (by decide)
        · rw [b] at q; exact absurd q (by decide)
    · rw [if_neg b] at e; cases e
theorem zPI_tk {M : Nat → Nat → Int32} {code : Int32} (h : zPI M) (ok : (zTk M code).1 = true) : zPI (zTk M code).2 := by
  have hs := h.1
  unfold zPs at hs
  rcases hs with a | ⟨a | a, q, n⟩ | ⟨a, q⟩ | ⟨a, q, n⟩ | ⟨a | a, q⟩
  · rw [zTk_0 code a] at ok ⊢
    have e := zbg_x M code
    by_cases h1 : code = 43
    · rw [if_pos h1] at e; rw [e]; exact zPI_bg h (fun n2 => Or.inr (Or.inl ⟨Or.inl rfl, Or.inl h1, rfl⟩))
    · rw [if_neg h1] at e
      by_cases h2 : code = 45
      · rw [if_pos h2] at e; rw [e]; exact zPI_bg h (fun n2 => Or.inr (Or.inl ⟨Or.inl rfl, Or.inr h2, rfl⟩))
      · rw [if_neg h2] at e
        by_cases h3 : code = 105
        · rw [if_pos h3] at e; rw [e]; exact zPI_bg h (fun n2 => Or.inr (Or.inr (Or.inr (Or.inl ⟨rfl, Or.inl h3, Or.inl rfl⟩))))
        · rw [if_neg h3] at e
          by_cases h4 : code = 111
          · rw [if_pos h4] at e; rw [e]; exact zPI_bg h (fun n2 => Or.inr (Or.inr (Or.inr (Or.inl ⟨rfl, Or.inr h4, Or.inl rfl⟩))))
          · rw [if_neg h4] at e
            by_cases h5 : code = 120
            · rw [if_pos h5] at e; rw [e]; exact zPI_bg h (fun n2 => Or.inr (Or.inr (Or.inr (Or.inr ⟨Or.inl rfl, Or.inl h5⟩))))
            · rw [if_neg h5] at e
              by_cases h6 : code = 100
              · rw [if_pos h6] at e; rw [e]; exact zPI_bg h (fun n2 => Or.inr (Or.inr (Or.inl ⟨rfl, Or.inr ⟨h6, Or.inl rfl⟩⟩)))
              · rw [if_neg h6] at e; rw [e] at ok; cases ok
  · rw [zTk_1 code a]
    exact zPI_br h (fun n2 _ => Or.inr (Or.inl ⟨Or.inr rfl, q, n⟩))
  · rw [zTk_2 code a]
    have z : zPI (zU M 10 (fun _ => 3)) := zPI_due h (Or.inr (Or.inr (Or.inl ⟨rfl, Or.inl ⟨q, Or.inl n⟩⟩)))
    by_cases c : code = 61
    · rw [if_pos c]; exact z
    · rw [if_neg c]; exact z
  · rw [zTk_3 code a] at ok ⊢
    exact zPI_dg h ok (Or.inl a)
  · rw [zTk_4 code a] at ok ⊢
    by_cases c : code = 64
    · by_cases d : M 9 0 = -1
      · rw [if_pos c, if_pos d] at ok ⊢
        exact zPI_dg h ok (Or.inr a)
      · rw [if_pos c, if_neg d]
        rcases n with n | n
        · exact absurd n d
        · exact zPI_due h (Or.inr (Or.inr (Or.inr (Or.inr ⟨Or.inl rfl, Or.inr ⟨q, n⟩⟩))))
    · rw [if_neg c] at ok ⊢
      exact zPI_dg h ok (Or.inr a)
  · rw [zTk_5 code a]
    refine zPI_br h (fun n2 z => ?_)
    unfold zPs at z
    rw [a] at z
    rcases z with z | ⟨z | z, _⟩ | ⟨z, _⟩ | ⟨z, _⟩ | ⟨_, z⟩
    · exact absurd z (by decide)
    · exact absurd z (by decide)
    · exact absurd z (by decide)
    · exact absurd z (by decide)
    · exact absurd z (by decide)
    · exact Or.inr (Or.inr (Or.inr (Or.inr ⟨Or.inr rfl, z⟩)))
  · rw [zTk_6 code a] at ok; cases ok
theorem zPI_takes {M : Nat → Nat → Int32} {code : Int32} (h : zPI M) (hr : vp_in (M 8 0) 23) (ok : (v_X5_takes M code).1 = true) : zPI (v_X5_takes M code).2 := by
  have eq := zTk_eq M code
  by_cases a : code = 59
  · by_cases b : v_X5_isEnded M = true
    · rw [if_pos a, if_pos b] at eq
      rw [eq]
      obtain ⟨j, hj, e⟩ := vp_in_of hr (by decide)
      have hn := zPI_en h b
      have h2 := h.2
      unfold zPI
      dsimp only
      have e8 : zU (zU M 8 (fun _ => ((M 8 0) + 1))) 10 (fun _ => 0) 8 0 = nI (j + 1) := by rw [zU_n _ _ (by decide), zU_s, e]; exact nI_1 j
      rw [e8, nI_nat (by omega)]
      rw [e, nI_nat (by omega)] at hn h2
      refine ⟨Or.inl (by rw [zU_s]), fun p hp => ?_⟩
      have c7 : zU (zU M 8 (fun _ => ((M 8 0) + 1))) 10 (fun _ => 0) 7 = M 7 := by rw [zU_n _ _ (by decide), zU_n _ _ (by decide)]
      refine zNum_c (M := M) (by rw [c7]) (by rw [c7]) ?_
      rcases Nat.lt_or_ge p j with q | q
      · exact h2 p q
      · have : p = j := by omega
        rw [this]; exact hn
    · rw [if_pos a, if_neg b] at eq; rw [eq] at ok ⊢; exact zPI_tk h ok
  · rw [if_neg a] at eq; rw [eq] at ok ⊢; exact zPI_tk h ok
