/-- a step that is no end of a command -/
def zTk (M : Nat → Nat → Int32) (code : Int32) : Bool × (Nat → Nat → Int32) := (if (M 10 0) = 0 then ((v_X5_begins M code).1, (v_X5_begins M code).2) else (if (M 10 0) = 1 then ((v_X5_takesBread M code 2).1, (v_X5_takesBread M code 2).2) else (if (M 10 0) = 2 then (if code = 61 then (true, zU M 10 (fun _ => 3)) else (false, zU M 10 (fun _ => 3))) else (if (M 10 0) = 3 then ((v_X5_takesDigit M (code - 48)).1, (v_X5_takesDigit M (code - 48)).2) else (if (M 10 0) = 4 then (if code = 64 then (if (M 9 0) = (-1) then ((v_X5_takesDigit M (code - 48)).1, (v_X5_takesDigit M (code - 48)).2) else (true, zU M 10 (fun _ => 5))) else ((v_X5_takesDigit M (code - 48)).1, (v_X5_takesDigit M (code - 48)).2)) else (if (M 10 0) = 5 then ((v_X5_takesBread M code 6).1, (v_X5_takesBread M code 6).2) else (if (M 10 0) = 6 then (false, M) else (if code = 64 then (if (M 9 0) = (-1) then ((v_X5_takesDigit M (code - 48)).1, (v_X5_takesDigit M (code - 48)).2) else (true, zU M 10 (fun _ => 5))) else ((v_X5_takesDigit M (code - 48)).1, (v_X5_takesDigit M (code - 48)).2)))))))))
theorem zTk_eq (M : Nat → Nat → Int32) (code : Int32) : v_X5_takes M code = (if code = 59 then (if (v_X5_isEnded M) = true then (true, zU (zU M 8 (fun _ => ((M 8 0) + 1))) 10 (fun _ => 0)) else zTk M code) else zTk M code) := by
  unfold v_X5_takes zTk; with_reducible rfl
def zTd (M : Nat → Nat → Int32) (code : Int32) : Bool × (Nat → Nat → Int32) := (if code = 64 then (if (M 9 0) = (-1) then ((v_X5_takesDigit M (code - 48)).1, (v_X5_takesDigit M (code - 48)).2) else (true, zU M 10 (fun _ => 5))) else ((v_X5_takesDigit M (code - 48)).1, (v_X5_takesDigit M (code - 48)).2))
theorem zTd_of (M : Nat → Nat → Int32) (code : Int32) : (zTd M code).2 = (v_X5_takesDigit M (code - 48)).2 ∨ (zTd M code).2 = zU M 10 (fun _ => 5) := by
  unfold zTd
  by_cases a : code = 64
  · by_cases b : M 9 0 = -1
    · left; rw [if_pos a, if_pos b]
    · right; rw [if_pos a, if_neg b]
  · left; rw [if_neg a]
theorem zTk_of (M : Nat → Nat → Int32) (code : Int32) : (M 10 0 = 0 ∧ (zTk M code).2 = (v_X5_begins M code).2) ∨ (M 10 0 ≠ 0 ∧ ((zTk M code).2 = (v_X5_takesDigit M (code - 48)).2 ∨ (∃ nx, (zTk M code).2 = (v_X5_takesBread M code nx).2) ∨ (∃ d, (zTk M code).2 = zU M 10 (fun _ => d)) ∨ (zTk M code).2 = M)) := by
  unfold zTk
  by_cases a0 : M 10 0 = 0
  · left; exact ⟨a0, by rw [if_pos a0]⟩
  · right; refine ⟨a0, ?_⟩
    rw [if_neg a0]
    by_cases a1 : M 10 0 = 1
    · right; left; exact ⟨2, by rw [if_pos a1]⟩
    · rw [if_neg a1]
      by_cases a2 : M 10 0 = 2
      · right; right; left; refine ⟨3, ?_⟩
        rw [if_pos a2]
        by_cases c : code = 61
        · rw [if_pos c]
        · rw [if_neg c]
      · rw [if_neg a2]
        have key : (zTd M code).2 = (v_X5_takesDigit M (code - 48)).2 ∨ (∃ nx, (zTd M code).2 = (v_X5_takesBread M code nx).2) ∨ (∃ d, (zTd M code).2 = zU M 10 (fun _ => d)) ∨ (zTd M code).2 = M := by
          rcases zTd_of M code with q | q
          · exact Or.inl q
          · exact Or.inr (Or.inr (Or.inl ⟨5, q⟩))
        unfold zTd at key
        by_cases a3 : M 10 0 = 3
        · left; rw [if_pos a3]
        · rw [if_neg a3]
          by_cases a4 : M 10 0 = 4
          · rw [if_pos a4]; exact key
          · rw [if_neg a4]
            by_cases a5 : M 10 0 = 5
            · right; left; exact ⟨6, by rw [if_pos a5]⟩
            · rw [if_neg a5]
              by_cases a6 : M 10 0 = 6
              · right; right; right; rw [if_pos a6]
              · rw [if_neg a6]; exact key
