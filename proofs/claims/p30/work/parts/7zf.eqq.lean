/-! the looks, each method -/
theorem zisb5 {M : Nat → Nat → Int32} {f : Nat → Int32} {x : Int32} : v_X5_isBread (zU M 5 f) x = v_X5_isBread M x := by unfold v_X5_isBread; rw [zU_n _ _ (by decide)]
section EM
variable {Z T0 T1 T2 T3 T4 T5 T X M O : Nat → Nat → Int32}
theorem em_ifShare (O : Nat → Nat → Int32) (V : zInv Z T0 T1 T2 T3 T4 T5 T X M) (x : Int32) (t : Int32) :
    (e_X4_ifShare O T x t = none ∧ (v_X5_ifShare M x t).2 5 0 = 0 ∧ (v_X4_ifShare O T x t).1 = (v_X5_ifShare M x t).1 ∧ zInv Z T0 T1 T2 T3 T4 T5 T X (v_X5_ifShare M x t).2) ∨
    (e_X4_ifShare O T x t = some zIO ∧ (v_X5_ifShare M x t).2 5 0 = 1 ∧ zInv Z T0 T1 T2 T3 T4 T5 T X (v_X5_ifShare M x t).2) ∨
    (e_X4_ifShare O T x t = some zIA ∧ (v_X5_ifShare M x t).2 5 0 = 2 ∧ zInv Z T0 T1 T2 T3 T4 T5 T X (v_X5_ifShare M x t).2) := by
  unfold e_X4_ifShare v_X5_ifShare
  rw [enB V, enSh]
  have V' := zInv5 V (fun _ => 0)
  by_cases c0 : v_X5_isBread M x = true
  · obtain ⟨ex, h8, hn⟩ := zisb_in V.ro c0
    rw [if_pos c0, if_pos rfl, if_pos c0]
    by_cases c1 : v_X5_isShare t = true
    · left
      obtain ⟨et, ht⟩ := znat (zmsh c1)
      rw [if_pos c1, if_pos rfl, if_pos c1]
      have hn' : x.toNatClampNeg < (zU M 5 (fun _ => 0) 0 1).toNatClampNeg := by rw [zU_n _ _ (by decide)]; exact hn
      obtain ⟨f0, f1⟩ := zst_all h8 V'.ro (show t.toNatClampNeg ≤ 100 by omega) hn'
      refine ⟨rfl, ?_, ?_, zInv_row V' f0 (f1 1 (by decide) (by decide)) (f1 2 (by decide) (by decide)) (f1 3 (by decide) (by decide)) (f1 4 (by decide) (by decide))⟩
      · dsimp only; rw [f1 5 (by decide) (by decide), zU_s]
      · unfold v_X4_ifShare
        dsimp only
        rw [zst_eq V'.tw V'.ro h8 hn' (show t.toNatClampNeg ≤ 100 by omega)]
        have h := zea V'.tw V'.ro (zisb5.trans c0) O (show t.toNatClampNeg ≤ 100 by omega)
        rw [← et] at h; exact h
    · right; right
      rw [if_neg c1, if_neg (by simp), if_neg c1]; exact ⟨rfl, rfl, zInv5 V _⟩
  · right; left
    rw [if_neg c0, if_neg (by simp), if_neg c0]; exact ⟨rfl, rfl, zInv5 V _⟩
/-- the best salt -/
theorem zbs_at (R : zTw T (M 0)) (I : zI M) {b : Nat} (h8 : b < 8) (c : ¬ v_X5_isOfGroup M b = true) {x : Int32} (hx : x.toNatClampNeg = b) (fr : Nat) (hf : fr < 10000) : ∀ (n : Nat) (best most : Int32) (s : Nat) (N : Nat → Nat → Int32), fr + 20 - s < n → s ≤ fr + 20 → (∀ j, j ≠ 5 + 6 * b + 2 → N 0 j = M 0 j) → v_X4_bestSaltFrom_32 T x fr n best most s = (v_X5_saltFor_26 M b fr n best most s N).1
  | 0, _, _, _, _, h, _, _ => absurd h (Nat.not_lt_zero _)
  | n + 1, best, most, s, N, h, hs, hN => by
    rw [v_X4_bestSaltFrom_32, v_X5_saltFor_26, hx]
    by_cases c1 : fr + 20 ≤ s
    · rw [if_pos c1, if_pos c1]
    · rw [if_neg c1, if_neg c1]
      have w : v_X5_isSalt (nI s) = true ↔ ¬ 9999 < s := by
        unfold v_X5_isSalt
        rw [zcanCut, Int32.le_iff_toInt_le, Int32.le_iff_toInt_le, nI_toInt (by omega), show (0 : Int32).toInt = 0 from rfl, show (9999 : Int32).toInt = 9999 by decide]; omega
      by_cases c2 : 9999 < s
      · rw [if_pos c2, if_neg (fun z => w.mp z c2)]
      · rw [if_neg c2, if_pos (w.mpr c2)]
        have hP : ∀ j, j ≠ 5 + 6 * b + 2 → v_X5_put N b 2 (nI s) 0 j = M 0 j := fun j hj => by unfold v_X5_put; rw [zU_s, zupd_n _ _ hj]; exact hN j hj
        have p0 : v_X5_put N b 2 (nI s) 0 = upd (M 0) (5 + 6 * b + 2) (nI s) := by
          funext j
          by_cases e : j = 5 + 6 * b + 2
          · rw [e, zupd_s]; unfold v_X5_put; rw [zU_s, zupd_s]
          · rw [zupd_n _ _ e]; exact hP j e
        have t1 : zTw (zU T 6 (upd (T 6) b (nI s))) (v_X5_put N b 2 (nI s) 0) := by rw [p0]; exact zTw_salt R h8 _
        have i1 : zI (v_X5_put N b 2 (nI s)) := by
          unfold zI; rw [p0]; exact zRow_upd I (by omega) (fun b' hb' => by omega) (by omega)
        have es : v_X3_saltOf (zU T 6 (upd (T 6) b (nI s))) b = nI s := by
          unfold v_X3_saltOf
          have g : v_X4_isGroup (T 5 b) = false := by rw [eq_grp R I h8]; simpa using c
          rw [zU_n _ _ (show 5 ≠ 6 by decide), g, if_neg (by decide), zU_s, zupd_s]
        have ee : nI (v_X3_eatersBy T b (nI s)) = v_X5_eaters (v_X5_put N b 2 (nI s)) b := by
          rw [← eq_eaters t1 i1 h8]
          unfold v_X3_eaters
          rw [es, zeb_ct, zeb_ct]
          refine congrArg nI (fb_ct_cong (fun p hp => ?_))
          have er : v_X3_reasonBy (zU T 6 (upd (T 6) b (nI s))) p b (nI s) = v_X3_reasonBy T p b (nI s) := by
            unfold v_X3_reasonBy v_X3_owns
            rw [zU_n _ _ (show 3 ≠ 6 by decide), zU_n _ _ (show 12 ≠ 6 by decide), zU_n _ _ (show 11 ≠ 6 by decide), zU_n _ _ (show 4 ≠ 6 by decide), zU_n _ _ (show 13 ≠ 6 by decide), zU_n _ _ (show 5 ≠ 6 by decide), zU_n _ _ (show 7 ≠ 6 by decide), zU_n _ _ (show 10 ≠ 6 by decide)]
          rw [er]
        rw [ee]
        by_cases d : v_X5_eaters (v_X5_put N b 2 (nI s)) b ≤ most
        · rw [if_pos d, if_pos d, if_pos d]
          exact zbs_at R I h8 c hx fr hf n best most (s + 1) _ (by omega) (by omega) hP
        · rw [if_neg d, if_neg d, if_neg d]
          exact zbs_at R I h8 c hx fr hf n (nI s) _ (s + 1) _ (by omega) (by omega) hP
theorem zbs_eq (R : zTw T (M 0)) (I : zI M) {x : Int32} (c0 : v_X5_isBread M x = true) {fr : Nat} (hf : fr < 10000) : v_X4_bestSaltFrom T x fr = (v_X5_saltFor M x.toNatClampNeg fr).1 := by
  obtain ⟨ex, h8, hn⟩ := zisb_in I c0
  unfold v_X4_bestSaltFrom v_X5_saltFor v_X5_hasOwnSalt v_X3_isInGroup
  rw [eq_isOpenB1 R I c0, eq_grp R I h8]
  by_cases op : v_X5_isOpen M x.toNatClampNeg = true
  · rw [if_pos op, if_pos op]
    by_cases g : v_X5_isOfGroup M x.toNatClampNeg = true
    · rw [if_pos g, if_pos g, if_neg (by decide)]
    · rw [if_neg g, if_neg g, if_pos rfl]
      exact zbs_at R I h8 g rfl fr hf 21 (-1) (-1) fr M (by omega) (by omega) (fun _ _ => rfl)
  · rw [if_neg op, if_neg op, if_neg (by decide)]
theorem em_bestSalt (V : zInv Z T0 T1 T2 T3 T4 T5 T X M) (x : Int32) (s : Int32) :
    (e_X4_bestSalt T x s = none ∧ (v_X5_bestSalt M x s).2 5 0 = 0 ∧ v_X4_bestSalt T x s = (v_X5_bestSalt M x s).1 ∧ zInv Z T0 T1 T2 T3 T4 T5 T X (v_X5_bestSalt M x s).2) ∨
    (e_X4_bestSalt T x s = some zIO ∧ (v_X5_bestSalt M x s).2 5 0 = 1 ∧ zInv Z T0 T1 T2 T3 T4 T5 T X (v_X5_bestSalt M x s).2) ∨
    (e_X4_bestSalt T x s = some zIA ∧ (v_X5_bestSalt M x s).2 5 0 = 2 ∧ zInv Z T0 T1 T2 T3 T4 T5 T X (v_X5_bestSalt M x s).2) := by
  unfold e_X4_bestSalt v_X5_bestSalt
  rw [enB V, enSa]
  have V' := zInv5 V (fun _ => 0)
  by_cases c0 : v_X5_isBread M x = true
  · rw [if_pos c0, if_pos rfl, if_pos c0]
    by_cases c1 : v_X5_isSalt s = true
    · left
      obtain ⟨et, ht⟩ := znat (zmsa c1)
      rw [if_pos c1, if_pos rfl, if_pos c1]
      obtain ⟨f0, f1⟩ := zsf (zU M 5 (fun _ => 0)) x.toNatClampNeg s.toNatClampNeg
      refine ⟨rfl, ?_, ?_, zInv_row V' f0 (f1 1 (by decide)) (f1 2 (by decide)) (f1 3 (by decide)) (f1 4 (by decide))⟩
      · dsimp only; rw [f1 5 (by decide), zU_s]
      · unfold v_X4_bestSalt
        dsimp only
        exact zbs_eq V'.tw V'.ro (zisb5.trans c0) ht
    · right; right
      rw [if_neg c1, if_neg (by simp), if_neg c1]; exact ⟨rfl, rfl, zInv5 V _⟩
  · right; left
    rw [if_neg c0, if_neg (by simp), if_neg c0]; exact ⟨rfl, rfl, zInv5 V _⟩
end EM
