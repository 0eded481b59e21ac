/-! run -/
section EU
variable {Z T0 T1 T2 T3 T4 T5 T X M N : Nat → Nat → Int32}
theorem zend_rc {r : Nat} (hr : (N 8 0).toNatClampNeg = r) (hp : zPr X N) (he : v_X5_isEnded N = true) : zRc X N r := by
  have e : N 10 0 = 6 ∨ (N 10 0 = 3 ∧ ¬ N 9 0 = -1) := by
    unfold v_X5_isEnded at he
    by_cases a : N 10 0 = 6
    · exact Or.inl a
    · rw [if_neg a] at he
      by_cases b : N 10 0 = 3
      · rw [if_pos b] at he
        by_cases c : N 9 0 = -1
        · rw [if_pos c] at he; cases he
        · exact Or.inr ⟨b, c⟩
      · rw [if_neg b] at he; cases he
  unfold zPr at hp
  rw [hr] at hp
  rcases hp with ⟨a, b⟩ | ⟨e4, h⟩
  · rcases e with e | ⟨e, _⟩ <;> rw [b] at e <;> exact absurd e (by decide)
  · refine ⟨e4, ?_⟩
    rcases h with ⟨a, b, c, d⟩ | ⟨a, b, c⟩ | ⟨a, b, c, d, f⟩ | ⟨a, b, c⟩ | ⟨a, b, c, ⟨v, d, f, g⟩, nk⟩ | ⟨a, b, c, d⟩
    · rcases e with e | ⟨e, _⟩ <;> rw [b] at e <;> exact absurd e (by decide)
    · rcases e with e | ⟨e, _⟩ <;> rw [b] at e <;> exact absurd e (by decide)
    · rcases e with e | ⟨e, _⟩ <;> rw [b] at e <;> exact absurd e (by decide)
    · rcases e with e | ⟨_, e⟩
      · rcases c with ⟨c, _⟩ | ⟨c, _⟩ <;> rw [c] at e <;> exact absurd e (by decide)
      · exact absurd b e
    · rcases e with e | ⟨e, _⟩
      · rcases nk with ⟨q, _⟩ | ⟨q, _⟩ <;> rw [q] at e <;> exact absurd e (by decide)
      · rcases nk with ⟨_, q | ⟨q, q5⟩⟩ | ⟨q, _⟩
        · exact Or.inr (Or.inl ⟨q, c.symm, v, g q, d, f⟩)
        · exact Or.inl ⟨q, q5, c.symm⟩
        · rw [q] at e; exact absurd e (by decide)
    · rcases d with d | ⟨d, d6⟩
      · exact Or.inr (Or.inr (Or.inr ⟨d, c⟩))
      · exact Or.inr (Or.inr (Or.inl ⟨d, c, d6⟩))
theorem zpr_0 (hp : zPr X N) (h : X 3 0 = 0) : N 10 0 = 0 := by
  rcases hp with ⟨_, b⟩ | ⟨_, h'⟩
  · exact b
  · rcases h' with ⟨a, _⟩ | ⟨a, _⟩ | ⟨a, _⟩ | ⟨a, _⟩ | ⟨a, _⟩ | ⟨a, _⟩ <;> rw [h] at a <;> exact absurd a (by decide)
theorem zrun_at {len : Nat} (hl : len ≤ 60) (ok : ∀ j, j < len → (v_X5_takes (zMs M j) (M 4 j)).1 = true) (ht : ∀ j, j < len → vp_in (M 4 j) 127) (hK : ∀ j, j ≤ len → zPr (zXs X M j) (zMs M j) ∧ zMs M j 8 0 = nI (zrc M j)) (en : v_X5_isEnded (zMs M len) = true) {Mr : Nat → Nat → Int32} (m7 : Mr 7 = zMs M len 7) (m8 : Mr 8 = zMs M len 8) (nm : ∀ p, p ≤ zrc M len → zNum Mr p) :
    ∀ (n n2 a d : Nat) (T1 N X' : Nat → Nat → Int32), 60 - d < n → zrc M len + 1 - d < n2 → a ≤ len → X' 1 0 = nI len → X' 2 0 = nI a → (∀ j, j < len → X' 0 j = M 4 j) → zPr X' (zMs M a) → ((a < len ∧ zrc M a = d) ∨ (a = len ∧ d = zrc M len + 1)) → zTw T1 (N 0) → zI N → (∀ k, k ≠ 0 → N k = Mr k) →
    (v_X4_carryOutAll_9 n d T1 X').1 = (v_X5_run_57 n2 d N).1 ∧ zTw (v_X4_carryOutAll_9 n d T1 X').2.1 ((v_X5_run_57 n2 d N).2 0) ∧ zI (v_X5_run_57 n2 d N).2 ∧ (∀ k, k ≠ 0 → (v_X5_run_57 n2 d N).2 k = Mr k)
  | 0, _, _, _, _, _, _, h, _, _, _, _, _, _, _, _, _, _ => absurd h (Nat.not_lt_zero _)
  | n + 1, 0, _, _, _, _, _, _, h, _, _, _, _, _, _, _, _, _ => absurd h (Nat.not_lt_zero _)
  | n + 1, n2 + 1, a, d, T1, N, X', h, h2, ha, h1, hx2, h0, hp, hd, R, I, fr => by
    have le := zrc_le M len
    have n8 : (N 8 0).toNatClampNeg = zrc M len := by rw [fr 8 (by decide), m8, (hK len (Nat.le_refl _)).2, nI_nat (by omega)]
    have hr : ∀ j, j ≤ len → zMs M j 8 0 = nI (zrc M j) := fun j hj => (hK j hj).2
    rw [v_X4_carryOutAll_9, v_X5_run_57, n8]
    rcases hd with ⟨ha2, hda⟩ | ⟨hae, hde⟩
    · have lea := zrc_le M a
      have moa : zrc M a ≤ zrc M len := fb_ct_mono _ ha
      rw [if_neg (show ¬ 60 ≤ d by omega), if_neg (show ¬ zrc M len < d by omega)]
      have rd : v_X0_readCommand X' = v_X0_readCommand_19b 61 true X' := by
        unfold v_X0_readCommand
        rw [h1, hx2, if_neg (nI_ge ha2 (by omega))]
      obtain ⟨e, X2, r1, r2, r3, r4, r5, r6, r7, r8⟩ := zrd_at hl ok ht hr 61 a X' (by omega) ha h1 hx2 h0 hp
      rw [rd, r1, if_pos rfl]
      have keep : ∀ q, q < 3 * zrc M e → N 7 q = zMs M e 7 q := fun q hq => by
        rw [fr 7 (by decide), m7]
        have k := zMs_keep hl ok ht (zXs X M) hK (len - e) e (by omega) q hq
        rw [show e + (len - e) = len by omega] at k
        exact k
      have dle : d ≤ zrc M len := by omega
      have nmN : zNum N d := by
        have q := nm d dle
        unfold zNum at q ⊢
        rw [fr 7 (by decide)]; exact q
      have both : zRc X2 N d ∧ ((e < len ∧ zrc M e = d + 1) ∨ (e = len ∧ d + 1 = zrc M len + 1)) := by
        rcases r8 with ⟨g1, g2, g3⟩ | ⟨g1, g2⟩
        · refine ⟨?_, ?_⟩
          · rw [hda] at g2 g1
            unfold zRc at g2 ⊢
            rw [keep (3 * d) (by omega), keep (3 * d + 1) (by omega), keep (3 * d + 2) (by omega)]; exact g2
          · left
            refine ⟨?_, by omega⟩
            rcases Nat.lt_or_ge e len with q | q
            · exact q
            · have ee : e = len := by omega
              subst ee
              have z := zpr_0 r7 g3
              unfold v_X5_isEnded at en
              rw [z, if_neg (by decide), if_neg (by decide)] at en; cases en
        · subst g1
          have e8 : (zMs M e 8 0).toNatClampNeg = d := by rw [hr e (Nat.le_refl _), nI_nat (by omega)]; omega
          have q := zend_rc e8 r7 en
          refine ⟨?_, Or.inr ⟨rfl, by omega⟩⟩
          unfold zRc at q ⊢
          rw [fr 7 (by decide), m7]; exact q
      obtain ⟨rc, nx⟩ := both
      obtain ⟨c1, c2⟩ := zco R I nmN rc
      obtain ⟨i1, i2⟩ := zcr_I I nmN
      by_cases g : (v_X4_carryOut T1 X2).1 = true
      · rw [if_pos g, if_pos (c1.symm.trans g)]
        exact zrun_at hl ok ht hK en m7 m8 nm n n2 e (d + 1) _ _ X2 (by omega) (by omega) r3 r4 r5 r6 r7 nx c2 i1 (fun k hk => (i2 k hk).trans (fr k hk))
      · rw [if_neg g, if_neg (fun z => g (c1.trans z))]
        exact ⟨rfl, c2, i1, fun k hk => (i2 k hk).trans (fr k hk)⟩
    · rw [if_pos (show zrc M len < d by omega)]
      by_cases c : 60 ≤ d
      · rw [if_pos c]; exact ⟨rfl, R, I, fr⟩
      · rw [if_neg c]
        have rd : v_X0_readCommand X' = (false, X') := by
          unfold v_X0_readCommand
          rw [h1, hx2, hae, if_pos (nI_le (Nat.le_refl _) (by omega)), v_X0_readCommand_19, if_neg (by decide)]
        have rd1 : (v_X0_readCommand X').1 = false := by rw [rd]
        rw [rd1, if_neg (by decide)]; exact ⟨rfl, R, I, fr⟩
theorem em_run (V : zInv Z T0 T1 T2 T3 T4 T5 T X M) :
    (e_X4_run Z T0 T1 T2 T3 T4 T5 T X = none ∧ (v_X5_run M).2 5 0 = 0 ∧ (v_X4_run Z T0 T1 T2 T3 T4 T5 T X).1 = (v_X5_run M).1 ∧ ∃ Z' U0 U1 U2 U3 U4 U5 T' X', (v_X4_run Z T0 T1 T2 T3 T4 T5 T X).2 = (Z', U0, U1, U2, U3, U4, U5, T', X') ∧ zInv Z' U0 U1 U2 U3 U4 U5 T' X' (v_X5_run M).2) ∨
    (e_X4_run Z T0 T1 T2 T3 T4 T5 T X = some zIA ∧ (v_X5_run M).2 5 0 = 1 ∧ zInv Z T0 T1 T2 T3 T4 T5 T (v_X0_isComplete X).2 (v_X5_run M).2) := by
  obtain ⟨len, e, a1, a2, a3, a4, a5, a6, a7, a8, a9⟩ := zer V.tx
  have fr := (zrt V.tx.1).1
  have cX2 : (v_X0_isComplete X).2 = (v_X0_errorIndex X).2 := by
    unfold v_X0_isComplete
    repeat' split
    all_goals rfl
  have VM : zInv Z T0 T1 T2 T3 T4 T5 T (v_X0_isComplete X).2 (v_X5_rightUpTo M).2 := by
    have V2 := zInv_row V (fr 0 (by decide) (by decide) (by decide) (by decide)) (fr 1 (by decide) (by decide) (by decide) (by decide)) (fr 2 (by decide) (by decide) (by decide) (by decide)) (fr 3 (by decide) (by decide) (by decide) (by decide)) (fr 4 (by decide) (by decide) (by decide) (by decide))
    refine ⟨V2.tw, V2.ro, V2.hi, ?_⟩
    have t := V2.tx
    unfold zTx at t ⊢
    rw [cX2, a8 1 (by decide) (by decide) (by decide) (by decide) (by decide), a8 0 (by decide) (by decide) (by decide) (by decide) (by decide)]; exact t
  have m3 : (v_X5_rightUpTo M).2 3 0 = nI len := by rw [fr 3 (by decide) (by decide) (by decide) (by decide)]; exact a2
  have x1 : (v_X0_errorIndex X).2 1 0 = nI len := by rw [a8 1 (by decide) (by decide) (by decide) (by decide) (by decide)]; exact a3
  have nie : nI e = nI len ↔ e = len := ⟨fun z => by have := congrArg Int32.toNatClampNeg z; rw [nI_nat (by omega), nI_nat (by omega)] at this; exact this, fun z => by rw [z]⟩
  have nc : (v_X0_isComplete X).1 = false → ((v_X5_rightUpTo M).1 = (v_X5_rightUpTo M).2 3 0 → ¬ v_X5_isEnded (v_X5_rightUpTo M).2 = true) → _ := fun h1 h2 => (Or.inr ⟨by unfold e_X4_run; rw [h1, if_neg (by decide)], by
      unfold v_X5_run
      by_cases c : (v_X5_rightUpTo M).1 = (v_X5_rightUpTo M).2 3 0
      · rw [if_pos c, if_neg (h2 c)]; exact ⟨rfl, zInv5 VM _⟩
      · rw [if_neg c]; exact ⟨rfl, zInv5 VM _⟩⟩ : (e_X4_run Z T0 T1 T2 T3 T4 T5 T X = none ∧ (v_X5_run M).2 5 0 = 0 ∧ (v_X4_run Z T0 T1 T2 T3 T4 T5 T X).1 = (v_X5_run M).1 ∧ ∃ Z' U0 U1 U2 U3 U4 U5 T' X', (v_X4_run Z T0 T1 T2 T3 T4 T5 T X).2 = (Z', U0, U1, U2, U3, U4, U5, T', X') ∧ zInv Z' U0 U1 U2 U3 U4 U5 T' X' (v_X5_run M).2) ∨
    (e_X4_run Z T0 T1 T2 T3 T4 T5 T X = some zIA ∧ (v_X5_run M).2 5 0 = 1 ∧ zInv Z T0 T1 T2 T3 T4 T5 T (v_X0_isComplete X).2 (v_X5_run M).2))
  by_cases ee : e = len
  · obtain ⟨ok, b2, b3⟩ := a9 ee
    have cc : (v_X0_isComplete X).1 = v_X5_isEnded (zMs M len) := by
      unfold v_X0_isComplete
      rw [a6, x1, if_pos (nie.mpr ee)]
      unfold v_X5_isEnded v_X0_isHoldKind
      rcases b3 with ⟨p, q⟩ | ⟨_, h⟩
      · rw [p, q]; rfl
      · rcases h with ⟨p, q, r, s⟩ | ⟨p, q, r⟩ | ⟨p, q, r, s, t⟩ | ⟨p, q, r⟩ | ⟨p, q, r, ⟨v, s, t, w⟩, nk⟩ | ⟨p, q, r, s⟩
        · rw [p, q]; rfl
        · rw [p, q]; rfl
        · rw [p, q]; rfl
        · rw [p, q]
          rcases r with ⟨r, _⟩ | ⟨r, _⟩ <;> rw [r] <;> rfl
        · have n1 : ¬ zMs M len 9 0 = -1 := by
            rw [q, t]; intro z
            have := congrArg Int32.toInt z
            rw [nI_toInt (by omega), show (-1 : Int32).toInt = -1 by decide] at this; omega
          rw [p, if_neg (by decide), if_pos rfl, if_neg n1]
          rcases zNk_k nk with ⟨g, k⟩ | ⟨g, k⟩
          · have n : ¬ (v_X0_errorIndex X).2 4 0 = 105 ∧ ¬ (v_X0_errorIndex X).2 4 0 = 111 := by rcases k with k | k | k <;> rw [k] <;> decide
            rw [g, if_neg n.1, if_neg n.2, if_neg (by decide), if_neg (by decide), if_pos rfl]
          · rw [g, if_neg (show ¬ (4 : Int32) = 6 by decide), if_neg (show ¬ (4 : Int32) = 3 by decide)]
            rcases k with k | k
            · rw [if_pos k, if_pos rfl]
            · have n5 : ¬ (v_X0_errorIndex X).2 4 0 = 105 := by rw [k]; decide
              rw [if_neg n5, if_pos k, if_pos rfl]
        · rw [p, q]; rfl
    by_cases en : v_X5_isEnded (zMs M len) = true
    · left
      have c1 : (v_X5_rightUpTo M).1 = (v_X5_rightUpTo M).2 3 0 := by rw [a7, m3, ee]
      have c2 : v_X5_isEnded (v_X5_rightUpTo M).2 = true := by rw [b2]; exact en
      have er : v_X5_run M = v_X5_run_57 25 0 (zRn M) := by unfold v_X5_run; rw [if_pos c1, if_pos c2]; rfl
      obtain ⟨Z', U0, U1, U2, U3, U4, U5, es, V1⟩ := eq_save VM (fun _ => 0)
      have zr : ∀ k, k ≠ 3 → zRn M k = v_X5_save (zU (v_X5_rightUpTo M).2 5 (fun _ => 0)) k := fun k hk => zU_n _ _ hk
      have h0 : zRn M 0 = M 0 := zRn_0 V.hi.1 V.tx.1
      have tx4 : ∀ j, j < len → vp_in (M 4 j) 127 := fun j hj => (a4 j hj).2
      have xr : (v_X0_restart (v_X0_isComplete X).2) 3 0 = 0 := rfl
      have hK := zXs_ok (X := v_X0_restart (v_X0_isComplete X).2) a1 ok tx4 xr
      have m7 : zRn M 7 = zMs M len 7 := by rw [zRn_f V.hi.1 V.tx.1 (by decide) (by decide) (by decide) (by decide), b2]
      have m8 : zRn M 8 = zMs M len 8 := by rw [zRn_f V.hi.1 V.tx.1 (by decide) (by decide) (by decide) (by decide), b2]
      have le := zrc_le M len
      have e8 : (zRn M 8 0).toNatClampNeg = zrc M len := by rw [m8, (hK len (Nat.le_refl _)).2, nI_nat (by omega)]
      have nm : ∀ p, p ≤ zrc M len → zNum (zRn M) p := fun p hp => zRn_N V.hi.1 V.tx.1 c1 c2 p (by rw [e8]; exact hp)
      have r24 : zrc M len < 24 := by have := (znat (zRn_8 V.hi.1 V.tx.1)).2; rw [e8] at this; exact this
      have l0 : 0 < len := by
        rcases Nat.eq_zero_or_pos len with z | z
        · subst z
          have : v_X5_isEnded (zMs M 0) = false := rfl
          rw [this] at en; cases en
        · exact z
      obtain ⟨q1, q2, q3, q4⟩ := zrun_at a1 ok tx4 hK en m7 m8 nm 61 25 0 0 T (zRn M) (v_X0_restart (v_X0_isComplete X).2) (by decide) (by omega) (Nat.zero_le _)
        (by show (v_X0_isComplete X).2 1 0 = _; rw [cX2]; exact x1) rfl (fun j hj => by show (v_X0_isComplete X).2 0 j = _; rw [cX2, a8 0 (by decide) (by decide) (by decide) (by decide) (by decide)]; exact (a4 j hj).1) (Or.inl ⟨rfl, rfl⟩) (Or.inl ⟨l0, rfl⟩) (by rw [h0]; exact V.tw) (zI_row h0 V.ro) (fun _ _ => rfl)
      rw [er]
      have eo : (v_X0_isComplete X).1 = true := cc.trans en
      have es2 : v_X1_save Z T0 T1 T2 T3 T4 T5 T = (Z', U0, U1, U2, U3, U4, U5) := es
      refine ⟨by unfold e_X4_run; rw [if_pos eo], ?_, ?_, Z', U0, U1, U2, U3, U4, U5, _, _, by unfold v_X4_run; rw [es2], ?_, q3, ?_, ?_⟩
      · rw [q4 5 (by decide), zr 5 (by decide), zse5 VM.hi.1]
      · exact q1
      · exact q2
      · exact zHi_ext (by rw [q4 1 (by decide), zr 1 (by decide)]) (by rw [q4 2 (by decide), zr 2 (by decide)]) V1.hi
      · have k3 : (v_X5_run_57 25 0 (zRn M)).2 3 0 = 0 := by rw [q4 3 (by decide)]; rfl
        exact ⟨by rw [k3]; exact (vp_in_nI (by decide) (by decide) : vp_in (nI 0) 61), by rw [k3, zU_s], fun i hi => by rw [k3] at hi; exact absurd hi (Nat.not_lt_zero _)⟩
    · exact nc (by rw [cc]; simpa using en) (fun _ => by rw [b2]; exact en)
  · refine nc ?_ (fun c => absurd ?_ ee)
    · unfold v_X0_isComplete
      rw [a6, x1, if_neg (fun z => ee (nie.mp z))]
    · rw [a7, m3] at c; exact nie.mp c
end EU
