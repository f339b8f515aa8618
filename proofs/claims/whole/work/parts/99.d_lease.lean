theorem l_to86 {n : Nat} : ∀ d i, i + d = 10 → ∀ m, d < m → ∀ B : jp_M, ∃ B', f_M_takesOther_86 m (nI n) (nI i) B = some B' ∧ (∀ q, ¬ q = 104 → ¬ q = 123 → B' q = B q) ∧ B' 104 = upd (upd (B 104) 37 (nI n)) 3 (nI 0) ∧ ∀ j, B' 123 j = if i ≤ j ∧ j < 10 then B 123 (10 + j) else B 123 j := by
  intro d
  induction d with
  | zero =>
    intro i hi m hm B
    obtain ⟨m, rfl⟩ : ∃ k, m = k + 1 := ⟨m - 1, by omega⟩
    have : 10 ≤ i := by omega
    refine ⟨jp_set B 104 (upd (upd (B 104) 37 (nI n)) 3 (nI 0)), ?_, fun q h1 _ => st_ne h1, st_same _ _ _, fun j => by rw [st_ne (by decide), if_neg (by omega)]⟩
    simp (disch := omega) only [f_M_takesOther_86, jp_c, decide_eq_true_eq, n_lit, n_le, this, st_st, st_ap, Nat.reduceEqDiff, Nat.reduceAdd, Nat.reduceMul, ite_true, ite_false, if_true, if_false, eq_self_iff_true, ↓reduceIte, and_self, and_true, true_and, and_false, false_and, not_true_eq_false, not_false_eq_true, if_pos, if_neg]
  | succ d ih =>
    intro i hi m hm B
    obtain ⟨m, rfl⟩ : ∃ k, m = k + 1 := ⟨m - 1, by omega⟩
    have hc' : ¬ 10 ≤ i := by omega
    obtain ⟨B', b1, b2, b3, b4⟩ := ih (i + 1) (by omega) m (by omega) (jp_set B 123 (upd (B 123) i (B 123 (10 + i))))
    refine ⟨B', ?_, ?_, ?_, ?_⟩
    · rw [← b1]
      simp (disch := omega) only [f_M_takesOther_86, jp_c, decide_eq_true_eq, n_lit, n_add, n_le, n_in, n_cl, hc', jg_t, Nat.reduceEqDiff, Nat.reduceAdd, Nat.reduceMul, ite_true, ite_false, if_true, if_false, eq_self_iff_true, ↓reduceIte, and_self, and_true, true_and, and_false, false_and, not_true_eq_false, not_false_eq_true, if_pos, if_neg]
    · intro q h1 h2; rw [b2 q h1 h2, st_ne h2]
    · rw [b3, st_ne (by decide)]
    · intro j
      rw [b4 j, st_same]
      by_cases hj : j = i
      · subst hj
        rw [if_neg (by omega), ud_eq rfl, if_pos ⟨Nat.le_refl _, by omega⟩]
      · by_cases hr : i ≤ j ∧ j < 10
        · rw [if_pos (by omega), ud_ne (by omega), if_pos hr]
        · rw [if_neg (by omega), ud_ne hj, if_neg hr]
theorem l_to7 {n : Nat} : ∀ d i, i + d = 16 → ∀ m, d < m → ∀ B : jp_M, ∃ B', f_M_takesOther_7 m (nI n) (nI i) B = some B' ∧ (∀ q, ¬ q = 104 → ¬ q = 124 → B' q = B q) ∧ B' 104 = upd (B 104) 39 (nI n) ∧ ∀ j, B' 124 j = if i ≤ j ∧ j < 16 then B 124 (16 + j) else B 124 j := by
  intro d
  induction d with
  | zero =>
    intro i hi m hm B
    obtain ⟨m, rfl⟩ : ∃ k, m = k + 1 := ⟨m - 1, by omega⟩
    have : 16 ≤ i := by omega
    refine ⟨jp_set B 104 (upd (B 104) 39 (nI n)), ?_, fun q h1 _ => st_ne h1, st_same _ _ _, fun j => by rw [st_ne (by decide), if_neg (by omega)]⟩
    simp (disch := omega) only [f_M_takesOther_7, jp_c, decide_eq_true_eq, n_lit, n_le, this, st_st, st_ap, Nat.reduceEqDiff, Nat.reduceAdd, Nat.reduceMul, ite_true, ite_false, if_true, if_false, eq_self_iff_true, ↓reduceIte, and_self, and_true, true_and, and_false, false_and, not_true_eq_false, not_false_eq_true, if_pos, if_neg]
  | succ d ih =>
    intro i hi m hm B
    obtain ⟨m, rfl⟩ : ∃ k, m = k + 1 := ⟨m - 1, by omega⟩
    have hc' : ¬ 16 ≤ i := by omega
    obtain ⟨B', b1, b2, b3, b4⟩ := ih (i + 1) (by omega) m (by omega) (jp_set B 124 (upd (B 124) i (B 124 (16 + i))))
    refine ⟨B', ?_, ?_, ?_, ?_⟩
    · rw [← b1]
      simp (disch := omega) only [f_M_takesOther_7, jp_c, decide_eq_true_eq, n_lit, n_add, n_le, n_in, n_cl, hc', jg_t, Nat.reduceEqDiff, Nat.reduceAdd, Nat.reduceMul, ite_true, ite_false, if_true, if_false, eq_self_iff_true, ↓reduceIte, and_self, and_true, true_and, and_false, false_and, not_true_eq_false, not_false_eq_true, if_pos, if_neg]
    · intro q h1 h2; rw [b2 q h1 h2, st_ne h2]
    · rw [b3, st_ne (by decide)]
    · intro j
      rw [b4 j, st_same]
      by_cases hj : j = i
      · subst hj
        rw [if_neg (by omega), ud_eq rfl, if_pos ⟨Nat.le_refl _, by omega⟩]
      · by_cases hr : i ≤ j ∧ j < 16
        · rw [if_pos (by omega), ud_ne (by omega), if_pos hr]
        · rw [if_neg (by omega), ud_ne hj, if_neg hr]
/-- the draft is emptied -/
theorem l_rl2 {c N : Nat} {t : Nat → Nat} {A0 B0 A : jp_M} {p n k x : Nat} {F : List Nat} {L : Nat} : ∀ d i, i + d = 10 → ∀ m, d < m → ∀ B : jp_M, YS c N t A0 B0 A B p n k x F L → (∀ r, r < i → B 123 (10 + r) = nI 0) → ∃ B', f_M_readLease_2 m (nI i) B = f_M_readLease_26 jFu (nI 0) B' ∧ YS c N t A0 B0 A B' p n k x F L ∧ ∀ r, r < 10 → B' 123 (10 + r) = nI 0 := by
  intro d
  induction d with
  | zero =>
    intro i hi m hm B h hr
    obtain ⟨m, rfl⟩ : ∃ k, m = k + 1 := ⟨m - 1, by omega⟩
    have : 10 ≤ i := by omega
    refine ⟨B, ?_, h, fun r h' => hr r (by omega)⟩
    simp (disch := omega) only [f_M_readLease_2, jp_c, decide_eq_true_eq, n_lit, n_le, this, Nat.reduceEqDiff, Nat.reduceAdd, Nat.reduceMul, ite_true, ite_false, if_true, if_false, eq_self_iff_true, ↓reduceIte, and_self, and_true, true_and, and_false, false_and, not_true_eq_false, not_false_eq_true, if_pos, if_neg]
  | succ d ih =>
    intro i hi m hm B h hr
    obtain ⟨m, rfl⟩ : ∃ k, m = k + 1 := ⟨m - 1, by omega⟩
    have hc' : ¬ 10 ≤ i := by omega
    obtain ⟨B', b1, b2, b3⟩ := ih (i + 1) (by omega) m (by omega) _ (y_st h (q := 123) (j := 10 + i) (Or.inr (Or.inl ⟨rfl, by omega⟩)) (nI 0)) (fun r h' => by
      rw [st_same]
      by_cases he : r = i
      · rw [ud_eq (by omega)]
      · rw [ud_ne (by omega)]; exact hr r (by omega))
    refine ⟨B', ?_, b2, b3⟩
    rw [← b1]
    simp (disch := omega) only [f_M_readLease_2, jp_c, decide_eq_true_eq, n_lit, n_add, n_le, n_in, n_cl, hc', jg_t, Nat.reduceEqDiff, Nat.reduceAdd, Nat.reduceMul, ite_true, ite_false, if_true, if_false, eq_self_iff_true, ↓reduceIte, and_self, and_true, true_and, and_false, false_and, not_true_eq_false, not_false_eq_true, if_pos, if_neg]
theorem l_rc2 {c N : Nat} {t : Nat → Nat} {A0 B0 A : jp_M} {p n k x : Nat} {F : List Nat} {L : Nat} : ∀ d i, i + d = 16 → ∀ m, d < m → ∀ B : jp_M, YS c N t A0 B0 A B p n k x F L → (∀ r, r < i → B 124 (16 + r) = nI 0) → ∃ B', f_M_readCites_2 m (nI i) B = f_M_readCites_26 jFu (nI 0) B' ∧ YS c N t A0 B0 A B' p n k x F L ∧ ∀ r, r < 16 → B' 124 (16 + r) = nI 0 := by
  intro d
  induction d with
  | zero =>
    intro i hi m hm B h hr
    obtain ⟨m, rfl⟩ : ∃ k, m = k + 1 := ⟨m - 1, by omega⟩
    have : 16 ≤ i := by omega
    refine ⟨B, ?_, h, fun r h' => hr r (by omega)⟩
    simp (disch := omega) only [f_M_readCites_2, jp_c, decide_eq_true_eq, n_lit, n_le, this, Nat.reduceEqDiff, Nat.reduceAdd, Nat.reduceMul, ite_true, ite_false, if_true, if_false, eq_self_iff_true, ↓reduceIte, and_self, and_true, true_and, and_false, false_and, not_true_eq_false, not_false_eq_true, if_pos, if_neg]
  | succ d ih =>
    intro i hi m hm B h hr
    obtain ⟨m, rfl⟩ : ∃ k, m = k + 1 := ⟨m - 1, by omega⟩
    have hc' : ¬ 16 ≤ i := by omega
    obtain ⟨B', b1, b2, b3⟩ := ih (i + 1) (by omega) m (by omega) _ (y_st h (q := 124) (j := 16 + i) (Or.inr (Or.inr ⟨rfl, by omega⟩)) (nI 0)) (fun r h' => by
      rw [st_same]
      by_cases he : r = i
      · rw [ud_eq (by omega)]
      · rw [ud_ne (by omega)]; exact hr r (by omega))
    refine ⟨B', ?_, b2, b3⟩
    rw [← b1]
    simp (disch := omega) only [f_M_readCites_2, jp_c, decide_eq_true_eq, n_lit, n_add, n_le, n_in, n_cl, hc', jg_t, Nat.reduceEqDiff, Nat.reduceAdd, Nat.reduceMul, ite_true, ite_false, if_true, if_false, eq_self_iff_true, ↓reduceIte, and_self, and_true, true_and, and_false, false_and, not_true_eq_false, not_false_eq_true, if_pos, if_neg]
/-- the last turn of a roof, 0 if there is none -/
def lst (F : List Nat) : Nat → Nat → Nat
  | 0, _ => 0
  | L + 1, r => if F.getD (2 * L) 0 = r then F.getD (2 * L + 1) 0 + 1 else lst F L r
theorem lst_cg {F F' : List Nat} : ∀ {L r : Nat}, (∀ i, i < 2 * L → F'.getD i 0 = F.getD i 0) → lst F' L r = lst F L r
  | 0, _, _ => rfl
  | L + 1, r, h => by
    rw [lst, lst, h (2 * L) (by omega), h (2 * L + 1) (by omega), lst_cg (fun i hi => h i (by omega))]
theorem l_le10 : ∀ d i, i + d = 10 → ∀ m, d < m → ∀ M : jp_M, (∀ r, r < i → M 16 r = nI 4294967295) → ∃ M', f_A_leases_10 m (nI i) M = f_A_leases_31 jFu (nI 0) M' ∧ (∀ q, ¬ q = 16 → M' q = M q) ∧ ∀ r, r < 10 → M' 16 r = nI 4294967295 := by
  intro d
  induction d with
  | zero =>
    intro i hi m hm M hr
    obtain ⟨m, rfl⟩ : ∃ k, m = k + 1 := ⟨m - 1, by omega⟩
    have : 10 ≤ i := by omega
    refine ⟨M, ?_, fun _ _ => rfl, fun r h' => hr r (by omega)⟩
    simp (disch := omega) only [f_A_leases_10, jp_c, decide_eq_true_eq, n_lit, n_le, this, Nat.reduceEqDiff, Nat.reduceAdd, Nat.reduceMul, ite_true, ite_false, if_true, if_false, eq_self_iff_true, ↓reduceIte, and_self, and_true, true_and, and_false, false_and, not_true_eq_false, not_false_eq_true, if_pos, if_neg]
  | succ d ih =>
    intro i hi m hm M hr
    obtain ⟨m, rfl⟩ : ∃ k, m = k + 1 := ⟨m - 1, by omega⟩
    have hc' : ¬ 10 ≤ i := by omega
    obtain ⟨M', b1, b2, b3⟩ := ih (i + 1) (by omega) m (by omega) (jp_set M 16 (upd (M 16) i (nI 4294967295))) (fun r h' => by
      rw [st_same]
      by_cases he : r = i
      · rw [ud_eq he]
      · rw [ud_ne he]; exact hr r (by omega))
    refine ⟨M', ?_, fun q hq => by rw [b2 q hq, st_ne hq], b3⟩
    rw [← b1]
    simp (disch := omega) only [f_A_leases_10, jp_c, decide_eq_true_eq, n_lit, n_neg1, n_add, n_le, n_in, n_cl, hc', jg_t, Nat.reduceEqDiff, Nat.reduceAdd, Nat.reduceMul, ite_true, ite_false, if_true, if_false, eq_self_iff_true, ↓reduceIte, and_self, and_true, true_and, and_false, false_and, not_true_eq_false, not_false_eq_true, if_pos, if_neg]
theorem l_le31 {F : List Nat} {L : Nat} (hL : L ≤ 16) (hF : ∀ i, i < L → F.getD (2 * i) 0 ≤ 9 ∧ F.getD (2 * i + 1) 0 < 10000) : ∀ d i, i + d = L → ∀ m, d < m → ∀ M : jp_M, M 78 0 = nI L → (∀ j, j < 2 * L → M 79 j = nI (F.getD j 0)) → (∀ r, r < 10 → M 16 r = nI (lst F i r) - nI 1) →
    ∃ M', f_A_leases_31 m (nI i) M = some M' ∧ (∀ q, ¬ q = 16 → M' q = M q) ∧ ∀ r, r < 10 → M' 16 r = nI (lst F L r) - nI 1 := by
  intro d
  induction d with
  | zero =>
    intro i hi m hm M h78 h79 hr
    obtain ⟨m, rfl⟩ : ∃ k, m = k + 1 := ⟨m - 1, by omega⟩
    have : L ≤ i := by omega
    have hi' : i = L := by omega
    refine ⟨M, ?_, fun _ _ => rfl, fun r h' => by rw [← hi']; exact hr r h'⟩
    simp (disch := omega) only [f_A_leases_31, jp_c, decide_eq_true_eq, n_lit, n_le, h78, this, Nat.reduceEqDiff, Nat.reduceAdd, Nat.reduceMul, ite_true, ite_false, if_true, if_false, eq_self_iff_true, ↓reduceIte, and_self, and_true, true_and, and_false, false_and, not_true_eq_false, not_false_eq_true, if_pos, if_neg]
  | succ d ih =>
    intro i hi m hm M h78 h79 hr
    obtain ⟨m, rfl⟩ : ∃ k, m = k + 1 := ⟨m - 1, by omega⟩
    have hc' : ¬ L ≤ i := by omega
    obtain ⟨g1, g2⟩ := hF i (by omega)
    have e1 := h79 (2 * i) (by omega)
    have e2 := h79 (2 * i + 1) (by omega)
    have hw : f_C_within (nI (F.getD (2 * i) 0)) (nI 9) = nI 1 := by
      rw [n_within, if_pos]
      rw [n_le (by omega) (by omega), n_le (by omega) (by omega)]
      omega
    obtain ⟨M', b1, b2, b3⟩ := ih (i + 1) (by omega) m (by omega) (jp_set M 16 (upd (M 16) (F.getD (2 * i) 0) (nI (F.getD (2 * i + 1) 0)))) (by rw [st_ne (by decide)]; exact h78) (fun j hj => by rw [st_ne (by decide)]; exact h79 j hj) (fun r h' => by
      rw [st_same, lst]
      by_cases he : F.getD (2 * i) 0 = r
      · rw [ud_eq he.symm, if_pos he, n_sub (by omega)]; rfl
      · rw [ud_ne (fun e => he e.symm), if_neg he]; exact hr r h')
    refine ⟨M', ?_, fun q hq => by rw [b2 q hq, st_ne hq], b3⟩
    rw [← b1]
    simp (disch := omega) only [f_A_leases_31, f_A_leases_73, jp_c, decide_eq_true_eq, n_lit, n_add, n_mul, n_le, n_in, n_cl, n_eq, h78, hc', e1, e2, hw, jg_t, Nat.reduceEqDiff, Nat.reduceAdd, Nat.reduceMul, ite_true, ite_false, if_true, if_false, eq_self_iff_true, ↓reduceIte, and_self, and_true, true_and, and_false, false_and, not_true_eq_false, not_false_eq_true, if_pos, if_neg]
def Inv2 (S : Nat) (B : jp_M) (F : List Nat) (L : Nat) : Prop := F.length = 2 * L ∧ (∀ i, i < L → F.getD (2 * i) 0 ≤ 9 ∧ F.getD (2 * i + 1) 0 < S) ∧ ∀ r, r < 10 → B 123 (10 + r) = nI (lst F L r)
theorem lst_S {F : List Nat} {S : Nat} : ∀ {L r : Nat}, (∀ i, i < L → F.getD (2 * i) 0 ≤ 9 ∧ F.getD (2 * i + 1) 0 < S) → lst F L r ≤ S
  | 0, _, _ => Nat.zero_le _
  | L + 1, r, h => by
    rw [lst]
    have := (h L (by omega)).2
    split
    · omega
    · exact lst_S (fun i hi => h i (by omega))
theorem p_text2 (w : Nat) {A B : jp_M} (hR : Rel A B) : tOK A (f_C_text (nI 2) w A) (f_M_text (nI 2) B) := by
  obtain ⟨N, t, A3, B1, p, n, k, x, e1, o2, hY, hT⟩ := tx_c hR (c := 2) (Or.inr (Or.inl rfl)) w
  have hR' := hR
  obtain ⟨⟨hW, hBk, hLw, hPe, hLe, hCi, hWi, hKi, hPo, hWy, hVo⟩, hPic, hKe, hTa, hFa, hTh, hWd⟩ := hR
  obtain ⟨P, S, U, hP, hS, hU, g4, g5, g6, -, -, -⟩ := hW.2
  have sB : B 104 7 = nI S := by rw [← hW.1.1.2.2.2.2.2.1, g5]
  have hT' := hT
  obtain ⟨t1, t2, t3, t4, t5, t6, t7, t8, t9, t10, t11⟩ := hT
  obtain ⟨B2, z1, z2, z3⟩ := l_rl2 10 0 (by omega) jFu (show 10 < 100000 by omega) B1 hY (fun r h => absurd h (by omega))
  have e2 : f_M_readsText (nI 2) (jp_set B 104 (upd (upd (upd (upd (upd (upd (B 104) 0 (nI 0)) 33 (nI 0)) 34 (nI 4294967295)) 14 (nI 0)) 27 (nI 0)) 28 (nI 0))) = (f_M_readLease_26 jFu (nI 0) B2).bind fun q => some (q.1, q.2) := by
    rw [← z1]
    simp (disch := omega) only [f_M_readsText, f_M_readLease, jp_c, decide_eq_true_eq, n_lit, n_eq, st_st, st_ap, o2, Option.bind_some, Nat.reduceEqDiff, Nat.reduceAdd, Nat.reduceMul, ite_true, ite_false, if_true, if_false, eq_self_iff_true, ↓reduceIte, and_self, and_true, true_and, and_false, false_and, not_true_eq_false, not_false_eq_true, if_pos, if_neg]
  have loop := l_loop (c := 2) (N := N) (t := t) (A0 := A3) (B0 := B1) (Or.inr (Or.inl rfl)) f_M_readLease_26 (fun _ M => f_M_readTurn M)
    (fun m l M => by simp only [f_M_readLease_26, n_lit, n_neg1, show jlo 2 = 27 from rfl]; rfl) (Inv2 S)
    (by
      intro A B p n k x F L h hI hL
      obtain ⟨i1, i2, i3⟩ := hI
      rcases l_turn h (by omega) (by rw [t7]; exact g5) (by rw [t11 7 (by decide)]; exact sB) hS with h' | ⟨A', B', p', n', k', x', v0, v1, q1, q2, q3, q4, q5, q6⟩
      · exact Or.inl h'
      · refine Or.inr ⟨A', B', p', n', k', x', _, q1, q2, q3, ?_, ?_, ?_⟩
        · simp only [ln_s, i1]; omega
        · intro i hi
          simp only [gd2, i1]
          by_cases he : i = L
          · subst he
            rw [if_neg (by omega), if_neg (by omega), show 2 * i - 2 * i = 0 by omega, show 2 * i + 1 - 2 * i = 1 by omega]
            exact ⟨q4, q5⟩
          · rw [if_pos (by omega), if_pos (by omega)]
            exact i2 i (by omega)
        · intro r hr
          have l1 : lst (F ++ [v0] ++ [v1]) L r = lst F L r := lst_cg (fun i hi => by rw [gd2, if_pos (by omega)])
          have g0 : (F ++ [v0] ++ [v1]).getD (2 * L) 0 = v0 := by rw [gd2, i1, if_neg (by omega), show 2 * L - 2 * L = 0 by omega]; rfl
          have g1 : (F ++ [v0] ++ [v1]).getD (2 * L + 1) 0 = v1 := by rw [gd2, i1, if_neg (by omega), show 2 * L + 1 - 2 * L = 1 by omega]; rfl
          rw [q6, lst, g0, g1, l1]
          by_cases he : v0 = r
          · rw [if_pos he, ud_eq (by omega)]
          · rw [if_neg he, ud_ne (by omega)]; exact i3 r hr)
    16 A3 B2 p n k x [] 0 jFu jFu rfl (show 16 < 100000 by omega) (show 16 < 100000 by omega) z2 ⟨rfl, fun i hi => absurd hi (by omega), fun r hr => z3 r hr⟩
  refine tx_end hR' (Or.inr (Or.inl rfl)) hT' (f_M_readLease_26 jFu (nI 0) B2) e1 e2 ?_
  rcases loop with h | ⟨A', B', p', n', k', x', F, L, q1, q2, q3, q4, q5⟩
  · exact Or.inl h
  · right
    obtain ⟨i1, i2, i3⟩ := q4
    obtain ⟨hS', ⟨f1, f2, f3⟩, ⟨b1, b2, b3, b4, b5⟩, y1, y2, y3⟩ := q3
    obtain ⟨B'', c1, c2, c3, c4⟩ := l_to86 (n := L) 10 0 (by omega) jFu (show 10 < 100000 by omega) (jp_set B' 104 (upd (B' 104) 13 (nI 0)))
    rw [st_same] at c3
    generalize hM1 : jp_set A' 1 (upd (A' 1) 5 (nI L)) = M1
    obtain ⟨M2, m1, m2, m3⟩ := l_le10 10 0 (by omega) jFu (show 10 < 100000 by omega) M1 (fun r h => absurd h (by omega))
    have m1q : ∀ q, ¬ q = 1 → M1 q = A' q := fun q hq => by rw [← hM1, st_ne hq]
    obtain ⟨M3, m4, m5, m6⟩ := l_le31 (F := F) q5 (fun i hi => ⟨(i2 i hi).1, by have := (i2 i hi).2; omega⟩) L 0 (by omega) jFu (show L < 100000 by omega) M2 (by rw [m2 78 (by decide), m1q 78 (by decide)]; exact y3) (fun j hj => by rw [m2 79 (by decide), m1q 79 (by decide)]; exact y2 j (by omega)) (fun r hr => by rw [m3 r hr, lst]; decide)
    have m3q : ∀ q, ¬ q = 1 → ¬ q = 16 → M3 q = A' q := fun q h1 h2 => by rw [m5 q h2, m2 q h2, m1q q h1]
    refine ⟨A', B', L, M3, B'', q1, q2, q5, ?_, ?_, ?_, ?_, fun q hq => by rw [m3q q (by omega) (by omega), f1 q (by simp only [List.mem_cons, List.not_mem_nil, or_false, not_or]; omega), t1 q (by simp only [List.mem_cons, List.not_mem_nil, or_false, not_or]; omega)]⟩
    · have e9 : f_A_leases A' = some M3 := by
        rw [← m4, ← m1]
        simp only [f_A_leases, n_lit, y3, hM1]
      simp (disch := omega) only [f_A_isTold, e9, jp_c, decide_eq_true_eq, n_lit, n_eq, Option.bind_some, Nat.reduceEqDiff, Nat.reduceAdd, Nat.reduceMul, ite_true, ite_false, if_true, if_false, eq_self_iff_true, ↓reduceIte, and_self, and_true, true_and, and_false, false_and, not_true_eq_false, not_false_eq_true, if_pos, if_neg]
    · rw [m3q 78 (by decide) (by decide)]; exact y3
    · rw [← c1]
      simp (disch := omega) only [f_M_takesOther, jp_c, decide_eq_true_eq, n_lit, n_eq, Nat.reduceEqDiff, Nat.reduceAdd, Nat.reduceMul, ite_true, ite_false, if_true, if_false, eq_self_iff_true, ↓reduceIte, and_self, and_true, true_and, and_false, false_and, not_true_eq_false, not_false_eq_true, if_pos, if_neg]
    · rw [if_neg (by decide)]
      have a1 : ∀ q, q ∉ [0, 1, 16, 68, 77, 78, 79] → f_C_forgetKept M3 q = A q := fun q hq => by
        rw [f_C_forgetKept, st_ne (nin_ne hq (by decide)), m3q q (nin_ne hq (by decide)) (nin_ne hq (by decide)), f1 q (nin_sub hq (by decide)), t1 q (nin_sub hq (by decide))]
      have b1' : ∀ q, q ∉ [104, 122, 123, 124] → B'' q = B q := fun q hq => by
        rw [c2 q (nin_ne hq (by decide)) (nin_ne hq (by decide)), st_ne (nin_ne hq (by decide)), b1 q hq, t8 q (nin_ne hq (by decide))]
      refine Rel_tx hR' ?_ ?_ ?_ ?_ ?_ ?_ ?_ ?_ ?_ ?_ ?_
      · intro q hq; exact a1 q (nin_sub hq (by decide))
      · intro i hi
        rw [f_C_forgetKept, st_same, ud_ne (nin_ne hi (by decide)), m3q 0 (by decide) (by decide), f1 0 (by decide)]
        exact t2 i (nin_ne hi (by decide))
      · intro q hq; exact b1' q (nin_sub hq (by decide))
      · intro i hi
        rw [c3, ud_ne (nin_ne hi (by decide)), ud_ne (nin_ne hi (by decide)), ud_ne (nin_ne hi (by decide)), b2 i (nin_sub hi (by decide)), t11 i (nin_sub hi (by decide))]
      · rw [a1 7 (by decide), a1 8 (by decide), a1 9 (by decide), a1 10 (by decide), a1 11 (by decide), b1' 114 (by decide), b1' 115 (by decide), b1' 116 (by decide), b1' 117 (by decide), b1' 118 (by decide), b1' 119 (by decide), b1' 120 (by decide)]
        exact hLw
      · rw [a1 14 (by decide), a1 15 (by decide), c3]
        simp (disch := decide) only [ud_ne]
        rw [b2 35 (by decide), t11 35 (by decide), c2 122 (by decide) (by decide), st_ne (by decide)]
        exact rPet_cg hPe (fun i hi => by rw [b3 i hi, t8 122 (by decide)])
      · refine ⟨?_, fun r hr => ⟨lst F L r, Nat.le_trans (lst_S i2) hS, ?_, ?_⟩⟩
        · rw [f_C_forgetKept, st_ne (by decide), m5 1 (by decide), m2 1 (by decide), ← hM1, st_same, ud_eq rfl, c3, ud_ne (by decide), ud_eq rfl]
        · rw [c4 r, if_pos ⟨Nat.zero_le _, hr⟩, st_ne (by decide)]; exact i3 r hr
        · rw [f_C_forgetKept, st_ne (by decide)]; exact m6 r hr
      · rw [a1 17 (by decide), a1 18 (by decide), c3]
        simp (disch := decide) only [ud_ne]
        rw [b2 39 (by decide), t11 39 (by decide), c2 124 (by decide) (by decide), st_ne (by decide)]
        exact rCite_cg hCi (fun i hi => by rw [b5 i hi, t8 124 (by decide)])
      · refine ⟨?_, ?_⟩
        · rw [f_C_forgetKept, st_same, ud_ne (by decide), m3q 0 (by decide) (by decide), f1 0 (by decide)]; exact t3
        · rw [c3]; simp (disch := decide) only [ud_ne, ud_eq]
      · rw [c3]
        simp (disch := decide) only [ud_ne]
        rw [f_C_forgetKept, st_ne (by decide), m3q 68 (by decide) (by decide), f2 7 (by decide), f2 8 (by decide), t4, t5, b2 33 (by decide), b2 34 (by decide), t9, t10]
        exact ⟨rfl, rfl⟩
      · right
        refine ⟨?_, ?_⟩
        · rw [f_C_forgetKept, st_same, ud_eq rfl]; rfl
        · rw [c3, ud_eq rfl]
def Inv3 (B : jp_M) (F : List Nat) (L : Nat) : Prop := F.length = 2 * L ∧ (∀ i, i < L → F.getD (2 * i) 0 < 16 ∧ F.getD (2 * i + 1) 0 < 16) ∧ ∀ i, i < 16 → ∃ m, m < 65536 ∧ B 124 (16 + i) = nI m ∧ ∀ y, y < 16 → (m.testBit y = true ↔ ∃ k, k < L ∧ F.getD (2 * k) 0 = i ∧ F.getD (2 * k + 1) 0 = y)
theorem p_text3 (w : Nat) {A B : jp_M} (hR : Rel A B) : tOK A (f_C_text (nI 3) w A) (f_M_text (nI 3) B) := by
  obtain ⟨N, t, A3, B1, p, n, k, x, e1, o2, hY, hT⟩ := tx_c hR (c := 3) (Or.inr (Or.inr rfl)) w
  have hR' := hR
  obtain ⟨⟨hW, hBk, hLw, hPe, hLe, hCi, hWi, hKi, hPo, hWy, hVo⟩, hPic, hKe, hTa, hFa, hTh, hWd⟩ := hR
  have hT' := hT
  obtain ⟨t1, t2, t3, t4, t5, t6, t7, t8, t9, t10, t11⟩ := hT
  obtain ⟨B2, z1, z2, z3⟩ := l_rc2 16 0 (by omega) jFu (show 16 < 100000 by omega) B1 hY (fun r h => absurd h (by omega))
  have e2 : f_M_readsText (nI 3) (jp_set B 104 (upd (upd (upd (upd (upd (upd (B 104) 0 (nI 0)) 33 (nI 0)) 34 (nI 4294967295)) 14 (nI 0)) 27 (nI 0)) 28 (nI 0))) = (f_M_readCites_26 jFu (nI 0) B2).bind fun q => some (q.1, q.2) := by
    rw [← z1]
    simp (disch := omega) only [f_M_readsText, f_M_readCites, jp_c, decide_eq_true_eq, n_lit, n_eq, st_st, st_ap, o2, Option.bind_some, Nat.reduceEqDiff, Nat.reduceAdd, Nat.reduceMul, ite_true, ite_false, if_true, if_false, eq_self_iff_true, ↓reduceIte, and_self, and_true, true_and, and_false, false_and, not_true_eq_false, not_false_eq_true, if_pos, if_neg]
  have loop := l_loop (c := 3) (N := N) (t := t) (A0 := A3) (B0 := B1) (Or.inr (Or.inr rfl)) f_M_readCites_26 (fun _ M => f_M_readCite M)
    (fun m l M => by simp only [f_M_readCites_26, n_lit, n_neg1, show jlo 3 = 29 from rfl]; rfl) Inv3
    (by
      intro A B p n k x F L h hI hL
      obtain ⟨i1, i2, i3⟩ := hI
      rcases l_cite h (by omega) with h' | ⟨A', B', p', n', k', x', v0, v1, q1, q2, q3, q4, q5, q6⟩
      · exact Or.inl h'
      · have g0 : (F ++ [v0] ++ [v1]).getD (2 * L) 0 = v0 := by rw [gd2, i1, if_neg (by omega), show 2 * L - 2 * L = 0 by omega]; rfl
        have g1 : (F ++ [v0] ++ [v1]).getD (2 * L + 1) 0 = v1 := by rw [gd2, i1, if_neg (by omega), show 2 * L + 1 - 2 * L = 1 by omega]; rfl
        have g2 : ∀ i, i < 2 * L → (F ++ [v0] ++ [v1]).getD i 0 = F.getD i 0 := fun i hi => by rw [gd2, if_pos (by omega)]
        refine Or.inr ⟨A', B', p', n', k', x', _, q1, q2, q3, ?_, ?_, ?_⟩
        · simp only [ln_s, i1]; omega
        · intro i hi
          by_cases he : i = L
          · subst he
            rw [g0, g1]; exact ⟨q4, q5⟩
          · rw [g2 _ (by omega), g2 _ (by omega)]
            exact i2 i (by omega)
        · intro i hi
          obtain ⟨m, m1, m2, m3⟩ := i3 i hi
          by_cases he : v0 = i
          · subst he
            refine ⟨m ||| 2 ^ v1, Nat.or_lt_two_pow (n := 16) m1 (Nat.pow_lt_pow_right (by omega) q5), ?_, ?_⟩
            · rw [q6, ud_eq rfl, m2, show (1 : Int32) = nI 1 from rfl, n_shl (by omega), n_or, Nat.one_mul]
            · intro y hy
              rw [Nat.testBit_or, Bool.or_eq_true, m3 y hy, Nat.testBit_two_pow, decide_eq_true_eq]
              constructor
              · rintro (⟨k, k1, k2, k3⟩ | h)
                · exact ⟨k, by omega, by rw [g2 _ (by omega)]; exact k2, by rw [g2 _ (by omega)]; exact k3⟩
                · exact ⟨L, by omega, g0, by rw [g1]; exact h⟩
              · rintro ⟨k, k1, k2, k3⟩
                by_cases hk : k = L
                · subst hk
                  rw [g1] at k3
                  exact Or.inr k3
                · rw [g2 _ (by omega)] at k2 k3
                  exact Or.inl ⟨k, by omega, k2, k3⟩
          · refine ⟨m, m1, by rw [q6, ud_ne (by omega)]; exact m2, ?_⟩
            intro y hy
            rw [m3 y hy]
            constructor
            · rintro ⟨k, k1, k2, k3⟩
              exact ⟨k, by omega, by rw [g2 _ (by omega)]; exact k2, by rw [g2 _ (by omega)]; exact k3⟩
            · rintro ⟨k, k1, k2, k3⟩
              by_cases hk : k = L
              · subst hk
                rw [g0] at k2
                exact absurd k2 he
              · rw [g2 _ (by omega)] at k2 k3
                exact ⟨k, by omega, k2, k3⟩)
    16 A3 B2 p n k x [] 0 jFu jFu rfl (show 16 < 100000 by omega) (show 16 < 100000 by omega) z2 ⟨rfl, fun i hi => absurd hi (by omega), fun r hr => ⟨0, by omega, z3 r hr, fun y hy => by
      rw [Nat.zero_testBit]
      exact ⟨fun h => absurd h (by decide), fun ⟨k, k1, _⟩ => absurd k1 (by omega)⟩⟩⟩
  refine tx_end hR' (Or.inr (Or.inr rfl)) hT' (f_M_readCites_26 jFu (nI 0) B2) e1 e2 ?_
  rcases loop with h | ⟨A', B', p', n', k', x', F, L, q1, q2, q3, q4, q5⟩
  · exact Or.inl h
  · right
    obtain ⟨i1, i2, i3⟩ := q4
    obtain ⟨hS', ⟨f1, f2, f3⟩, ⟨b1, b2, b3, b4, b5⟩, y1, y2, y3⟩ := q3
    obtain ⟨B'', c1, c2, c3, c4⟩ := l_to7 (n := L) 16 0 (by omega) jFu (show 16 < 100000 by omega) (jp_set B' 104 (upd (B' 104) 13 (nI 0)))
    rw [st_same] at c3
    refine ⟨A', B', L, jp_set (jp_set A' 17 (upd (A' 17) 0 (nI L))) 18 (va_cpy (A' 79) (A' 18) 0 0 32), B'', q1, q2, q5, ?_, ?_, ?_, ?_, fun q hq => by rw [st_ne (by omega), st_ne (by omega), f1 q (by simp only [List.mem_cons, List.not_mem_nil, or_false, not_or]; omega), t1 q (by simp only [List.mem_cons, List.not_mem_nil, or_false, not_or]; omega)]⟩
    · have hmin : jp_min (nI 32) (nI 112) = nI 32 := by decide
      simp (disch := omega) only [f_A_isTold, f_S_becomes_1, hmin, jp_c, decide_eq_true_eq, n_lit, n_eq, n_le, n_cl, st_ap, st_st, y3, jg_t, Option.bind_some, Nat.reduceEqDiff, Nat.reduceAdd, Nat.reduceMul, ite_true, ite_false, if_true, if_false, eq_self_iff_true, ↓reduceIte, and_self, and_true, true_and, and_false, false_and, not_true_eq_false, not_false_eq_true, if_pos, if_neg]
    · rw [st_ne (by decide), st_ne (by decide)]; exact y3
    · rw [← c1]
      simp (disch := omega) only [f_M_takesOther, jp_c, decide_eq_true_eq, n_lit, n_eq, Nat.reduceEqDiff, Nat.reduceAdd, Nat.reduceMul, ite_true, ite_false, if_true, if_false, eq_self_iff_true, ↓reduceIte, and_self, and_true, true_and, and_false, false_and, not_true_eq_false, not_false_eq_true, if_pos, if_neg]
    · rw [if_pos rfl]
      have a1 : ∀ q, q ∉ [0, 17, 18, 68, 77, 78, 79] → (jp_set (jp_set A' 17 (upd (A' 17) 0 (nI L))) 18 (va_cpy (A' 79) (A' 18) 0 0 32)) q = A q := fun q hq => by
        rw [st_ne (nin_ne hq (by decide)), st_ne (nin_ne hq (by decide)), f1 q (nin_sub hq (by decide)), t1 q (nin_sub hq (by decide))]
      have b1' : ∀ q, q ∉ [104, 122, 123, 124] → B'' q = B q := fun q hq => by
        rw [c2 q (nin_ne hq (by decide)) (nin_ne hq (by decide)), st_ne (nin_ne hq (by decide)), b1 q hq, t8 q (nin_ne hq (by decide))]
      refine Rel_tx hR' ?_ ?_ ?_ ?_ ?_ ?_ ?_ ?_ ?_ ?_ ?_
      · intro q hq; exact a1 q (nin_sub hq (by decide))
      · intro i hi
        rw [st_ne (by decide), st_ne (by decide), f1 0 (by decide)]
        exact t2 i (nin_ne hi (by decide))
      · intro q hq; exact b1' q (nin_sub hq (by decide))
      · intro i hi
        rw [c3, ud_ne (nin_ne hi (by decide)), ud_ne (nin_ne hi (by decide)), b2 i (nin_sub hi (by decide)), t11 i (nin_sub hi (by decide))]
      · rw [a1 7 (by decide), a1 8 (by decide), a1 9 (by decide), a1 10 (by decide), a1 11 (by decide), b1' 114 (by decide), b1' 115 (by decide), b1' 116 (by decide), b1' 117 (by decide), b1' 118 (by decide), b1' 119 (by decide), b1' 120 (by decide)]
        exact hLw
      · rw [a1 14 (by decide), a1 15 (by decide), c3]
        simp (disch := decide) only [ud_ne]
        rw [b2 35 (by decide), t11 35 (by decide), c2 122 (by decide) (by decide), st_ne (by decide)]
        exact rPet_cg hPe (fun i hi => by rw [b3 i hi, t8 122 (by decide)])
      · rw [a1 1 (by decide), a1 16 (by decide), c3]
        simp (disch := decide) only [ud_ne]
        rw [b2 37 (by decide), t11 37 (by decide), c2 123 (by decide) (by decide), st_ne (by decide)]
        exact rLease_cg hLe (fun i hi => by rw [b4 i hi, t8 123 (by decide)])
      · have e18 : ∀ j, j < 2 * L → (jp_set (jp_set A' 17 (upd (A' 17) 0 (nI L))) 18 (va_cpy (A' 79) (A' 18) 0 0 32)) 18 j = nI (F.getD j 0) := fun j hj => by
          rw [st_same, cp_in (by omega)]; exact y2 j (by omega)
        refine ⟨L, q5, by rw [st_ne (by decide), st_same, ud_eq rfl], by rw [c3, ud_eq rfl], ?_, ?_⟩
        · intro k hk
          obtain ⟨j1, j2⟩ := i2 k hk
          exact ⟨_, _, j1, j2, e18 _ (by omega), e18 _ (by omega)⟩
        · intro i hi
          obtain ⟨m, m1, m2, m3⟩ := i3 i hi
          refine ⟨m, m1, by rw [c4 i, if_pos ⟨Nat.zero_le _, hi⟩, st_ne (by decide)]; exact m2, ?_⟩
          intro y hy
          rw [m3 y hy]
          constructor
          · rintro ⟨k, k1, k2, k3⟩
            exact ⟨k, k1, by rw [e18 _ (by omega), k2], by rw [e18 _ (by omega), k3]⟩
          · rintro ⟨k, k1, k2, k3⟩
            obtain ⟨j1, j2⟩ := i2 k k1
            rw [e18 _ (by omega), n_eq (by omega) (by omega)] at k2 k3
            exact ⟨k, k1, k2, k3⟩
      · refine ⟨?_, ?_⟩
        · rw [st_ne (by decide), st_ne (by decide), f1 0 (by decide)]; exact t3
        · rw [c3]; simp (disch := decide) only [ud_ne, ud_eq]
      · rw [c3]
        simp (disch := decide) only [ud_ne]
        rw [st_ne (by decide), st_ne (by decide), f2 7 (by decide), f2 8 (by decide), t4, t5, b2 33 (by decide), b2 34 (by decide), t9, t10]
        exact ⟨rfl, rfl⟩
      · left
        refine ⟨?_, ?_⟩
        · rw [st_ne (by decide), st_ne (by decide), f1 0 (by decide), t2 4 (by decide)]
        · rw [c3]
          simp (disch := decide) only [ud_ne]
          rw [b2 3 (by decide), t11 3 (by decide)]
/-- text, whichever -/
theorem p_text (a : Int32) (w : Nat) {A B : jp_M} (hR : Rel A B) : tOK A (f_C_text a w A) (f_M_text a B) := by
  by_cases h : nI 0 ≤ a ∧ a ≤ nI 3
  · obtain ⟨k, -, k2, rfl⟩ := n_rng (by omega) h.1 (by omega) h.2
    have : k = 0 ∨ k = 1 ∨ k = 2 ∨ k = 3 := by omega
    rcases this with rfl | rfl | rfl | rfl
    · exact p_text0 w hR
    · exact p_text1 w hR
    · exact p_text2 w hR
    · exact p_text3 w hR
  · have n0 : ¬ a = nI 0 := fun e => h (by rw [e]; decide)
    have n1 : ¬ a = nI 1 := fun e => h (by rw [e]; decide)
    have n2 : ¬ a = nI 2 := fun e => h (by rw [e]; decide)
    have n3 : ¬ a = nI 3 := fun e => h (by rw [e]; decide)
    obtain ⟨N, t, A1, B1, p, n, k, x, o1, o2, o3, o4, o5, o6, o7, o8, o9, o10, o11, o12, o13⟩ := tx_open hR (c := 0) (a := a) (by omega) (Or.inl ⟨rfl, n1, n2, n3⟩) w
    have hR' := hR
    obtain ⟨⟨hW, hBk, hLw, hPe, hLe, hCi, hWi, hKi, hPo, hWy, hVo⟩, hPic, hKe, hTa, hFa, hTh, hWd⟩ := hR
    have hw : f_C_within a (nI 3) = nI 0 := by rw [n_within, if_neg h]
    have hi : f_M_isIn a (nI 0) (nI 3) = nI 0 := by rw [n_isIn, if_neg h]
    refine ⟨nI 4294967295, 1000, jp_set A1 0 (upd (A1 0) 11 (nI 0)), jp_set B 104 (upd (upd (upd (upd (upd (upd (upd (B 104) 0 (nI 0)) 33 (nI 0)) 34 (nI 4294967295)) 14 (nI 0)) 27 (nI 0)) 28 (nI 0)) 13 (nI 0)), ?_, ?_, ?_, fun q hq => by rw [st_ne (by omega), o4 q (by omega)]⟩
    · simp (disch := omega) only [f_C_text, o1, hw, jp_c, decide_eq_true_eq, n_lit, n_neg1, n0, Option.bind_some, Nat.add_zero, Nat.reduceEqDiff, Nat.reduceAdd, Nat.reduceMul, ite_true, ite_false, if_true, if_false, eq_self_iff_true, ↓reduceIte, and_self, and_true, true_and, and_false, false_and, not_true_eq_false, not_false_eq_true, if_pos, if_neg]
    · simp (disch := omega) only [f_M_text, f_M_text_69, hi, jp_c, decide_eq_true_eq, n_lit, n_neg1, st_st, st_ap, Nat.reduceEqDiff, Nat.reduceAdd, Nat.reduceMul, ite_true, ite_false, if_true, if_false, eq_self_iff_true, ↓reduceIte, and_self, and_true, true_and, and_false, false_and, not_true_eq_false, not_false_eq_true, if_pos, if_neg]
    · have a1 : ∀ q, ¬ q = 0 → ¬ q = 68 → jp_set A1 0 (upd (A1 0) 11 (nI 0)) q = A q := fun q h0 h1 => by rw [st_ne h0, o4 q h1]
      refine Rel_tx hR' ?_ ?_ ?_ ?_ ?_ ?_ ?_ ?_ ?_ ?_ ?_
      · intro q hq; exact a1 q (nin_ne hq (by decide)) (nin_ne hq (by decide))
      · intro i hi; rw [st_same, ud_ne (nin_ne hi (by decide)), o4 0 (by decide)]
      · intro q hq; rw [st_ne (nin_ne hq (by decide))]
      · intro i hi
        rw [st_same, ud_ne (nin_ne hi (by decide)), ud_ne (nin_ne hi (by decide)), ud_ne (nin_ne hi (by decide)), ud_ne (nin_ne hi (by decide)), ud_ne (nin_ne hi (by decide)), ud_ne (nin_ne hi (by decide)), ud_ne (nin_ne hi (by decide))]
      · rw [a1 7 (by decide) (by decide), a1 8 (by decide) (by decide), a1 9 (by decide) (by decide), a1 10 (by decide) (by decide), a1 11 (by decide) (by decide)]
        simp only [st_ap, Nat.reduceEqDiff, Nat.reduceAdd, Nat.reduceMul, ite_true, ite_false, if_true, if_false, eq_self_iff_true, ↓reduceIte, and_self, and_true, true_and, and_false, false_and, not_true_eq_false, not_false_eq_true, if_pos, if_neg]; exact hLw
      · rw [a1 14 (by decide) (by decide), a1 15 (by decide) (by decide)]
        simp only [st_ap, ud_ap, Nat.reduceEqDiff, Nat.reduceAdd, Nat.reduceMul, ite_true, ite_false, if_true, if_false, eq_self_iff_true, ↓reduceIte, and_self, and_true, true_and, and_false, false_and, not_true_eq_false, not_false_eq_true, if_pos, if_neg]; exact hPe
      · rw [a1 1 (by decide) (by decide), a1 16 (by decide) (by decide)]
        simp only [st_ap, ud_ap, Nat.reduceEqDiff, Nat.reduceAdd, Nat.reduceMul, ite_true, ite_false, if_true, if_false, eq_self_iff_true, ↓reduceIte, and_self, and_true, true_and, and_false, false_and, not_true_eq_false, not_false_eq_true, if_pos, if_neg]; exact hLe
      · rw [a1 17 (by decide) (by decide), a1 18 (by decide) (by decide)]
        simp only [st_ap, ud_ap, Nat.reduceEqDiff, Nat.reduceAdd, Nat.reduceMul, ite_true, ite_false, if_true, if_false, eq_self_iff_true, ↓reduceIte, and_self, and_true, true_and, and_false, false_and, not_true_eq_false, not_false_eq_true, if_pos, if_neg]; exact hCi
      · rw [st_same, ud_eq rfl, st_same, ud_eq rfl]; exact ⟨rfl, rfl⟩
      · rw [st_ne (show ¬ 68 = 0 by decide), o5, o6]
        simp only [st_ap, ud_ap, Nat.reduceEqDiff, Nat.reduceAdd, Nat.reduceMul, ite_true, ite_false, if_true, if_false, eq_self_iff_true, ↓reduceIte, and_self, and_true, true_and, and_false, false_and, not_true_eq_false, not_false_eq_true, if_pos, if_neg]
      · left
        rw [st_same, ud_ne (by decide), o4 0 (by decide)]
        simp only [st_ap, ud_ap, Nat.reduceEqDiff, Nat.reduceAdd, Nat.reduceMul, ite_true, ite_false, if_true, if_false, eq_self_iff_true, ↓reduceIte, and_self, and_true, true_and, and_false, false_and, not_true_eq_false, not_false_eq_true, if_pos, if_neg]
