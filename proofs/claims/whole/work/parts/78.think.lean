theorem l_th : ∀ d i, i + d = 184 → ∀ n, d < n → ∀ M : jp_M, ∃ M', f_M_thinks_2 n (nI i) M = some M' ∧ (∀ q, ¬ q = 104 → ¬ q = 107 → M' q = M q) ∧ (∀ j, ¬ j = 5 → M' 104 j = M 104 j) ∧ M' 104 5 = nI 1 ∧ (∀ k, i ≤ k → k < 184 → M' 107 k = M 105 k) ∧ (∀ k, k < i → M' 107 k = M 107 k) := by
  intro d
  induction d with
  | zero =>
    intro i hi n hn M
    obtain ⟨n, rfl⟩ : ∃ k, n = k + 1 := ⟨n - 1, by omega⟩
    refine ⟨jp_set M 104 (upd (M 104) 5 (nI 1)), ?_, fun q g1 _ => st_ne g1, fun j hj => by rw [st_same, ud_ne hj], by rw [st_same, ud_eq rfl], fun k g1 g2 => by omega, fun k _ => by rw [st_ne (by decide)]⟩
    simp (disch := omega) only [f_M_thinks_2, jp_c, decide_eq_true_eq, n_lit, n_neg1, n_add, n_mul, n_sub, n_div, n_mod, n_le, n_lt, n_eq, n_cl, n_in, Nat.reduceEqDiff, Nat.reduceAdd, Nat.reduceMul, ite_true, ite_false, if_true, if_false, eq_self_iff_true, ↓reduceIte, and_self, and_true, true_and, and_false, false_and, not_true_eq_false, not_false_eq_true, if_pos, if_neg]
  | succ d ih =>
    intro i hi n hn M
    obtain ⟨n, rfl⟩ : ∃ k, n = k + 1 := ⟨n - 1, by omega⟩
    obtain ⟨M', e1, e2, e3, e4, e5, e6⟩ := ih (i + 1) (by omega) n (by omega) (jp_set M 107 (upd (M 107) i (M 105 i)))
    refine ⟨M', ?_, fun q g1 g2 => by rw [e2 q g1 g2, st_ne g2], fun j hj => by rw [e3 j hj, st_ne (by decide)], e4, ?_, ?_⟩
    · rw [← e1]
      simp (disch := omega) only [f_M_thinks_2, jp_c, decide_eq_true_eq, n_lit, n_neg1, n_add, n_mul, n_sub, n_div, n_mod, n_le, n_lt, n_eq, n_cl, n_in, Nat.reduceEqDiff, Nat.reduceAdd, Nat.reduceMul, ite_true, ite_false, if_true, if_false, eq_self_iff_true, ↓reduceIte, and_self, and_true, true_and, and_false, false_and, not_true_eq_false, not_false_eq_true, if_pos, if_neg, jg_t]
    · intro k g1 g2
      by_cases hk : k = i
      · subst hk
        rw [e6 _ (by omega), st_same, ud_eq rfl]
      · rw [e5 k (by omega) g2, st_ne (by decide)]
    · intro k hk
      rw [e6 k (by omega), st_same, ud_ne (by omega)]
theorem l_et : ∀ d i, i + d = 184 → ∀ n, d < n → ∀ M : jp_M, ∃ M', f_M_endsThought_2 n (nI i) M = some M' ∧ (∀ q, ¬ q = 104 → ¬ q = 105 → M' q = M q) ∧ (∀ j, ¬ j = 5 → M' 104 j = M 104 j) ∧ M' 104 5 = nI 0 ∧ (∀ k, i ≤ k → k < 184 → M' 105 k = M 107 k) ∧ (∀ k, k < i → M' 105 k = M 105 k) := by
  intro d
  induction d with
  | zero =>
    intro i hi n hn M
    obtain ⟨n, rfl⟩ : ∃ k, n = k + 1 := ⟨n - 1, by omega⟩
    refine ⟨jp_set M 104 (upd (M 104) 5 (nI 0)), ?_, fun q g1 _ => st_ne g1, fun j hj => by rw [st_same, ud_ne hj], by rw [st_same, ud_eq rfl], fun k g1 g2 => by omega, fun k _ => by rw [st_ne (by decide)]⟩
    simp (disch := omega) only [f_M_endsThought_2, jp_c, decide_eq_true_eq, n_lit, n_neg1, n_add, n_mul, n_sub, n_div, n_mod, n_le, n_lt, n_eq, n_cl, n_in, Nat.reduceEqDiff, Nat.reduceAdd, Nat.reduceMul, ite_true, ite_false, if_true, if_false, eq_self_iff_true, ↓reduceIte, and_self, and_true, true_and, and_false, false_and, not_true_eq_false, not_false_eq_true, if_pos, if_neg]
  | succ d ih =>
    intro i hi n hn M
    obtain ⟨n, rfl⟩ : ∃ k, n = k + 1 := ⟨n - 1, by omega⟩
    obtain ⟨M', e1, e2, e3, e4, e5, e6⟩ := ih (i + 1) (by omega) n (by omega) (jp_set M 105 (upd (M 105) i (M 107 i)))
    refine ⟨M', ?_, fun q g1 g2 => by rw [e2 q g1 g2, st_ne g2], fun j hj => by rw [e3 j hj, st_ne (by decide)], e4, ?_, ?_⟩
    · rw [← e1]
      simp (disch := omega) only [f_M_endsThought_2, jp_c, decide_eq_true_eq, n_lit, n_neg1, n_add, n_mul, n_sub, n_div, n_mod, n_le, n_lt, n_eq, n_cl, n_in, Nat.reduceEqDiff, Nat.reduceAdd, Nat.reduceMul, ite_true, ite_false, if_true, if_false, eq_self_iff_true, ↓reduceIte, and_self, and_true, true_and, and_false, false_and, not_true_eq_false, not_false_eq_true, if_pos, if_neg, jg_t]
    · intro k g1 g2
      by_cases hk : k = i
      · subst hk
        rw [e6 _ (by omega), st_same, ud_eq rfl]
      · rw [e5 k (by omega) g2, st_ne (by decide)]
    · intro k hk
      rw [e6 k (by omega), st_same, ud_ne (by omega)]
theorem l_fined {A B : jp_M} {P : Nat} (hP : P ≤ 10) (h1 : A 2 4 = nI P) (h2 : B 104 6 = nI P) (hf : ∀ i, i < 10 → A 3 (5 * i + 4) = B 105 (16 + i)) (w l : Int32) : ∀ d i, i + d = P → ∀ n m, d < n → d < m → ∀ s, ∃ s', f_W_finedOfAll_4 n s (nI i) A = some s' ∧ f_M_goes_58 m w s l (nI i) B = f_M_goes_89 jFu w s' l (nI 0) B := by
  intro d
  induction d with
  | zero =>
    intro i hi n m hn hm s
    obtain ⟨n, rfl⟩ : ∃ k, n = k + 1 := ⟨n - 1, by omega⟩
    obtain ⟨m, rfl⟩ : ∃ k, m = k + 1 := ⟨m - 1, by omega⟩
    refine ⟨s, ?_, ?_⟩
    · simp (disch := omega) only [f_W_finedOfAll_4, jp_c, decide_eq_true_eq, n_lit, n_neg1, n_add, n_mul, n_sub, n_div, n_mod, n_le, n_lt, n_eq, n_cl, n_in, Nat.reduceEqDiff, Nat.reduceAdd, Nat.reduceMul, ite_true, ite_false, if_true, if_false, eq_self_iff_true, ↓reduceIte, and_self, and_true, true_and, and_false, false_and, not_true_eq_false, not_false_eq_true, if_pos, if_neg, h1]
    · simp (disch := omega) only [f_M_goes_58, jp_c, decide_eq_true_eq, n_lit, n_neg1, n_add, n_mul, n_sub, n_div, n_mod, n_le, n_lt, n_eq, n_cl, n_in, Nat.reduceEqDiff, Nat.reduceAdd, Nat.reduceMul, ite_true, ite_false, if_true, if_false, eq_self_iff_true, ↓reduceIte, and_self, and_true, true_and, and_false, false_and, not_true_eq_false, not_false_eq_true, if_pos, if_neg, h2]
  | succ d ih =>
    intro i hi n m hn hm s
    obtain ⟨n, rfl⟩ : ∃ k, n = k + 1 := ⟨n - 1, by omega⟩
    obtain ⟨m, rfl⟩ : ∃ k, m = k + 1 := ⟨m - 1, by omega⟩
    have q := hf i (by omega)
    obtain ⟨s', e1, e2⟩ := ih (i + 1) (by omega) n m (by omega) (by omega) (s + B 105 (16 + i))
    refine ⟨s', ?_, ?_⟩
    · rw [← e1]
      simp (disch := omega) only [f_W_finedOfAll_4, jp_c, decide_eq_true_eq, n_lit, n_neg1, n_add, n_mul, n_sub, n_div, n_mod, n_le, n_lt, n_eq, n_cl, n_in, Nat.reduceEqDiff, Nat.reduceAdd, Nat.reduceMul, ite_true, ite_false, if_true, if_false, eq_self_iff_true, ↓reduceIte, and_self, and_true, true_and, and_false, false_and, not_true_eq_false, not_false_eq_true, if_pos, if_neg, h1, q, jg_t]
    · rw [← e2]
      simp (disch := omega) only [f_M_goes_58, jp_c, decide_eq_true_eq, n_lit, n_neg1, n_add, n_mul, n_sub, n_div, n_mod, n_le, n_lt, n_eq, n_cl, n_in, Nat.reduceEqDiff, Nat.reduceAdd, Nat.reduceMul, ite_true, ite_false, if_true, if_false, eq_self_iff_true, ↓reduceIte, and_self, and_true, true_and, and_false, false_and, not_true_eq_false, not_false_eq_true, if_pos, if_neg, h2, jg_t]
theorem l_marks {A B : jp_M} {S : Nat} (hS : S ≤ 10) (h1 : A 2 5 = nI S) (h2 : B 104 7 = nI S) (hf : ∀ i, i < 10 → A 4 (3 * i + 2) = B 105 (36 + i)) (w f : Int32) : ∀ d i, i + d = S → ∀ n m, d < n → d < m → ∀ s, ∃ s', f_W_marksOfAll_4 n s (nI i) A = some s' ∧ f_M_goes_89 m w f s (nI i) B = f_M_goes_157 (if w = nI 0 then B 105 3 else if w = nI 1 then B 105 5 else if w = nI 2 then f else s') B := by
  intro d
  induction d with
  | zero =>
    intro i hi n m hn hm s
    obtain ⟨n, rfl⟩ : ∃ k, n = k + 1 := ⟨n - 1, by omega⟩
    obtain ⟨m, rfl⟩ : ∃ k, m = k + 1 := ⟨m - 1, by omega⟩
    refine ⟨s, ?_, ?_⟩
    · simp (disch := omega) only [f_W_marksOfAll_4, jp_c, decide_eq_true_eq, n_lit, n_neg1, n_add, n_mul, n_sub, n_div, n_mod, n_le, n_lt, n_eq, n_cl, n_in, Nat.reduceEqDiff, Nat.reduceAdd, Nat.reduceMul, ite_true, ite_false, if_true, if_false, eq_self_iff_true, ↓reduceIte, and_self, and_true, true_and, and_false, false_and, not_true_eq_false, not_false_eq_true, if_pos, if_neg, h1]
    · by_cases w0 : w = nI 0
      · simp (disch := omega) only [f_M_goes_89, jp_c, decide_eq_true_eq, n_lit, n_neg1, n_add, n_mul, n_sub, n_div, n_mod, n_le, n_lt, n_eq, n_cl, n_in, Nat.reduceEqDiff, Nat.reduceAdd, Nat.reduceMul, ite_true, ite_false, if_true, if_false, eq_self_iff_true, ↓reduceIte, and_self, and_true, true_and, and_false, false_and, not_true_eq_false, not_false_eq_true, if_pos, if_neg, h2, w0]
      · by_cases w1 : w = nI 1
        · simp (disch := omega) only [f_M_goes_89, jp_c, decide_eq_true_eq, n_lit, n_neg1, n_add, n_mul, n_sub, n_div, n_mod, n_le, n_lt, n_eq, n_cl, n_in, Nat.reduceEqDiff, Nat.reduceAdd, Nat.reduceMul, ite_true, ite_false, if_true, if_false, eq_self_iff_true, ↓reduceIte, and_self, and_true, true_and, and_false, false_and, not_true_eq_false, not_false_eq_true, if_pos, if_neg, h2, w0, w1]
        · by_cases w2 : w = nI 2
          · simp (disch := omega) only [f_M_goes_89, jp_c, decide_eq_true_eq, n_lit, n_neg1, n_add, n_mul, n_sub, n_div, n_mod, n_le, n_lt, n_eq, n_cl, n_in, Nat.reduceEqDiff, Nat.reduceAdd, Nat.reduceMul, ite_true, ite_false, if_true, if_false, eq_self_iff_true, ↓reduceIte, and_self, and_true, true_and, and_false, false_and, not_true_eq_false, not_false_eq_true, if_pos, if_neg, h2, w0, w1, w2]
          · simp (disch := omega) only [f_M_goes_89, jp_c, decide_eq_true_eq, n_lit, n_neg1, n_add, n_mul, n_sub, n_div, n_mod, n_le, n_lt, n_eq, n_cl, n_in, Nat.reduceEqDiff, Nat.reduceAdd, Nat.reduceMul, ite_true, ite_false, if_true, if_false, eq_self_iff_true, ↓reduceIte, and_self, and_true, true_and, and_false, false_and, not_true_eq_false, not_false_eq_true, if_pos, if_neg, h2, w0, w1, w2]
  | succ d ih =>
    intro i hi n m hn hm s
    obtain ⟨n, rfl⟩ : ∃ k, n = k + 1 := ⟨n - 1, by omega⟩
    obtain ⟨m, rfl⟩ : ∃ k, m = k + 1 := ⟨m - 1, by omega⟩
    have q := hf i (by omega)
    obtain ⟨s', e1, e2⟩ := ih (i + 1) (by omega) n m (by omega) (by omega) (s + B 105 (36 + i))
    refine ⟨s', ?_, ?_⟩
    · rw [← e1]
      simp (disch := omega) only [f_W_marksOfAll_4, jp_c, decide_eq_true_eq, n_lit, n_neg1, n_add, n_mul, n_sub, n_div, n_mod, n_le, n_lt, n_eq, n_cl, n_in, Nat.reduceEqDiff, Nat.reduceAdd, Nat.reduceMul, ite_true, ite_false, if_true, if_false, eq_self_iff_true, ↓reduceIte, and_self, and_true, true_and, and_false, false_and, not_true_eq_false, not_false_eq_true, if_pos, if_neg, h1, q, jg_t]
    · rw [← e2]
      simp (disch := omega) only [f_M_goes_89, jp_c, decide_eq_true_eq, n_lit, n_neg1, n_add, n_mul, n_sub, n_div, n_mod, n_le, n_lt, n_eq, n_cl, n_in, Nat.reduceEqDiff, Nat.reduceAdd, Nat.reduceMul, ite_true, ite_false, if_true, if_false, eq_self_iff_true, ↓reduceIte, and_self, and_true, true_and, and_false, false_and, not_true_eq_false, not_false_eq_true, if_pos, if_neg, h2, jg_t]
/-- days in thought -/
theorem l_goes {N : Nat} (hN : N ≤ 60) (w : Int32) : ∀ d i, i + d = N → ∀ n m, d < n → d < m → ∀ A B, HH 1 A B → ∃ A' B', f_C_goes_41 n (nI N) w (nI i) A = ((f_C_tally w A').bind fun q1 => some (q1, f_W_becomes_7 (jp_set A' 54 (upd (A' 54) 3 (nI 0))))) ∧ f_M_goes_34 m (nI N) w (nI i) B = f_M_goes_58 jFu w (nI 0) (nI 0) (nI 0) B' ∧ SS 1 A B A' B' := by
  intro d
  induction d with
  | zero =>
    intro i hi n m hn hm A B h
    obtain ⟨n, rfl⟩ : ∃ k, n = k + 1 := ⟨n - 1, by omega⟩
    obtain ⟨m, rfl⟩ : ∃ k, m = k + 1 := ⟨m - 1, by omega⟩
    refine ⟨A, B, ?_, ?_, SS_refl h⟩
    · simp (disch := omega) only [f_C_goes_41, jp_c, decide_eq_true_eq, n_lit, n_neg1, n_add, n_mul, n_sub, n_div, n_mod, n_le, n_lt, n_eq, n_cl, n_in, Nat.reduceEqDiff, Nat.reduceAdd, Nat.reduceMul, ite_true, ite_false, if_true, if_false, eq_self_iff_true, ↓reduceIte, and_self, and_true, true_and, and_false, false_and, not_true_eq_false, not_false_eq_true, if_pos, if_neg]
    · simp (disch := omega) only [f_M_goes_34, jp_c, decide_eq_true_eq, n_lit, n_neg1, n_add, n_mul, n_sub, n_div, n_mod, n_le, n_lt, n_eq, n_cl, n_in, Nat.reduceEqDiff, Nat.reduceAdd, Nat.reduceMul, ite_true, ite_false, if_true, if_false, eq_self_iff_true, ↓reduceIte, and_self, and_true, true_and, and_false, false_and, not_true_eq_false, not_false_eq_true, if_pos, if_neg]
  | succ d ih =>
    intro i hi n m hn hm A B h
    obtain ⟨n, rfl⟩ : ∃ k, n = k + 1 := ⟨n - 1, by omega⟩
    obtain ⟨m, rfl⟩ : ∃ k, m = k + 1 := ⟨m - 1, by omega⟩
    obtain ⟨c, A3, B3, m1, m2, s3⟩ := p_day (t := 1) (by omega) h
    obtain ⟨A', B', k1, k2, k3⟩ := ih (i + 1) (by omega) n m (by omega) (by omega) A3 B3 s3.2.2.1
    refine ⟨A', B', ?_, ?_, SS_trans s3 k3⟩
    · rw [← k1]
      simp (disch := omega) only [f_C_goes_41, jp_c, decide_eq_true_eq, n_lit, n_neg1, n_add, n_mul, n_sub, n_div, n_mod, n_le, n_lt, n_eq, n_cl, n_in, Nat.reduceEqDiff, Nat.reduceAdd, Nat.reduceMul, ite_true, ite_false, if_true, if_false, eq_self_iff_true, ↓reduceIte, and_self, and_true, true_and, and_false, false_and, not_true_eq_false, not_false_eq_true, if_pos, if_neg, m1, Option.bind_some]
    · rw [← k2]
      simp (disch := omega) only [f_M_goes_34, jp_c, decide_eq_true_eq, n_lit, n_neg1, n_add, n_mul, n_sub, n_div, n_mod, n_le, n_lt, n_eq, n_cl, n_in, Nat.reduceEqDiff, Nat.reduceAdd, Nat.reduceMul, ite_true, ite_false, if_true, if_false, eq_self_iff_true, ↓reduceIte, and_self, and_true, true_and, and_false, false_and, not_true_eq_false, not_false_eq_true, if_pos, if_neg, m2, Option.bind_some]
theorem p_goes (a b : Int32) {A B : jp_M} (hR : Rel A B) : pOK (f_C_goes a b A) (f_M_goes a b B) := by
  have T := Rel_told (x := nI 0) hR
  generalize hB1 : jp_set B 104 (upd (B 104) 0 (nI 0)) = B1 at T
  by_cases h1 : nI 1 ≤ a ∧ a ≤ nI 60
  · by_cases h2 : nI 0 ≤ b ∧ b ≤ nI 3
    · obtain ⟨x, hx0, hx, rfl⟩ := n_rng (by omega) h1.1 (by omega) h1.2
      obtain ⟨w, -, hw, rfl⟩ := n_rng (by omega) h2.1 (by omega) h2.2
      have hT := T
      obtain ⟨⟨hW, hBk, hLw, hPe, hLe, hCi, hWi, hKi, hPo, hWy, hVo⟩, hPic, hKe, hTa, hFa, hTh, hWd⟩ := T
      -- into thought
      obtain ⟨cp1, cp2, cp3, cp4, cp5⟩ := c_W_becomes_6 A
      generalize hA2 : jp_set (f_W_becomes_6 A) 54 (upd (f_W_becomes_6 A 54) 3 (nI 1)) = A2
      obtain ⟨B2, t1, t2, t3, t4, t5, -⟩ := l_th 184 0 (by omega) jFu (jFu_lt (by omega)) B1
      have t1' : f_M_thinks B1 = some B2 := t1
      have x2 : ∀ q, ¬ q = 50 → ¬ q = 51 → ¬ q = 52 → ¬ q = 53 → ¬ q = 54 → A2 q = A q := by
        intro q q0 q1 q2 q3 q4
        rw [← hA2, st_ne q4, cp1 q q0 q1 q2 q3]
      have x54 : A2 54 = upd (A 54) 3 (nI 1) := by rw [← hA2, st_same, cp1 54 (by decide) (by decide) (by decide) (by decide)]
      have xs : ∀ q, 50 ≤ q → q < 54 → A2 q = f_W_becomes_6 A q := by intro q q1 q2; rw [← hA2, st_ne (by omega)]
      have hH : HH 1 A2 B2 := by
        obtain ⟨L, l1, l2, l3, l4⟩ := hBk
        refine ⟨?_, ?_, ⟨?_, t4⟩, ⟨L, l1, ?_⟩, fun h => by omega, ?_, ?_⟩
        · unfold rWW
          simp (disch := decide) only [x2, t2, t3]; exact hW
        · unfold rLL
          simp (disch := decide) only [x2, t2, t3]; exact hLw
        · rw [x54, ud_eq rfl]
        · simp (disch := decide) only [x2]; exact l2
        · simp (disch := decide) only [x2, t2, t3]; exact hLe
        · simp (disch := decide) only [x2, t2, t3]; exact hPe
      obtain ⟨A3, B3, k1, k2, k3⟩ := l_goes hx (nI w) x 0 (by omega) jFu jFu (jFu_lt (by omega)) (jFu_lt (by omega)) A2 B2 hH
      -- what is found
      obtain ⟨fa, fb, hH3, ⟨L, L', v1, v2, v3, v4, v5⟩, v6⟩ := k3
      obtain ⟨P, S, U, hP, hS, hU, f4, f5, f6, g6, g7, g5, -⟩ := HH_up hH3
      have hW3 := hH3.1
      obtain ⟨sf, sf1, sf2⟩ := l_fined hP f4 g6 (fun i hi => (hW3.1.2.1 i hi).2.2.2.2) (nI w) (nI 0) P 0 (by omega) jFu jFu (jFu_lt (by omega)) (jFu_lt (by omega)) (nI 0)
      obtain ⟨sm, sm1, sm2⟩ := l_marks hS f5 g7 (fun i hi => (hW3.1.2.2.1 i hi).2.2) (nI w) sf S 0 (by omega) jFu jFu (jFu_lt (by omega)) (jFu_lt (by omega)) (nI 0)
      have sf1' : f_W_finedOfAll A3 = some sf := sf1
      have sm1' : f_W_marksOfAll A3 = some sm := sm1
      have tl : f_C_tally (nI w) A3 = some (if nI w = nI 0 then B3 105 3 else if nI w = nI 1 then B3 105 5 else if nI w = nI 2 then sf else sm) := by
        have q2 := hW3.1.1.2.2.1
        have q6 := hW3.1.1.2.2.2.2.2.2
        have hw' : w = 0 ∨ w = 1 ∨ w = 2 ∨ w = 3 := by omega
        rcases hw' with rfl | rfl | rfl | rfl
        · simp (disch := omega) only [f_C_tally, jp_c, decide_eq_true_eq, n_lit, n_eq, Nat.reduceEqDiff, Nat.reduceAdd, Nat.reduceMul, ite_true, ite_false, if_true, if_false, eq_self_iff_true, ↓reduceIte, and_self, and_true, true_and, and_false, false_and, not_true_eq_false, not_false_eq_true, if_pos, if_neg, q2]
        · simp (disch := omega) only [f_C_tally, jp_c, decide_eq_true_eq, n_lit, n_eq, Nat.reduceEqDiff, Nat.reduceAdd, Nat.reduceMul, ite_true, ite_false, if_true, if_false, eq_self_iff_true, ↓reduceIte, and_self, and_true, true_and, and_false, false_and, not_true_eq_false, not_false_eq_true, if_pos, if_neg, q6]
        · simp (disch := omega) only [f_C_tally, jp_c, decide_eq_true_eq, n_lit, n_eq, Nat.reduceEqDiff, Nat.reduceAdd, Nat.reduceMul, ite_true, ite_false, if_true, if_false, eq_self_iff_true, ↓reduceIte, and_self, and_true, true_and, and_false, false_and, not_true_eq_false, not_false_eq_true, if_pos, if_neg, sf1', Option.bind_some]
        · simp (disch := omega) only [f_C_tally, jp_c, decide_eq_true_eq, n_lit, n_eq, Nat.reduceEqDiff, Nat.reduceAdd, Nat.reduceMul, ite_true, ite_false, if_true, if_false, eq_self_iff_true, ↓reduceIte, and_self, and_true, true_and, and_false, false_and, not_true_eq_false, not_false_eq_true, if_pos, if_neg, sm1', Option.bind_some]
      generalize (if nI w = nI 0 then B3 105 3 else if nI w = nI 1 then B3 105 5 else if nI w = nI 2 then sf else sm) = val at tl sm2
      -- out of thought
      obtain ⟨B4, r1, r2, r3, r4, r5, -⟩ := l_et 184 0 (by omega) jFu (jFu_lt (by omega)) B3
      have r1' : f_M_endsThought B3 = some B4 := r1
      obtain ⟨cq1, cq2, cq3, cq4, cq5⟩ := c_W_becomes_7 (jp_set A3 54 (upd (A3 54) 3 (nI 0)))
      generalize hA4 : f_W_becomes_7 (jp_set A3 54 (upd (A3 54) 3 (nI 0))) = A4 at cq1 cq2 cq3 cq4 cq5 k1
      have c1 : f_C_goes (nI x) (nI w) A = some (val, A4) := by
        have e : f_C_goes (nI x) (nI w) A = f_C_goes_41 jFu (nI x) (nI w) (nI 0) A2 := by
          rw [← hA2]
          simp (disch := omega) only [f_C_goes, n_goby, n_within, n_isIn, n_it0, jp_c, decide_eq_true_eq, n_lit, n_le, n_eq, Nat.reduceEqDiff, Nat.reduceAdd, Nat.reduceMul, ite_true, ite_false, if_true, if_false, eq_self_iff_true, ↓reduceIte, and_self, and_true, true_and, and_false, false_and, not_true_eq_false, not_false_eq_true, if_pos, if_neg, hx0, hx, Nat.zero_le, hw]
        rw [e, k1, tl, Option.bind_some]
      have c2 : f_M_goes (nI x) (nI w) B = some (val, B4) := by
        have e : f_M_goes (nI x) (nI w) B = f_M_goes_34 jFu (nI x) (nI w) (nI 0) B2 := by
          simp (disch := omega) only [f_M_goes, hB1, n_isIn, n_it0, jp_c, decide_eq_true_eq, n_lit, n_le, n_eq, Nat.reduceEqDiff, Nat.reduceAdd, Nat.reduceMul, ite_true, ite_false, if_true, if_false, eq_self_iff_true, ↓reduceIte, and_self, and_true, true_and, and_false, false_and, not_true_eq_false, not_false_eq_true, if_pos, if_neg, hx0, hx, Nat.zero_le, hw, t1', Option.bind_some]
        rw [e, k2, sf2, sm2, f_M_goes_157, r1', Option.bind_some]
      rw [c1, c2]
      refine pOK_mk rfl ?_
      have y : ∀ q, ¬ q = 2 → ¬ q = 3 → ¬ q = 4 → ¬ q = 5 → ¬ q = 54 → A4 q = A3 q := by
        intro q q0 q1 q2 q3 q4
        rw [cq1 q q0 q1 q2 q3, st_ne q4]
      have y54 : A4 54 = A 54 := by
        rw [cq1 54 (by decide) (by decide) (by decide) (by decide), st_same, fa 54 (by decide), x54]
        funext i
        simp only [ud_ap]
        by_cases hi : i = 3
        · subst hi; rw [if_pos rfl, hTh.1]
        · rw [if_neg hi, if_neg hi]
      have z2 : ∀ i, i < 8 → A4 2 i = A 2 i := fun i hi => by rw [cq2 i hi, st_ne (by decide), fa 50 (by decide), xs 50 (by decide) (by decide), cp2 i hi]
      have z3 : ∀ i, i < 50 → A4 3 i = A 3 i := fun i hi => by rw [cq3 i hi, st_ne (by decide), fa 51 (by decide), xs 51 (by decide) (by decide), cp3 i hi]
      have z4 : ∀ i, i < 30 → A4 4 i = A 4 i := fun i hi => by rw [cq4 i hi, st_ne (by decide), fa 52 (by decide), xs 52 (by decide) (by decide), cp4 i hi]
      have z5 : ∀ i, i < 128 → A4 5 i = A 5 i := fun i hi => by rw [cq5 i hi, st_ne (by decide), fa 53 (by decide), xs 53 (by decide) (by decide), cp5 i hi]
      have u5 : ∀ k, k < 184 → B4 105 k = B1 105 k := fun k hk => by rw [r5 k (by omega) hk, fb 107 (by decide), t5 k (by omega) hk]
      have u : ∀ q, ¬ q = 104 → ¬ q = 105 → ¬ q = 107 → q ∉ fB → B4 q = B1 q := fun q q1 q2 q3 q4 => by rw [r2 q q1 q2, fb q q4, t2 q q1 q3]
      have u104 : ∀ j, B4 104 j = B1 104 j := by
        intro j
        by_cases hj : j = 5
        · subst hj; rw [r4, hTh.2]
        · rw [r3 j hj, fb 104 (by decide), t3 j hj]
      have u111 : B4 111 = B1 111 := by rw [r2 111 (by decide) (by decide), v6 rfl, t2 111 (by decide) (by decide)]
      refine Rel_w hT ?_ ?_ ?_ ?_ ?_ ?_ ?_ ?_
      · intro p hp
        by_cases hp54 : p = 54
        · subst hp54; exact y54
        · simp only [wA, List.mem_cons, List.not_mem_nil, or_false, not_or] at hp
          rw [y p (by omega) (by omega) (by omega) (by omega) hp54, fa p (by simp only [fA, List.mem_cons, List.not_mem_nil, or_false, not_or]; omega), x2 p (by omega) (by omega) (by omega) (by omega) hp54]
      · intro i _
        rw [y 0 (by decide) (by decide) (by decide) (by decide) (by decide), fa 0 (by decide), x2 0 (by decide) (by decide) (by decide) (by decide) (by decide)]
      · intro p hp
        simp only [wBB, List.mem_cons, List.not_mem_nil, or_false, not_or] at hp
        exact u p (by omega) (by omega) (by omega) (by simp only [fB, List.mem_cons, List.not_mem_nil, or_false, not_or]; omega)
      · intro i _; exact u104 i
      · rw [u 108 (by decide) (by decide) (by decide) (by decide), u 109 (by decide) (by decide) (by decide) (by decide), u 110 (by decide) (by decide) (by decide) (by decide), u104 6, u104 7]
        exact rW_cg (fun i hi => z2 i (by omega)) z3 z4 z5 u5 (fun _ _ => rfl) (fun _ _ => rfl) (fun _ _ => rfl) hW
      · obtain ⟨M, l1, l2, l3, l4⟩ := hBk
        have hM : L = M := by
          rw [x2 2 (by decide) (by decide) (by decide) (by decide) (by decide), l2, n_eq (by omega) (by omega)] at v3
          exact v3.symm
        subst hM
        refine ⟨L, l1, by rw [z2 7 (by omega), l2], by rw [u5 2 (by omega), l3], fun j hj => ?_⟩
        rw [y 6 (by decide) (by decide) (by decide) (by decide) (by decide), v5 j hj, x2 6 (by decide) (by decide) (by decide) (by decide) (by decide), u111]
        exact l4 j hj
      · rw [z2 4 (by omega)]; exact hPe
      · rw [y 0 (by decide) (by decide) (by decide) (by decide) (by decide), fa 0 (by decide), x2 0 (by decide) (by decide) (by decide) (by decide) (by decide), u104 3, u104 6, u104 7, u 106 (by decide) (by decide) (by decide) (by decide), u 108 (by decide) (by decide) (by decide) (by decide), u 109 (by decide) (by decide) (by decide) (by decide), u 110 (by decide) (by decide) (by decide) (by decide), z2 7 (by omega)]
        refine rKept_cg (A := A) (fun q q1 q2 => ?_) hKe
        rw [y q (by omega) (by omega) (by omega) (by omega) (by omega), fa q (by simp only [fA, List.mem_cons, List.not_mem_nil, or_false, not_or]; omega), x2 q (by omega) (by omega) (by omega) (by omega) (by omega)]
    · simp (disch := omega) only [f_C_goes, f_M_goes, hB1, n_goby, n_within, n_isIn, n_it0, jp_c, decide_eq_true_eq, n_lit, n_neg1, Nat.reduceEqDiff, Nat.reduceAdd, Nat.reduceMul, ite_true, ite_false, if_true, if_false, eq_self_iff_true, ↓reduceIte, and_self, and_true, true_and, and_false, false_and, not_true_eq_false, not_false_eq_true, if_pos, if_neg, h1, h2]
      exact pOK_mk rfl T
  · simp (disch := omega) only [f_C_goes, f_M_goes, hB1, n_goby, n_within, n_isIn, n_it0, jp_c, decide_eq_true_eq, n_lit, n_neg1, Nat.reduceEqDiff, Nat.reduceAdd, Nat.reduceMul, ite_true, ite_false, if_true, if_false, eq_self_iff_true, ↓reduceIte, and_self, and_true, true_and, and_false, false_and, not_true_eq_false, not_false_eq_true, if_pos, if_neg, h1]
    exact pOK_mk rfl T
