/-- stoops and marks are cleared -/
theorem l_clC1 {P : Nat} (hP : P ≤ 10) : ∀ d i, i + d = P → ∀ n, d < n → ∀ M : jp_M, M 2 4 = nI P → ∃ M', f_W_clearsMarksAndStoops_2 n (nI i) M = f_W_clearsMarksAndStoops_29 jFu (nI 0) M' ∧ (∀ q, ¬ q = 3 → M' q = M q) ∧ (∀ k, i ≤ k → k < P → M' 3 (5 * k + 3) = nI 0) ∧ (∀ j, (∀ k, i ≤ k → k < P → ¬ j = 5 * k + 3) → M' 3 j = M 3 j) := by
  intro d
  induction d with
  | zero =>
    intro i hi n hn M h
    obtain ⟨n, rfl⟩ : ∃ k, n = k + 1 := ⟨n - 1, by omega⟩
    refine ⟨M, ?_, fun _ _ => rfl, fun k g1 g2 => by omega, fun _ _ => rfl⟩
    simp (disch := omega) only [f_W_clearsMarksAndStoops_2, jp_c, decide_eq_true_eq, n_lit, n_neg1, n_add, n_mul, n_sub, n_div, n_mod, n_le, n_lt, n_eq, n_cl, n_in, Nat.reduceEqDiff, Nat.reduceAdd, Nat.reduceMul, ite_true, ite_false, if_true, if_false, eq_self_iff_true, ↓reduceIte, and_self, and_true, true_and, and_false, false_and, not_true_eq_false, not_false_eq_true, if_pos, if_neg, h]
  | succ d ih =>
    intro i hi n hn M h
    obtain ⟨n, rfl⟩ : ∃ k, n = k + 1 := ⟨n - 1, by omega⟩
    obtain ⟨M', e1, e2, e3, e4⟩ := ih (i + 1) (by omega) n (by omega) (jp_set M 3 (upd (M 3) (5 * i + 3) (nI 0))) (by rw [st_ne (by decide), h])
    refine ⟨M', ?_, fun q hq => by rw [e2 q hq, st_ne hq], ?_, ?_⟩
    · rw [← e1]
      simp (disch := omega) only [f_W_clearsMarksAndStoops_2, jp_c, decide_eq_true_eq, n_lit, n_neg1, n_add, n_mul, n_sub, n_div, n_mod, n_le, n_lt, n_eq, n_cl, n_in, Nat.reduceEqDiff, Nat.reduceAdd, Nat.reduceMul, ite_true, ite_false, if_true, if_false, eq_self_iff_true, ↓reduceIte, and_self, and_true, true_and, and_false, false_and, not_true_eq_false, not_false_eq_true, if_pos, if_neg, h, jg_t]
    · intro k g1 g2
      by_cases hk : k = i
      · subst hk
        rw [e4 _ (fun k' g3 g4 => by omega), st_same, ud_eq rfl]
      · exact e3 k (by omega) g2
    · intro j hj
      rw [e4 j (fun k g1 g2 => hj k (by omega) g2), st_same, ud_ne (hj i (by omega) (by omega))]
theorem l_clC2 {S : Nat} (hS : S ≤ 10) : ∀ d i, i + d = S → ∀ n, d < n → ∀ M : jp_M, M 2 5 = nI S → ∃ M', f_W_clearsMarksAndStoops_29 n (nI i) M = some M' ∧ (∀ q, ¬ q = 4 → M' q = M q) ∧ (∀ k, i ≤ k → k < S → M' 4 (3 * k + 2) = nI 0) ∧ (∀ j, (∀ k, i ≤ k → k < S → ¬ j = 3 * k + 2) → M' 4 j = M 4 j) := by
  intro d
  induction d with
  | zero =>
    intro i hi n hn M h
    obtain ⟨n, rfl⟩ : ∃ k, n = k + 1 := ⟨n - 1, by omega⟩
    refine ⟨M, ?_, fun _ _ => rfl, fun k g1 g2 => by omega, fun _ _ => rfl⟩
    simp (disch := omega) only [f_W_clearsMarksAndStoops_29, jp_c, decide_eq_true_eq, n_lit, n_neg1, n_add, n_mul, n_sub, n_div, n_mod, n_le, n_lt, n_eq, n_cl, n_in, Nat.reduceEqDiff, Nat.reduceAdd, Nat.reduceMul, ite_true, ite_false, if_true, if_false, eq_self_iff_true, ↓reduceIte, and_self, and_true, true_and, and_false, false_and, not_true_eq_false, not_false_eq_true, if_pos, if_neg, h]
  | succ d ih =>
    intro i hi n hn M h
    obtain ⟨n, rfl⟩ : ∃ k, n = k + 1 := ⟨n - 1, by omega⟩
    obtain ⟨M', e1, e2, e3, e4⟩ := ih (i + 1) (by omega) n (by omega) (jp_set M 4 (upd (M 4) (3 * i + 2) (nI 0))) (by rw [st_ne (by decide), h])
    refine ⟨M', ?_, fun q hq => by rw [e2 q hq, st_ne hq], ?_, ?_⟩
    · rw [← e1]
      simp (disch := omega) only [f_W_clearsMarksAndStoops_29, jp_c, decide_eq_true_eq, n_lit, n_neg1, n_add, n_mul, n_sub, n_div, n_mod, n_le, n_lt, n_eq, n_cl, n_in, Nat.reduceEqDiff, Nat.reduceAdd, Nat.reduceMul, ite_true, ite_false, if_true, if_false, eq_self_iff_true, ↓reduceIte, and_self, and_true, true_and, and_false, false_and, not_true_eq_false, not_false_eq_true, if_pos, if_neg, h, jg_t]
    · intro k g1 g2
      by_cases hk : k = i
      · subst hk
        rw [e4 _ (fun k' g3 g4 => by omega), st_same, ud_eq rfl]
      · exact e3 k (by omega) g2
    · intro j hj
      rw [e4 j (fun k g1 g2 => hj k (by omega) g2), st_same, ud_ne (hj i (by omega) (by omega))]
theorem l_clM1 {S : Nat} (hS : S ≤ 10) (c : Int32) : ∀ d i, i + d = S → ∀ n, d < n → ∀ M : jp_M, M 104 7 = nI S → ∃ M', f_M_goesBy_69 n c (nI i) M = f_M_goesBy_95 jFu c (nI 0) M' ∧ (∀ q, ¬ q = 105 → M' q = M q) ∧ (∀ k, i ≤ k → k < S → M' 105 (36 + k) = nI 0) ∧ (∀ j, (∀ k, i ≤ k → k < S → ¬ j = 36 + k) → M' 105 j = M 105 j) := by
  intro d
  induction d with
  | zero =>
    intro i hi n hn M h
    obtain ⟨n, rfl⟩ : ∃ k, n = k + 1 := ⟨n - 1, by omega⟩
    refine ⟨M, ?_, fun _ _ => rfl, fun k g1 g2 => by omega, fun _ _ => rfl⟩
    simp (disch := omega) only [f_M_goesBy_69, jp_c, decide_eq_true_eq, n_lit, n_neg1, n_add, n_mul, n_sub, n_div, n_mod, n_le, n_lt, n_eq, n_cl, n_in, Nat.reduceEqDiff, Nat.reduceAdd, Nat.reduceMul, ite_true, ite_false, if_true, if_false, eq_self_iff_true, ↓reduceIte, and_self, and_true, true_and, and_false, false_and, not_true_eq_false, not_false_eq_true, if_pos, if_neg, h]
  | succ d ih =>
    intro i hi n hn M h
    obtain ⟨n, rfl⟩ : ∃ k, n = k + 1 := ⟨n - 1, by omega⟩
    obtain ⟨M', e1, e2, e3, e4⟩ := ih (i + 1) (by omega) n (by omega) (jp_set M 105 (upd (M 105) (36 + i) (nI 0))) (by rw [st_ne (by decide), h])
    refine ⟨M', ?_, fun q hq => by rw [e2 q hq, st_ne hq], ?_, ?_⟩
    · rw [← e1]
      simp (disch := omega) only [f_M_goesBy_69, jp_c, decide_eq_true_eq, n_lit, n_neg1, n_add, n_mul, n_sub, n_div, n_mod, n_le, n_lt, n_eq, n_cl, n_in, Nat.reduceEqDiff, Nat.reduceAdd, Nat.reduceMul, ite_true, ite_false, if_true, if_false, eq_self_iff_true, ↓reduceIte, and_self, and_true, true_and, and_false, false_and, not_true_eq_false, not_false_eq_true, if_pos, if_neg, h, jg_t]
    · intro k g1 g2
      by_cases hk : k = i
      · subst hk
        rw [e4 _ (fun k' g3 g4 => by omega), st_same, ud_eq rfl]
      · exact e3 k (by omega) g2
    · intro j hj
      rw [e4 j (fun k g1 g2 => hj k (by omega) g2), st_same, ud_ne (hj i (by omega) (by omega))]
theorem l_clM2 {P : Nat} (hP : P ≤ 10) (c : Int32) : ∀ d i, i + d = P → ∀ n, d < n → ∀ M : jp_M, M 104 6 = nI P → ∃ M', f_M_goesBy_95 n c (nI i) M = f_M_goesBy_119 c M' ∧ (∀ q, ¬ q = 105 → M' q = M q) ∧ (∀ k, i ≤ k → k < P → M' 105 (26 + k) = nI 0) ∧ (∀ j, (∀ k, i ≤ k → k < P → ¬ j = 26 + k) → M' 105 j = M 105 j) := by
  intro d
  induction d with
  | zero =>
    intro i hi n hn M h
    obtain ⟨n, rfl⟩ : ∃ k, n = k + 1 := ⟨n - 1, by omega⟩
    refine ⟨M, ?_, fun _ _ => rfl, fun k g1 g2 => by omega, fun _ _ => rfl⟩
    simp (disch := omega) only [f_M_goesBy_95, jp_c, decide_eq_true_eq, n_lit, n_neg1, n_add, n_mul, n_sub, n_div, n_mod, n_le, n_lt, n_eq, n_cl, n_in, Nat.reduceEqDiff, Nat.reduceAdd, Nat.reduceMul, ite_true, ite_false, if_true, if_false, eq_self_iff_true, ↓reduceIte, and_self, and_true, true_and, and_false, false_and, not_true_eq_false, not_false_eq_true, if_pos, if_neg, h]
  | succ d ih =>
    intro i hi n hn M h
    obtain ⟨n, rfl⟩ : ∃ k, n = k + 1 := ⟨n - 1, by omega⟩
    obtain ⟨M', e1, e2, e3, e4⟩ := ih (i + 1) (by omega) n (by omega) (jp_set M 105 (upd (M 105) (26 + i) (nI 0))) (by rw [st_ne (by decide), h])
    refine ⟨M', ?_, fun q hq => by rw [e2 q hq, st_ne hq], ?_, ?_⟩
    · rw [← e1]
      simp (disch := omega) only [f_M_goesBy_95, jp_c, decide_eq_true_eq, n_lit, n_neg1, n_add, n_mul, n_sub, n_div, n_mod, n_le, n_lt, n_eq, n_cl, n_in, Nat.reduceEqDiff, Nat.reduceAdd, Nat.reduceMul, ite_true, ite_false, if_true, if_false, eq_self_iff_true, ↓reduceIte, and_self, and_true, true_and, and_false, false_and, not_true_eq_false, not_false_eq_true, if_pos, if_neg, h, jg_t]
    · intro k g1 g2
      by_cases hk : k = i
      · subst hk
        rw [e4 _ (fun k' g3 g4 => by omega), st_same, ud_eq rfl]
      · exact e3 k (by omega) g2
    · intro j hj
      rw [e4 j (fun k g1 g2 => hj k (by omega) g2), st_same, ud_ne (hj i (by omega) (by omega))]
theorem p_clear {t : Nat} {A B : jp_M} (h : HH t A B) (c : Int32) : ∃ A' B', f_W_clearsMarksAndStoops A = some A' ∧ f_M_goesBy_69 jFu c (nI 0) B = f_M_goesBy_119 c B' ∧ SS t A B A' B' := by
  have h' := h
  obtain ⟨hW, -⟩ := h
  obtain ⟨⟨⟨e0, e1, e2, e3, e4, e5, e6⟩, eP, eB, eR⟩, nW⟩ := hW
  obtain ⟨P, S, U, hP, hS, hU, f4, f5, f6, nP, nB, nR⟩ := nW
  obtain ⟨A1, a1, a2, a3, a4⟩ := l_clC1 hP P 0 (by omega) jFu (jFu_lt (by omega)) A f4
  obtain ⟨A2, c1, c2, c3, c4⟩ := l_clC2 hS S 0 (by omega) jFu (jFu_lt (by omega)) A1 (by rw [a2 2 (by decide), f5])
  obtain ⟨B1, b1, b2, b3, b4⟩ := l_clM1 hS c S 0 (by omega) jFu (jFu_lt (by omega)) B (by rw [← e5, f5])
  obtain ⟨B2, d1, d2, d3, d4⟩ := l_clM2 hP c P 0 (by omega) jFu (jFu_lt (by omega)) B1 (by rw [b2 104 (by decide), ← e4, f4])
  have x1 : f_W_clearsMarksAndStoops A = some A2 := by rw [← c1, ← a1]; rfl
  have x3 : A2 3 = A1 3 := c2 3 (by decide)
  have x4 : A1 4 = A 4 := a2 4 (by decide)
  have x : ∀ q, ¬ q = 3 → ¬ q = 4 → A2 q = A q := fun q g1 g2 => by rw [c2 q g2, a2 q g1]
  have y : ∀ q, ¬ q = 105 → B2 q = B q := fun q g => by rw [d2 q g, b2 q g]
  have y5 : ∀ j, j < 26 ∨ 46 ≤ j → B2 105 j = B 105 j := fun j hj => by rw [d4 j (fun k g1 g2 => by omega), b4 j (fun k g1 g2 => by omega)]
  refine ⟨A2, B2, x1, by rw [b1, d1], ?_⟩
  refine SS_w h' (fun q hq => x q ?_ ?_) (fun q hq => y q ?_) ?_ (by rw [x 2 (by decide) (by decide)]) (x 6 (by decide) (by decide)) (y5 2 (by omega)) (y 111 (by decide))
  · rintro rfl; exact hq (by decide)
  · rintro rfl; exact hq (by decide)
  · rintro rfl; exact hq (by decide)
  · unfold rWW
    rw [x 2 (by decide) (by decide), x 5 (by decide) (by decide), y 108 (by decide), y 109 (by decide), y 110 (by decide), y 104 (by decide), x3]
    refine ⟨⟨⟨?_, ?_, ?_, ?_, ?_, ?_, ?_⟩, fun k hk => ?_, fun k hk => ?_, fun k hk => ?_⟩, ?_⟩
    · rw [y5 1 (by omega)]; exact e0
    · rw [y5 0 (by omega)]; exact e1
    · rw [y5 3 (by omega)]; exact e2
    · rw [y5 4 (by omega)]; exact e3
    · exact e4
    · exact e5
    · rw [y5 5 (by omega)]; exact e6
    · obtain ⟨k1, k2, k3, k4, k5⟩ := eP k hk
      rw [a4 (5 * k) (fun k' _ _ => by omega), a4 (5 * k + 1) (fun k' _ _ => by omega), a4 (5 * k + 2) (fun k' _ _ => by omega), a4 (5 * k + 4) (fun k' _ _ => by omega), y5 (6 + k) (by omega), y5 (16 + k) (by omega)]
      refine ⟨k1, k2, k3, ?_, k5⟩
      by_cases hkP : k < P
      · rw [a3 k (by omega) hkP, d3 k (by omega) hkP]
      · rw [a4 _ (fun k' _ _ => by omega), d4 _ (fun k' _ _ => by omega), b4 _ (fun k' _ _ => by omega)]; exact k4
    · obtain ⟨k1, k2, k3⟩ := eB k hk
      rw [c4 (3 * k) (fun k' _ _ => by omega), c4 (3 * k + 1) (fun k' _ _ => by omega), x4, y5 (46 + k) (by omega)]
      refine ⟨k1, k2, ?_⟩
      rw [d4 _ (fun k' _ _ => by omega)]
      by_cases hkS : k < S
      · rw [c3 k (by omega) hkS, b3 k (by omega) hkS]
      · rw [c4 _ (fun k' _ _ => by omega), b4 _ (fun k' _ _ => by omega), x4]; exact k3
    · rw [y5 _ (by omega)]; exact eR k hk
    · refine ⟨P, S, U, hP, hS, hU, f4, f5, f6, fun k hk => ?_, fun k hk => ?_, nR⟩
      · obtain ⟨u, v, w, q1, q2, q3, q4, q5, q6⟩ := nP k hk
        rw [a4 (5 * k) (fun k' _ _ => by omega), a4 (5 * k + 2) (fun k' _ _ => by omega)]
        by_cases hkP : k < P
        · rw [a3 k (by omega) hkP]
          exact ⟨u, v, 0, q1, q2, by omega, q4, q5, rfl⟩
        · rw [a4 _ (fun k' _ _ => by omega)]
          exact ⟨u, v, w, q1, q2, q3, q4, q5, q6⟩
      · rw [c4 (3 * k) (fun k' _ _ => by omega), c4 (3 * k + 1) (fun k' _ _ => by omega), x4]
        exact nB k hk
/-- the day ends -/
theorem p_dayend {t : Nat} {A B : jp_M} (h : HH t A B) (c : Int32) : ∃ A' B', f_K_passesDay_51 c A = some (c, A') ∧ f_M_goesBy_119 c B = some (c, B') ∧ SS t A B A' B' := by
  have h' := h
  obtain ⟨hW, -⟩ := h
  obtain ⟨⟨⟨e0, e1, e2, e3, e4, e5, e6⟩, eP, eB, eR⟩, nW⟩ := hW
  obtain ⟨P, S, U, hP, hS, hU, f4, f5, f6, nP, nB, nR⟩ := nW
  refine ⟨jp_set A 2 (upd (A 2) 1 (A 2 1 + 1)), jp_set B 105 (upd (B 105) 0 (B 105 0 + 1)), rfl, rfl, ?_⟩
  refine SS_w h' ?_ ?_ ?_ ?_ ?_ ?_ ?_
  · intro q hq; rw [st_ne (by rintro rfl; exact hq (by decide))]
  · intro q hq; rw [st_ne (by rintro rfl; exact hq (by decide))]
  · unfold rWW
    simp only [st_ap, Nat.reduceEqDiff, Nat.reduceAdd, Nat.reduceMul, ite_true, ite_false, if_true, if_false, eq_self_iff_true, ↓reduceIte, and_self, and_true, true_and, and_false, false_and, not_true_eq_false, not_false_eq_true, if_pos, if_neg]
    rw [e1]
    generalize B 105 0 + 1 = D
    refine ⟨⟨⟨?_, ?_, ?_, ?_, ?_, ?_, ?_⟩, fun i hi => ?_, fun i hi => ?_, fun i hi => ?_⟩, ?_⟩
    all_goals try simp (disch := omega) only [ud_ne, ud_eq]
    all_goals first | assumption | skip
    · exact eP i hi
    · exact eB i hi
    · exact eR i hi
    · exact ⟨P, S, U, hP, hS, hU, by simp (disch := omega) only [ud_ne, f4], by simp (disch := omega) only [ud_ne, f5], by simp (disch := omega) only [ud_ne, f6], nP, nB, nR⟩
  · rw [st_same, ud_ne (by decide)]
  · rw [st_ne (by decide)]
  · rw [st_same, ud_ne (by decide)]
  · rw [st_ne (by decide)]
/-- behind the fines -/
theorem p_day2 {t : Nat} (ht : t < 2) {A B : jp_M} (h : HH t A B) (c : Int32) : ∃ A' B', f_K_passesDay_22 c A = some (c, A') ∧ f_M_goesBy_47 c B = some (c, B') ∧ SS t A B A' B' := by
  obtain ⟨P, S, U, hP, hS, hU, f4, f5, f6, g6, g7, g5, -⟩ := HH_up h
  obtain ⟨A1, B1, k1, k2, s1⟩ := l_wears ht hU U 0 0 U (by omega) (by omega) hU jFu jFu (jFu_lt (by omega)) (jFu_lt (by omega)) A B h f6
  have k1' : f_K_wears A = some A1 := by rw [f_K_wears, f6]; exact k1
  have k2' : f_M_passes B = some B1 := k2
  have day := s1.2.2.1.1.1.1.2.1
  by_cases hd : B1 105 0 % nI 360 = nI 270
  · obtain ⟨A2, B2, m1, m2, s2⟩ := p_clear s1.2.2.1 c
    obtain ⟨A3, B3, r1, r2, s3⟩ := p_dayend s2.2.2.1 c
    refine ⟨A3, B3, ?_, ?_, SS_trans s1 (SS_trans s2 s3)⟩
    · rw [← r1]
      simp (disch := omega) only [f_K_passesDay_22, jp_c, decide_eq_true_eq, n_lit, Nat.reduceEqDiff, Nat.reduceAdd, Nat.reduceMul, ite_true, ite_false, if_true, if_false, eq_self_iff_true, ↓reduceIte, and_self, and_true, true_and, and_false, false_and, not_true_eq_false, not_false_eq_true, if_pos, if_neg, k1', day, hd, m1, Option.bind_some]
    · rw [← r2, ← m2]
      simp (disch := omega) only [f_M_goesBy_47, jp_c, decide_eq_true_eq, n_lit, Nat.reduceEqDiff, Nat.reduceAdd, Nat.reduceMul, ite_true, ite_false, if_true, if_false, eq_self_iff_true, ↓reduceIte, and_self, and_true, true_and, and_false, false_and, not_true_eq_false, not_false_eq_true, if_pos, if_neg, k2', hd, Option.bind_some]
  · obtain ⟨A3, B3, r1, r2, s3⟩ := p_dayend s1.2.2.1 c
    refine ⟨A3, B3, ?_, ?_, SS_trans s1 s3⟩
    · rw [← r1]
      simp (disch := omega) only [f_K_passesDay_22, jp_c, decide_eq_true_eq, n_lit, Nat.reduceEqDiff, Nat.reduceAdd, Nat.reduceMul, ite_true, ite_false, if_true, if_false, eq_self_iff_true, ↓reduceIte, and_self, and_true, true_and, and_false, false_and, not_true_eq_false, not_false_eq_true, if_pos, if_neg, k1', day, hd, Option.bind_some]
    · rw [← r2]
      simp (disch := omega) only [f_M_goesBy_47, jp_c, decide_eq_true_eq, n_lit, Nat.reduceEqDiff, Nat.reduceAdd, Nat.reduceMul, ite_true, ite_false, if_true, if_false, eq_self_iff_true, ↓reduceIte, and_self, and_true, true_and, and_false, false_and, not_true_eq_false, not_false_eq_true, if_pos, if_neg, k2', hd, Option.bind_some]
/-- a day goes by -/
theorem p_day {t : Nat} (ht : t < 2) {A B : jp_M} (h : HH t A B) : ∃ c A' B', f_K_passesDay A = some (c, A') ∧ f_M_goesBy B = some (c, B') ∧ SS t A B A' B' := by
  obtain ⟨P, N, hP, hN, p1, p2, p3, p4, p5⟩ := HH_pet h
  obtain ⟨A1, B1, k1, k2, s1⟩ := l_hears ht hN N 0 (by omega) jFu jFu (jFu_lt (by omega)) (jFu_lt (by omega)) A B h p2
  have k1' : f_K_hears A = some A1 := k1
  have k2' : f_M_petitionsOf B = some B1 := k2
  have hs := n_summer (A := A1) (B := B1) s1.2.2.1.1.1.1.2.1
  obtain ⟨P', S, U, hP', hS, hU, f4, f5, f6, g6, g7, g5, -⟩ := HH_up s1.2.2.1
  by_cases hs0 : f_M_isSummer B1 = nI 0
  · obtain ⟨A2, B2, m1, m2, s2⟩ := p_day2 ht s1.2.2.1 (nI 0)
    refine ⟨nI 0, A2, B2, ?_, ?_, SS_trans s1 s2⟩
    · rw [← m1]
      simp (disch := omega) only [f_K_passesDay, jp_c, decide_eq_true_eq, n_lit, Nat.reduceEqDiff, Nat.reduceAdd, Nat.reduceMul, ite_true, ite_false, if_true, if_false, eq_self_iff_true, ↓reduceIte, and_self, and_true, true_and, and_false, false_and, not_true_eq_false, not_false_eq_true, if_pos, if_neg, k1', hs, hs0, Option.bind_some]
    · have q : f_M_goesBy_8 jFu (nI 0) (nI 0) B1 = f_M_goesBy_47 (nI 0) B1 := by
        rw [show jFu = 99999 + 1 from rfl]
        generalize 99999 = z
        by_cases hU0 : U = 0
        · simp (disch := omega) only [f_M_goesBy_8, jp_c, decide_eq_true_eq, n_lit, n_le, Nat.reduceEqDiff, Nat.reduceAdd, Nat.reduceMul, ite_true, ite_false, if_true, if_false, eq_self_iff_true, ↓reduceIte, and_self, and_true, true_and, and_false, false_and, not_true_eq_false, not_false_eq_true, if_pos, if_neg, g5]
        · simp (disch := omega) only [f_M_goesBy_8, jp_c, decide_eq_true_eq, n_lit, n_le, Nat.reduceEqDiff, Nat.reduceAdd, Nat.reduceMul, ite_true, ite_false, if_true, if_false, eq_self_iff_true, ↓reduceIte, and_self, and_true, true_and, and_false, false_and, not_true_eq_false, not_false_eq_true, if_pos, if_neg, g5, hs0]
      rw [← m2, f_M_goesBy, k2', Option.bind_some]
      exact q
  · obtain ⟨A2, B2, c, m1, m2, s2⟩ := l_fines ht hU U 0 0 U (by omega) (by omega) (Nat.le_refl _) jFu jFu (jFu_lt (by omega)) (jFu_lt (by omega)) A1 B1 s1.2.2.1 f6 hs0
    obtain ⟨A3, B3, r1, r2, s3⟩ := p_day2 ht s2.2.2.1 (nI c)
    have m1' : f_K_fines A1 = some (nI c, A2) := by rw [f_K_fines, f6]; exact m1
    refine ⟨nI c, A3, B3, ?_, ?_, SS_trans s1 (SS_trans s2 s3)⟩
    · rw [← r1]
      simp (disch := omega) only [f_K_passesDay, jp_c, decide_eq_true_eq, n_lit, Nat.reduceEqDiff, Nat.reduceAdd, Nat.reduceMul, ite_true, ite_false, if_true, if_false, eq_self_iff_true, ↓reduceIte, and_self, and_true, true_and, and_false, false_and, not_true_eq_false, not_false_eq_true, if_pos, if_neg, k1', hs, hs0, m1', Option.bind_some]
    · rw [← r2, ← m2, f_M_goesBy, k2', Option.bind_some, Nat.sub_self]
      rfl
/-- days go by, one by one -/
theorem l_days {N : Nat} (hN : N ≤ 60) : ∀ d i, i + d = N → ∀ n m, d < n → d < m → ∀ A B s, Rel A B → pOK (f_C_days_31 n (nI N) s (nI i) A) (f_M_days_36 m (nI N) s (nI i) B) := by
  intro d
  induction d with
  | zero =>
    intro i hi n m hn hm A B s hR
    obtain ⟨n, rfl⟩ : ∃ k, n = k + 1 := ⟨n - 1, by omega⟩
    obtain ⟨m, rfl⟩ : ∃ k, m = k + 1 := ⟨m - 1, by omega⟩
    simp (disch := omega) only [f_C_days_31, f_M_days_36, jp_c, decide_eq_true_eq, n_lit, n_neg1, n_add, n_mul, n_sub, n_div, n_mod, n_le, n_lt, n_eq, n_cl, n_in, Nat.reduceEqDiff, Nat.reduceAdd, Nat.reduceMul, ite_true, ite_false, if_true, if_false, eq_self_iff_true, ↓reduceIte, and_self, and_true, true_and, and_false, false_and, not_true_eq_false, not_false_eq_true, if_pos, if_neg]
    exact pOK_mk rfl hR
  | succ d ih =>
    intro i hi n m hn hm A B s hR
    obtain ⟨n, rfl⟩ : ∃ k, n = k + 1 := ⟨n - 1, by omega⟩
    obtain ⟨m, rfl⟩ : ∃ k, m = k + 1 := ⟨m - 1, by omega⟩
    obtain ⟨A2, B2, k1, k2, hR2, -⟩ := p_keep hR
    obtain ⟨c, A3, B3, m1, m2, s3⟩ := p_day (t := 0) (by omega) (HH_rel hR2)
    have := ih (i + 1) (by omega) n m (by omega) (by omega) A3 B3 (s + c) (Rel_SS hR2 s3)
    simp (disch := omega) only [f_C_days_31, f_M_days_36, jp_c, decide_eq_true_eq, n_lit, n_neg1, n_add, n_mul, n_sub, n_div, n_mod, n_le, n_lt, n_eq, n_cl, n_in, Nat.reduceEqDiff, Nat.reduceAdd, Nat.reduceMul, ite_true, ite_false, if_true, if_false, eq_self_iff_true, ↓reduceIte, and_self, and_true, true_and, and_false, false_and, not_true_eq_false, not_false_eq_true, if_pos, if_neg, k1, k2, m1, m2, Option.bind_some]
    exact this
theorem n_goby (x : Int32) : f_C_canGoBy x = f_M_isIn x 1 60 := rfl
theorem p_days (a : Int32) {A B : jp_M} (hR : Rel A B) : pOK (f_C_days a A) (f_M_days a B) := by
  have T := Rel_told (x := nI 0) hR
  generalize hB1 : jp_set B 104 (upd (B 104) 0 (nI 0)) = B1 at T
  have day := T.1.1.1.1.2.1
  by_cases h1 : nI 1 ≤ a ∧ a ≤ nI 60
  · by_cases h2 : B1 105 0 + a ≤ nI 9999
    · obtain ⟨x, hx0, hx, rfl⟩ := n_rng (by omega) h1.1 (by omega) h1.2
      simp (disch := omega) only [f_C_days, f_M_days, hB1, n_goby, n_isIn, n_it0, jp_c, decide_eq_true_eq, n_lit, n_le, n_eq, Nat.reduceEqDiff, Nat.reduceAdd, Nat.reduceMul, ite_true, ite_false, if_true, if_false, eq_self_iff_true, ↓reduceIte, and_self, and_true, true_and, and_false, false_and, not_true_eq_false, not_false_eq_true, if_pos, if_neg, hx0, hx, day, h2]
      exact l_days hx x 0 (by omega) jFu jFu (jFu_lt (by omega)) (jFu_lt (by omega)) A B1 (nI 0) T
    · simp (disch := omega) only [f_C_days, f_M_days, hB1, n_goby, n_isIn, n_it0, jp_c, decide_eq_true_eq, n_lit, n_neg1, n_eq, Nat.reduceEqDiff, Nat.reduceAdd, Nat.reduceMul, ite_true, ite_false, if_true, if_false, eq_self_iff_true, ↓reduceIte, and_self, and_true, true_and, and_false, false_and, not_true_eq_false, not_false_eq_true, if_pos, if_neg, h1, day, h2]
      exact pOK_mk rfl T
  · simp (disch := omega) only [f_C_days, f_M_days, hB1, n_goby, n_isIn, n_it0, jp_c, decide_eq_true_eq, n_lit, n_neg1, Nat.reduceEqDiff, Nat.reduceAdd, Nat.reduceMul, ite_true, ite_false, if_true, if_false, eq_self_iff_true, ↓reduceIte, and_self, and_true, true_and, and_false, false_and, not_true_eq_false, not_false_eq_true, if_pos, if_neg, h1]
    exact pOK_mk rfl T
