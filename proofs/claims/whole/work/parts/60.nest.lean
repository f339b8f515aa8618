theorem p_nest (a b : Int32) {A B : jp_M} (hR : Rel A B) : pOK (f_C_nest a b A) (f_M_nest a b B) := by
  have T := Rel_told (x := nI 0) hR
  generalize hB1 : jp_set B 104 (upd (B 104) 0 (nI 0)) = B1 at T
  obtain ⟨A', B', k1, k2, hR2, k3, k4, k5, k6⟩ := p_keep T
  have hT := T
  obtain ⟨⟨hW, hBk, hLw, hPe, hLe, hCi, hWi, hKi, hPo, hWy, hVo⟩, hPic, hKe, hTa, hFa, hTh, hWd⟩ := T
  obtain ⟨⟨⟨e0, e1, e2, e3, e4, e5, e6⟩, eP, eB, eR⟩, nW⟩ := hW
  obtain ⟨P, S, U, hP, hS, hU, f4, f5, f6, nP, nB, nR⟩ := nW
  have g7 : B1 104 7 = nI S := by rw [← e5, f5]
  by_cases h1 : nI 0 ≤ a ∧ a < nI S
  · by_cases h2 : nI 0 ≤ b ∧ b ≤ nI 9
    · obtain ⟨x, hx, rfl⟩ := n_rngl (by omega) h1
      obtain ⟨y, -, hy, rfl⟩ := n_rng (by omega) h2.1 (by omega) h2.2
      have eb := (eB x (by omega)).1
      by_cases h3 : B1 105 (46 + x) = nI y
      · simp (disch := omega) only [f_C_nest, f_M_nest, hB1, n_hasS, n_isB, n_within, n_isIn, n_it0, jp_c, decide_eq_true_eq, n_lit, n_neg1, n_add, n_mul, n_sub, n_div, n_mod, n_le, n_lt, n_eq, n_cl, n_in, Nat.reduceEqDiff, Nat.reduceAdd, Nat.reduceMul, ite_true, ite_false, if_true, if_false, eq_self_iff_true, ↓reduceIte, and_self, and_true, true_and, and_false, false_and, not_true_eq_false, not_false_eq_true, if_pos, if_neg, Nat.add_zero, Nat.zero_le, hx, hy, f5, g7, jg_t, eb, h3]
        exact pOK_mk rfl hT
      · have e1 : f_C_nest (nI x) (nI y) A = some (nI 1, jp_set A' 4 (upd (A' 4) (3 * x) (nI y))) := by
          simp (disch := omega) only [f_C_nest, n_hasS, n_within, n_it0, jp_c, decide_eq_true_eq, n_lit, n_neg1, n_add, n_mul, n_sub, n_div, n_mod, n_le, n_lt, n_eq, n_cl, n_in, Nat.reduceEqDiff, Nat.reduceAdd, Nat.reduceMul, ite_true, ite_false, if_true, if_false, eq_self_iff_true, ↓reduceIte, and_self, and_true, true_and, and_false, false_and, not_true_eq_false, not_false_eq_true, if_pos, if_neg, Nat.add_zero, Nat.zero_le, hx, hy, f5, jg_t, eb, h3, k1, Option.bind_some]
        have e2 : f_M_nest (nI x) (nI y) B = some (nI 1, jp_set B' 105 (upd (B' 105) (46 + x) (nI y))) := by
          simp (disch := omega) only [f_M_nest, hB1, n_isB, n_isIn, n_it0, jp_c, decide_eq_true_eq, n_lit, n_neg1, n_add, n_mul, n_sub, n_div, n_mod, n_le, n_lt, n_eq, n_cl, n_in, Nat.reduceEqDiff, Nat.reduceAdd, Nat.reduceMul, ite_true, ite_false, if_true, if_false, eq_self_iff_true, ↓reduceIte, and_self, and_true, true_and, and_false, false_and, not_true_eq_false, not_false_eq_true, if_pos, if_neg, Nat.add_zero, Nat.zero_le, hx, hy, g7, jg_t, h3, k2, Option.bind_some]
        rw [e1, e2]
        refine pOK_mk rfl ?_
        clear hBk hLw hPe hLe hCi hWi hKi hPo hWy hVo hPic hKe hTa hFa hTh hWd e0 e1 e2 e3 e4 e5 e6 eP eB eR nP nB nR f4 f5 f6
        have hR3 := hR2
        obtain ⟨⟨hW, hBk, hLw, hPe, hLe, hCi, hWi, hKi, hPo, hWy, hVo⟩, hPic, hKe, hTa, hFa, hTh, hWd⟩ := hR2
        obtain ⟨⟨⟨e0, e1, e2, e3, e4, e5, e6⟩, eP, eB, eR⟩, nW⟩ := hW
        obtain ⟨P, S, U, hP, hS', hU, f4, f5, f6, nP, nB, nR⟩ := nW
        refine Rel_w hR3 ?_ ?_ ?_ ?_ ?_ ?_ ?_ ?_
        · (intro p hp; simp only [wA, wBB, wF, scA, scB, scF, List.mem_cons, List.not_mem_nil, or_false, not_or] at hp; simp only [st_ap, ud_ap, hp, Nat.reduceEqDiff, ite_false, if_false, ite_true, if_true, reduceIte])
        · (intro p hp; simp only [wA, wBB, wF, scA, scB, scF, List.mem_cons, List.not_mem_nil, or_false, not_or] at hp; simp only [st_ap, ud_ap, hp, Nat.reduceEqDiff, ite_false, if_false, ite_true, if_true, reduceIte])
        · (intro p hp; simp only [wA, wBB, wF, scA, scB, scF, List.mem_cons, List.not_mem_nil, or_false, not_or] at hp; simp only [st_ap, ud_ap, hp, Nat.reduceEqDiff, ite_false, if_false, ite_true, if_true, reduceIte])
        · (intro p hp; simp only [wA, wBB, wF, scA, scB, scF, List.mem_cons, List.not_mem_nil, or_false, not_or] at hp; simp only [st_ap, ud_ap, hp, Nat.reduceEqDiff, ite_false, if_false, ite_true, if_true, reduceIte])
        · simp only [st_ap, ud_ap, Nat.reduceEqDiff, Nat.reduceAdd, Nat.reduceMul, ite_true, ite_false, if_true, if_false, eq_self_iff_true, ↓reduceIte, and_self, and_true, true_and, and_false, false_and, not_true_eq_false, not_false_eq_true, if_pos, if_neg]
          refine ⟨⟨⟨?_, ?_, ?_, ?_, ?_, ?_, ?_⟩, fun i hi => ?_, fun i hi => ?_, fun i hi => ?_⟩, ?_⟩
          all_goals try simp (disch := omega) only [ud_ne, ud_eq]
          all_goals first | assumption | skip
          · exact eP i hi
          · by_cases hi' : i = x
            · subst hi'
              simp (disch := omega) only [ud_ne, ud_eq, true_and]
              exact (eB i hi).2
            · simp (disch := omega) only [ud_ne]
              exact eB i hi
          · exact eR i hi
          · refine ⟨P, S, U, hP, hS', hU, f4, f5, f6, nP, fun i hi => ?_, nR⟩
            by_cases hi' : i = x
            · subst hi'
              obtain ⟨u, v, q1, q2, q3, q4⟩ := nB i hi
              simp (disch := omega) only [ud_ne, ud_eq]
              exact ⟨y, v, hy, q2, rfl, q4⟩
            · simp (disch := omega) only [ud_ne]
              exact nB i hi
        · simp (disch := omega) only [st_ap, ud_ne, ud_eq, Nat.reduceEqDiff, Nat.reduceAdd, Nat.reduceMul, ite_true, ite_false, if_true, if_false, eq_self_iff_true, ↓reduceIte, and_self, and_true, true_and, and_false, false_and, not_true_eq_false, not_false_eq_true, if_pos, if_neg]; exact hBk
        · simp (disch := omega) only [st_ap, ud_ne, ud_eq, Nat.reduceEqDiff, Nat.reduceAdd, Nat.reduceMul, ite_true, ite_false, if_true, if_false, eq_self_iff_true, ↓reduceIte, and_self, and_true, true_and, and_false, false_and, not_true_eq_false, not_false_eq_true, if_pos, if_neg]; exact hPe
        · simp only [st_ap, ud_ap, Nat.reduceEqDiff, Nat.reduceAdd, Nat.reduceMul, ite_true, ite_false, if_true, if_false, eq_self_iff_true, ↓reduceIte, and_self, and_true, true_and, and_false, false_and, not_true_eq_false, not_false_eq_true, if_pos, if_neg]; exact rKept_sA (by decide) hKe
    · simp (disch := omega) only [f_C_nest, f_M_nest, hB1, n_hasS, n_isB, n_within, n_isIn, n_it0, jp_c, decide_eq_true_eq, n_lit, n_neg1, n_add, n_mul, n_sub, n_div, n_mod, n_le, n_lt, n_eq, n_cl, n_in, Nat.reduceEqDiff, Nat.reduceAdd, Nat.reduceMul, ite_true, ite_false, if_true, if_false, eq_self_iff_true, ↓reduceIte, and_self, and_true, true_and, and_false, false_and, not_true_eq_false, not_false_eq_true, if_pos, if_neg, h1, h2, f5, g7]
      exact pOK_mk rfl hT
  · simp (disch := omega) only [f_C_nest, f_M_nest, hB1, n_hasS, n_isB, n_within, n_isIn, n_it0, jp_c, decide_eq_true_eq, n_lit, n_neg1, n_add, n_mul, n_sub, n_div, n_mod, n_le, n_lt, n_eq, n_cl, n_in, Nat.reduceEqDiff, Nat.reduceAdd, Nat.reduceMul, ite_true, ite_false, if_true, if_false, eq_self_iff_true, ↓reduceIte, and_self, and_true, true_and, and_false, false_and, not_true_eq_false, not_false_eq_true, if_pos, if_neg, h1, f5, g7]
    exact pOK_mk rfl hT
theorem l_un {K : Nat} (hK : K ≤ 5) : ∀ d i, i + d = 184 → ∀ n, d < n → ∀ M : jp_M, M 104 3 = nI K → ∃ M', f_M_undo_26 n (nI i) M = some (nI 1, M') ∧ (∀ q, ¬ q = 105 → M' q = M q) ∧ (∀ k, i ≤ k → k < 184 → M' 105 k = M 106 (184 * K + k)) ∧ (∀ k, k < i → M' 105 k = M 105 k) := by
  intro d
  induction d with
  | zero =>
    intro i hi n hn M h3
    obtain ⟨n, rfl⟩ : ∃ k, n = k + 1 := ⟨n - 1, by omega⟩
    refine ⟨M, ?_, fun _ _ => rfl, fun k h1 h2 => by omega, fun _ _ => rfl⟩
    simp (disch := omega) only [f_M_undo_26, jp_c, decide_eq_true_eq, n_lit, n_neg1, n_add, n_mul, n_sub, n_div, n_mod, n_le, n_lt, n_eq, n_cl, n_in, Nat.reduceEqDiff, Nat.reduceAdd, Nat.reduceMul, ite_true, ite_false, if_true, if_false, eq_self_iff_true, ↓reduceIte, and_self, and_true, true_and, and_false, false_and, not_true_eq_false, not_false_eq_true, if_pos, if_neg]
  | succ d ih =>
    intro i hi n hn M h3
    obtain ⟨n, rfl⟩ : ∃ k, n = k + 1 := ⟨n - 1, by omega⟩
    obtain ⟨M', e1, e2, e3, e4⟩ := ih (i + 1) (by omega) n (by omega) (jp_set M 105 (upd (M 105) i (M 106 (184 * K + i)))) (by rw [st_ne (by decide)]; exact h3)
    refine ⟨M', ?_, ?_, ?_, ?_⟩
    · rw [← e1]
      simp (disch := omega) only [f_M_undo_26, jp_c, decide_eq_true_eq, n_lit, n_neg1, n_add, n_mul, n_sub, n_div, n_mod, n_le, n_lt, n_eq, n_cl, n_in, Nat.reduceEqDiff, Nat.reduceAdd, Nat.reduceMul, ite_true, ite_false, if_true, if_false, eq_self_iff_true, ↓reduceIte, and_self, and_true, true_and, and_false, false_and, not_true_eq_false, not_false_eq_true, if_pos, if_neg, h3, jg_t]
    · intro q h1; rw [e2 q h1, st_ne h1]
    · intro k h1 h2
      by_cases hk : k = i
      · subst hk
        rw [e4 _ (by omega), st_same, ud_eq rfl]
      · rw [e3 k (by omega) h2, st_ne (by decide)]
    · intro k hk
      rw [e4 k (by omega), st_same, ud_ne (by omega)]
theorem k_undo {A : jp_M} {N K : Nat} (hN : N < 6) (hK : 0 < K) (hK6 : K ≤ 6) (h5 : A 0 5 = nI N) (h4 : A 0 4 = nI K) : ∃ A' M1, f_C_undo A = some (nI 1, A') ∧ cpW A M1 (80 + 4 * N) 2 ∧ (∀ q, ¬ q = 0 → A' q = M1 q) ∧ (∀ i, ¬ i = 4 → ¬ i = 5 → A' 0 i = A 0 i) ∧ A' 0 5 = nI ((N + 5) % 6) ∧ A' 0 4 = nI (K - 1) := by
  have key : ∀ (k : Nat) (M1 : jp_M), N = k → cpW A M1 (80 + 4 * k) 2 → f_C_undo A = some (nI 1, jp_set (jp_set M1 0 (upd (M1 0) 5 ((M1 0 5 + nI 6 - nI 1) % nI 6))) 0 (upd (upd (M1 0) 5 ((M1 0 5 + nI 6 - nI 1) % nI 6)) 4 ((upd (M1 0) 5 ((M1 0 5 + nI 6 - nI 1) % nI 6)) 4 - nI 1))) →
      ∃ A' M1, f_C_undo A = some (nI 1, A') ∧ cpW A M1 (80 + 4 * N) 2 ∧ (∀ q, ¬ q = 0 → A' q = M1 q) ∧ (∀ i, ¬ i = 4 → ¬ i = 5 → A' 0 i = A 0 i) ∧ A' 0 5 = nI ((N + 5) % 6) ∧ A' 0 4 = nI (K - 1) := by
    intro k M1 hk hc he
    subst hk
    have z0 : M1 0 = A 0 := hc.1 0 (by omega) (by omega) (by omega) (by omega)
    refine ⟨_, M1, he, hc, ?_, ?_, ?_, ?_⟩
    · intro q hq; rw [st_ne hq, st_ne hq]
    · intro i h1 h2; rw [st_same, ud_ne h1, ud_ne h2, z0]
    · rw [st_same, ud_ne (by decide), ud_eq rfl, z0, h5]; simp (disch := omega) only [n_lit, n_neg1, n_add, n_mul, n_sub, n_div, n_mod, n_le, n_lt, n_eq, n_cl, n_in]; rw [show N + 6 - 1 = N + 5 by omega]
    · rw [st_same, ud_eq rfl, ud_ne (by decide), z0, h4]; simp (disch := omega) only [n_lit, n_neg1, n_add, n_mul, n_sub, n_div, n_mod, n_le, n_lt, n_eq, n_cl, n_in]
  by_cases g0 : N = 0
  · refine key 0 _ g0 (c_W_becomes_8 A) ?_
    subst g0
    simp (disch := omega) only [f_C_undo, h4, h5, jp_c, decide_eq_true_eq, n_lit, n_neg1, n_add, n_mul, n_sub, n_div, n_mod, n_le, n_lt, n_eq, n_cl, n_in, Nat.reduceEqDiff, Nat.reduceAdd, Nat.reduceMul, ite_true, ite_false, if_true, if_false, eq_self_iff_true, ↓reduceIte, and_self, and_true, true_and, and_false, false_and, not_true_eq_false, not_false_eq_true, if_pos, if_neg, jg_t, st_ap]
  by_cases g1 : N = 1
  · refine key 1 _ g1 (c_W_becomes_9 A) ?_
    subst g1
    simp (disch := omega) only [f_C_undo, h4, h5, jp_c, decide_eq_true_eq, n_lit, n_neg1, n_add, n_mul, n_sub, n_div, n_mod, n_le, n_lt, n_eq, n_cl, n_in, Nat.reduceEqDiff, Nat.reduceAdd, Nat.reduceMul, ite_true, ite_false, if_true, if_false, eq_self_iff_true, ↓reduceIte, and_self, and_true, true_and, and_false, false_and, not_true_eq_false, not_false_eq_true, if_pos, if_neg, jg_t, st_ap]
  by_cases g2 : N = 2
  · refine key 2 _ g2 (c_W_becomes_10 A) ?_
    subst g2
    simp (disch := omega) only [f_C_undo, h4, h5, jp_c, decide_eq_true_eq, n_lit, n_neg1, n_add, n_mul, n_sub, n_div, n_mod, n_le, n_lt, n_eq, n_cl, n_in, Nat.reduceEqDiff, Nat.reduceAdd, Nat.reduceMul, ite_true, ite_false, if_true, if_false, eq_self_iff_true, ↓reduceIte, and_self, and_true, true_and, and_false, false_and, not_true_eq_false, not_false_eq_true, if_pos, if_neg, jg_t, st_ap]
  by_cases g3 : N = 3
  · refine key 3 _ g3 (c_W_becomes_11 A) ?_
    subst g3
    simp (disch := omega) only [f_C_undo, h4, h5, jp_c, decide_eq_true_eq, n_lit, n_neg1, n_add, n_mul, n_sub, n_div, n_mod, n_le, n_lt, n_eq, n_cl, n_in, Nat.reduceEqDiff, Nat.reduceAdd, Nat.reduceMul, ite_true, ite_false, if_true, if_false, eq_self_iff_true, ↓reduceIte, and_self, and_true, true_and, and_false, false_and, not_true_eq_false, not_false_eq_true, if_pos, if_neg, jg_t, st_ap]
  by_cases g4 : N = 4
  · refine key 4 _ g4 (c_W_becomes_12 A) ?_
    subst g4
    simp (disch := omega) only [f_C_undo, h4, h5, jp_c, decide_eq_true_eq, n_lit, n_neg1, n_add, n_mul, n_sub, n_div, n_mod, n_le, n_lt, n_eq, n_cl, n_in, Nat.reduceEqDiff, Nat.reduceAdd, Nat.reduceMul, ite_true, ite_false, if_true, if_false, eq_self_iff_true, ↓reduceIte, and_self, and_true, true_and, and_false, false_and, not_true_eq_false, not_false_eq_true, if_pos, if_neg, jg_t, st_ap]
  by_cases g5 : N = 5
  · refine key 5 _ g5 (c_W_becomes_13 A) ?_
    subst g5
    simp (disch := omega) only [f_C_undo, h4, h5, jp_c, decide_eq_true_eq, n_lit, n_neg1, n_add, n_mul, n_sub, n_div, n_mod, n_le, n_lt, n_eq, n_cl, n_in, Nat.reduceEqDiff, Nat.reduceAdd, Nat.reduceMul, ite_true, ite_false, if_true, if_false, eq_self_iff_true, ↓reduceIte, and_self, and_true, true_and, and_false, false_and, not_true_eq_false, not_false_eq_true, if_pos, if_neg, jg_t, st_ap]
  omega
theorem p_undo {A B : jp_M} (hR : Rel A B) : pOK (f_C_undo A) (f_M_undo B) := by
  have T := Rel_told (x := nI 0) hR
  generalize hB1 : jp_set B 104 (upd (B 104) 0 (nI 0)) = B1 at T
  have hT := T
  obtain ⟨⟨hW, hBk, hLw, hPe, hLe, hCi, hWi, hKi, hPo, hWy, hVo⟩, hPic, hKe, hTa, hFa, hTh, hWd⟩ := T
  obtain ⟨K, N, Ls, hK, hN, k1, k2, k3, hk⟩ := hKe
  by_cases hK0 : K = 0
  · subst hK0
    simp (disch := omega) only [f_C_undo, f_M_undo, hB1, jp_c, decide_eq_true_eq, n_lit, n_neg1, n_add, n_mul, n_sub, n_div, n_mod, n_le, n_lt, n_eq, n_cl, n_in, Nat.reduceEqDiff, Nat.reduceAdd, Nat.reduceMul, ite_true, ite_false, if_true, if_false, eq_self_iff_true, ↓reduceIte, and_self, and_true, true_and, and_false, false_and, not_true_eq_false, not_false_eq_true, if_pos, if_neg, k1, k2]
    exact pOK_mk rfl hT
  · obtain ⟨A', M1, a1, hc, a2, a3, a4, a5⟩ := k_undo hN (by omega) hK k3 k1
    obtain ⟨B', b1, b2, b3, -⟩ := l_un (K := K - 1) (by omega) 184 0 (by omega) jFu (jFu_lt (by omega)) (jp_set B1 104 (upd (B1 104) 3 (nI (K - 1)))) (by rw [st_same, ud_eq rfl])
    have e2 : f_M_undo B = some (nI 1, B') := by
      rw [← b1]
      simp (disch := omega) only [f_M_undo, hB1, jp_c, decide_eq_true_eq, n_lit, n_neg1, n_add, n_mul, n_sub, n_div, n_mod, n_le, n_lt, n_eq, n_cl, n_in, Nat.reduceEqDiff, Nat.reduceAdd, Nat.reduceMul, ite_true, ite_false, if_true, if_false, eq_self_iff_true, ↓reduceIte, and_self, and_true, true_and, and_false, false_and, not_true_eq_false, not_false_eq_true, if_pos, if_neg, k2]
    rw [a1, e2]
    refine pOK_mk rfl ?_
    obtain ⟨c1, c2, c3, c4, c5⟩ := hc
    have aA : ∀ q, ¬ q = 0 → (q < 2 ∨ 6 ≤ q) → A' q = A q := by
      intro q h1 h2
      rw [a2 q h1, c1 q (by omega) (by omega) (by omega) (by omega)]
    have bB : ∀ q, ¬ q = 104 → ¬ q = 105 → B' q = B1 q := by
      intro q h1 h2
      rw [b2 q h2, st_ne h1]
    have b4 : ∀ i, ¬ i = 3 → B' 104 i = B1 104 i := by
      intro i hi
      rw [b2 104 (by decide), st_same, ud_ne hi]
    have b43 : B' 104 3 = nI (K - 1) := by rw [b2 104 (by decide), st_same, ud_eq rfl]
    have b5 : ∀ k, k < 184 → B' 105 k = B1 106 (184 * (K - 1) + k) := by
      intro k hk'
      rw [b3 k (by omega) hk', st_ne (by decide)]
    have zN : (N + 6 - 0) % 6 = N := by omega
    have y0 : K - 1 - 0 = K - 1 := rfl
    obtain ⟨w1, w2, w3, w4, w5, w6⟩ := hk 0 (by omega)
    rw [zN] at w1 w2
    rw [y0] at w1 w3
    have d2 : ∀ i, i < 8 → A' 2 i = A (80 + 4 * N) i := fun i hi => by rw [a2 2 (by decide), c2 i hi]
    have nW : rW (A' 2) (A' 3) (A' 4) (A' 5) (B' 105) (B1 108) (B1 109) (B1 110) (B1 104 6) (B1 104 7) := by
      refine rW_cg (fun i hi => ?_) (fun i hi => ?_) (fun i hi => ?_) (fun i hi => ?_) b5 (fun _ _ => rfl) (fun _ _ => rfl) (fun _ _ => rfl) w1
      · rw [d2 i (by omega)]
      · rw [a2 3 (by decide), c3 i (by omega), show 81 + 4 * N = 80 + 4 * N + 1 by omega]
      · rw [a2 4 (by decide), c4 i (by omega), show 82 + 4 * N = 80 + 4 * N + 2 by omega]
      · rw [a2 5 (by decide), c5 i (by omega), show 83 + 4 * N = 80 + 4 * N + 3 by omega]
    have s7 : A' 2 7 = nI (Ls 0) := by rw [d2 7 (by omega), w2]
    obtain ⟨L, hL, l1, l2, l3⟩ := hBk
    have hL0 := w5 L hL l1
    refine Rel_w hT ?_ ?_ ?_ ?_ ?_ ?_ ?_ ?_
    · intro p hp
      simp only [wA, List.mem_cons, List.not_mem_nil, or_false, not_or] at hp
      exact aA p (by omega) (by omega)
    · intro i hi
      simp only [List.mem_cons, List.not_mem_nil, or_false, not_or] at hi
      exact a3 i hi.1 hi.2
    · intro p hp
      simp only [wBB, List.mem_cons, List.not_mem_nil, or_false, not_or] at hp
      exact bB p (by omega) (by omega)
    · intro i hi
      simp only [wF, List.mem_cons, List.not_mem_nil, or_false, not_or] at hi
      exact b4 i (by omega)
    · rw [bB 108 (by decide) (by decide), bB 109 (by decide) (by decide), bB 110 (by decide) (by decide), b4 6 (by decide), b4 7 (by decide)]
      exact nW
    · rw [s7, aA 6 (by decide) (by decide), bB 111 (by decide) (by decide), b5 2 (by omega), w3]
      exact ⟨Ls 0, w4, rfl, rfl, fun j hj => l3 j (by omega)⟩
    · have q1 := nW.1.1.2.2.2.2.1
      have q2 := hW.1.1.2.2.2.2.1
      rw [q1, ← q2]; exact hPe
    · rw [a5, b43, a4, s7, bB 106 (by decide) (by decide), bB 108 (by decide) (by decide), bB 109 (by decide) (by decide), bB 110 (by decide) (by decide), b4 6 (by decide), b4 7 (by decide)]
      refine rKept_cg (A := A) (fun q h1 h2 => aA q (by omega) (by omega)) ?_
      refine ⟨K - 1, (N + 5) % 6, fun j => Ls (j + 1), by omega, Nat.mod_lt _ (by omega), rfl, rfl, rfl, fun j hj => ?_⟩
      obtain ⟨w1, w2, w3, w4, w5, w6⟩ := hk (j + 1) (by omega)
      rw [show ((N + 5) % 6 + 6 - j) % 6 = (N + 6 - (j + 1)) % 6 by omega, show K - 1 - 1 - j = K - 1 - (j + 1) by omega]
      refine ⟨w1, w2, w3, w4, ?_, fun i hi => w6 (i + 1) (by omega)⟩
      intro L' h1 h2
      rw [n_eq (by omega) (by omega)] at h2
      rw [← h2]
      exact w6 0 (by omega)
