theorem st_st (M : jp_M) (p : Nat) (f g : Nat → Int32) : jp_set (jp_set M p f) p g = jp_set M p g := by
  funext q
  simp only [st_ap]
  split <;> rfl
theorem jg_T {α : Type} {x : Option α} : jg True x = x := if_pos trivial
theorem p_set (a b c : Int32) {A B : jp_M} (hR : Rel A B) : pOK (f_C_set a b c A) (f_M_set a b c B) := by
  have hR' := hR
  obtain ⟨⟨hW, hBk, hLw, hPe, hLe, hCi, hWi, hKi, hPo, hWy, hVo⟩, hPic, hKe, hTa, hFa, hTh, hWd⟩ := hR
  have hN := rKept_nw hKe
  obtain ⟨⟨⟨e0, e1, e2, e3, e4, e5, e6⟩, eP, eB, eR⟩, nW⟩ := hW
  obtain ⟨P, S, U, hP, hS, hU, f4, f5, f6, nP, nB, nR⟩ := nW
  have g6 : B 104 6 = nI P := by rw [← e4, f4]
  have g7 : B 104 7 = nI S := by rw [← e5, f5]
  by_cases h10 : a = nI 0
  · subst h10
    by_cases h1 : nI 0 ≤ b ∧ b < nI P
    · by_cases h2 : nI 0 ≤ c ∧ c ≤ nI 7
      · obtain ⟨x, hx, rfl⟩ := n_rngl (by omega) h1
        obtain ⟨y, -, hy, rfl⟩ := n_rng (by omega) h2.1 (by omega) h2.2
        simp (disch := omega) only [f_C_set, f_C_set_121, f_C_setPerson, f_M_set, f_M_canSet, f_M_canSet_89, f_M_set_28, f_M_set_43, f_M_set_55, f_M_set_70, f_M_set_82, f_C_forgetKept, n_hasP, n_isP, n_within, n_isIn, n_it0, jp_c, decide_eq_true_eq, n_lit, n_neg1, n_add, n_mul, n_sub, n_div, n_mod, n_le, n_lt, n_eq, n_cl, n_in, st_ap, ud_ap, Nat.reduceEqDiff, Nat.reduceAdd, Nat.reduceMul, ite_true, ite_false, if_true, if_false, eq_self_iff_true, ↓reduceIte, and_self, and_true, true_and, and_false, false_and, not_true_eq_false, not_false_eq_true, if_pos, if_neg, f4, g6, jg_t, hx, hy, Nat.zero_le, Option.bind_some, or_true, true_or]
        refine pOK_mk rfl ?_
        refine Rel_w hR' ?_ ?_ ?_ ?_ ?_ ?_ ?_ ?_
        · (intro p hp; simp only [wA, wBB, wF, scA, scB, scF, List.mem_cons, List.not_mem_nil, or_false, not_or] at hp; simp only [st_ap, ud_ap, hp, Nat.reduceEqDiff, ite_false, if_false, ite_true, if_true, reduceIte])
        · (intro p hp; simp only [wA, wBB, wF, scA, scB, scF, List.mem_cons, List.not_mem_nil, or_false, not_or] at hp; simp only [st_ap, ud_ap, hp, Nat.reduceEqDiff, ite_false, if_false, ite_true, if_true, reduceIte])
        · (intro p hp; simp only [wA, wBB, wF, scA, scB, scF, List.mem_cons, List.not_mem_nil, or_false, not_or] at hp; simp only [st_ap, ud_ap, hp, Nat.reduceEqDiff, ite_false, if_false, ite_true, if_true, reduceIte])
        · (intro p hp; simp only [wA, wBB, wF, scA, scB, scF, List.mem_cons, List.not_mem_nil, or_false, not_or] at hp; simp only [st_ap, ud_ap, hp, Nat.reduceEqDiff, ite_false, if_false, ite_true, if_true, reduceIte])
        · simp only [st_ap, ud_ap, Nat.reduceEqDiff, Nat.reduceAdd, Nat.reduceMul, ite_true, ite_false, if_true, if_false, eq_self_iff_true, ↓reduceIte, and_self, and_true, true_and, and_false, false_and, not_true_eq_false, not_false_eq_true, if_pos, if_neg]
          refine ⟨⟨⟨?_, ?_, ?_, ?_, ?_, ?_, ?_⟩, fun i hi => ?_, fun i hi => ?_, fun i hi => ?_⟩, ?_⟩
          all_goals try simp (disch := omega) only [ud_ne, ud_eq]
          all_goals first | assumption | skip
          · by_cases hi' : i = x
            · subst hi'
              simp (disch := omega) only [ud_ne, ud_eq, true_and, and_true]
              exact ⟨(eP i hi).2.1, (eP i hi).2.2⟩
            · simp (disch := omega) only [ud_ne, ud_eq]
              exact eP i hi
          · exact eB i hi
          · exact eR i hi
          · refine ⟨P, S, U, hP, hS, hU, f4, f5, f6, fun i hi => ?_, nB, nR⟩
            by_cases hi' : i = x
            · subst hi'
              obtain ⟨u, v, w, q1, q2, q3, q4, q5, q6⟩ := nP i hi
              simp (disch := omega) only [ud_ne, ud_eq]
              exact ⟨y, v, w, hy, q2, q3, rfl, q5, q6⟩
            · simp (disch := omega) only [ud_ne, ud_eq]
              exact nP i hi
        · simp (disch := omega) only [st_ap, ud_ne, ud_eq, Nat.reduceEqDiff, Nat.reduceAdd, Nat.reduceMul, ite_true, ite_false, if_true, if_false, eq_self_iff_true, ↓reduceIte, and_self, and_true, true_and, and_false, false_and, not_true_eq_false, not_false_eq_true, if_pos, if_neg]; exact hBk
        · simp (disch := omega) only [st_ap, ud_ne, ud_eq, Nat.reduceEqDiff, Nat.reduceAdd, Nat.reduceMul, ite_true, ite_false, if_true, if_false, eq_self_iff_true, ↓reduceIte, and_self, and_true, true_and, and_false, false_and, not_true_eq_false, not_false_eq_true, if_pos, if_neg]; exact hPe
        · simp only [st_ap, ud_ap, Nat.reduceEqDiff, Nat.reduceAdd, Nat.reduceMul, ite_true, ite_false, if_true, if_false, eq_self_iff_true, ↓reduceIte, and_self, and_true, true_and, and_false, false_and, not_true_eq_false, not_false_eq_true, if_pos, if_neg]; exact rKept_0 hN
      · simp (disch := omega) only [f_C_set, f_C_set_121, f_C_setPerson, f_M_set, f_M_canSet, f_M_canSet_89, n_hasP, n_isP, n_within, n_isIn, n_it0, jp_c, decide_eq_true_eq, n_lit, n_neg1, n_add, n_mul, n_sub, n_div, n_mod, n_le, n_lt, n_eq, n_cl, n_in, st_ap, ud_ap, Nat.reduceEqDiff, Nat.reduceAdd, Nat.reduceMul, ite_true, ite_false, if_true, if_false, eq_self_iff_true, ↓reduceIte, and_self, and_true, true_and, and_false, false_and, not_true_eq_false, not_false_eq_true, if_pos, if_neg, f4, g6, h1, h2, jg_t, Option.bind_some, true_or]
        exact pOK_mk rfl (Rel_told hR')
    · simp (disch := omega) only [f_C_set, f_C_set_121, f_C_setPerson, f_M_set, f_M_canSet, f_M_canSet_89, n_hasP, n_isP, n_within, n_isIn, n_it0, jp_c, decide_eq_true_eq, n_lit, n_neg1, n_add, n_mul, n_sub, n_div, n_mod, n_le, n_lt, n_eq, n_cl, n_in, st_ap, ud_ap, Nat.reduceEqDiff, Nat.reduceAdd, Nat.reduceMul, ite_true, ite_false, if_true, if_false, eq_self_iff_true, ↓reduceIte, and_self, and_true, true_and, and_false, false_and, not_true_eq_false, not_false_eq_true, if_pos, if_neg, f4, g6, h1, jg_t, Option.bind_some, true_or]
      exact pOK_mk rfl (Rel_told hR')
  by_cases h11 : a = nI 1
  · subst h11
    by_cases h1 : nI 0 ≤ b ∧ b < nI P
    · by_cases h2 : nI 0 ≤ c ∧ c ≤ nI 9999
      · obtain ⟨x, hx, rfl⟩ := n_rngl (by omega) h1
        obtain ⟨y, -, hy, rfl⟩ := n_rng (by omega) h2.1 (by omega) h2.2
        simp (disch := omega) only [f_C_set, f_C_set_121, f_C_setPerson, f_M_set, f_M_canSet, f_M_canSet_89, f_M_set_28, f_M_set_43, f_M_set_55, f_M_set_70, f_M_set_82, f_C_forgetKept, n_hasP, n_isP, n_within, n_isIn, n_it0, jp_c, decide_eq_true_eq, n_lit, n_neg1, n_add, n_mul, n_sub, n_div, n_mod, n_le, n_lt, n_eq, n_cl, n_in, st_ap, ud_ap, Nat.reduceEqDiff, Nat.reduceAdd, Nat.reduceMul, ite_true, ite_false, if_true, if_false, eq_self_iff_true, ↓reduceIte, and_self, and_true, true_and, and_false, false_and, not_true_eq_false, not_false_eq_true, if_pos, if_neg, f4, g6, jg_t, hx, hy, Nat.zero_le, Option.bind_some, or_true, true_or]
        refine pOK_mk rfl ?_
        refine Rel_w hR' ?_ ?_ ?_ ?_ ?_ ?_ ?_ ?_
        · (intro p hp; simp only [wA, wBB, wF, scA, scB, scF, List.mem_cons, List.not_mem_nil, or_false, not_or] at hp; simp only [st_ap, ud_ap, hp, Nat.reduceEqDiff, ite_false, if_false, ite_true, if_true, reduceIte])
        · (intro p hp; simp only [wA, wBB, wF, scA, scB, scF, List.mem_cons, List.not_mem_nil, or_false, not_or] at hp; simp only [st_ap, ud_ap, hp, Nat.reduceEqDiff, ite_false, if_false, ite_true, if_true, reduceIte])
        · (intro p hp; simp only [wA, wBB, wF, scA, scB, scF, List.mem_cons, List.not_mem_nil, or_false, not_or] at hp; simp only [st_ap, ud_ap, hp, Nat.reduceEqDiff, ite_false, if_false, ite_true, if_true, reduceIte])
        · (intro p hp; simp only [wA, wBB, wF, scA, scB, scF, List.mem_cons, List.not_mem_nil, or_false, not_or] at hp; simp only [st_ap, ud_ap, hp, Nat.reduceEqDiff, ite_false, if_false, ite_true, if_true, reduceIte])
        · simp only [st_ap, ud_ap, Nat.reduceEqDiff, Nat.reduceAdd, Nat.reduceMul, ite_true, ite_false, if_true, if_false, eq_self_iff_true, ↓reduceIte, and_self, and_true, true_and, and_false, false_and, not_true_eq_false, not_false_eq_true, if_pos, if_neg]
          refine ⟨⟨⟨?_, ?_, ?_, ?_, ?_, ?_, ?_⟩, fun i hi => ?_, fun i hi => ?_, fun i hi => ?_⟩, ?_⟩
          all_goals try simp (disch := omega) only [ud_ne, ud_eq]
          all_goals first | assumption | skip
          · by_cases hi' : i = x
            · subst hi'
              simp (disch := omega) only [ud_ne, ud_eq, true_and, and_true]
              exact ⟨(eP i hi).1, (eP i hi).2.2⟩
            · simp (disch := omega) only [ud_ne, ud_eq]
              exact eP i hi
          · exact eB i hi
          · exact eR i hi
          · refine ⟨P, S, U, hP, hS, hU, f4, f5, f6, fun i hi => ?_, nB, nR⟩
            by_cases hi' : i = x
            · subst hi'
              obtain ⟨u, v, w, q1, q2, q3, q4, q5, q6⟩ := nP i hi
              simp (disch := omega) only [ud_ne, ud_eq]
              exact ⟨u, v, w, q1, q2, q3, q4, q5, q6⟩
            · simp (disch := omega) only [ud_ne, ud_eq]
              exact nP i hi
        · simp (disch := omega) only [st_ap, ud_ne, ud_eq, Nat.reduceEqDiff, Nat.reduceAdd, Nat.reduceMul, ite_true, ite_false, if_true, if_false, eq_self_iff_true, ↓reduceIte, and_self, and_true, true_and, and_false, false_and, not_true_eq_false, not_false_eq_true, if_pos, if_neg]; exact hBk
        · simp (disch := omega) only [st_ap, ud_ne, ud_eq, Nat.reduceEqDiff, Nat.reduceAdd, Nat.reduceMul, ite_true, ite_false, if_true, if_false, eq_self_iff_true, ↓reduceIte, and_self, and_true, true_and, and_false, false_and, not_true_eq_false, not_false_eq_true, if_pos, if_neg]; exact hPe
        · simp only [st_ap, ud_ap, Nat.reduceEqDiff, Nat.reduceAdd, Nat.reduceMul, ite_true, ite_false, if_true, if_false, eq_self_iff_true, ↓reduceIte, and_self, and_true, true_and, and_false, false_and, not_true_eq_false, not_false_eq_true, if_pos, if_neg]; exact rKept_0 hN
      · simp (disch := omega) only [f_C_set, f_C_set_121, f_C_setPerson, f_M_set, f_M_canSet, f_M_canSet_89, n_hasP, n_isP, n_within, n_isIn, n_it0, jp_c, decide_eq_true_eq, n_lit, n_neg1, n_add, n_mul, n_sub, n_div, n_mod, n_le, n_lt, n_eq, n_cl, n_in, st_ap, ud_ap, Nat.reduceEqDiff, Nat.reduceAdd, Nat.reduceMul, ite_true, ite_false, if_true, if_false, eq_self_iff_true, ↓reduceIte, and_self, and_true, true_and, and_false, false_and, not_true_eq_false, not_false_eq_true, if_pos, if_neg, f4, g6, h1, h2, jg_t, Option.bind_some, true_or]
        exact pOK_mk rfl (Rel_told hR')
    · simp (disch := omega) only [f_C_set, f_C_set_121, f_C_setPerson, f_M_set, f_M_canSet, f_M_canSet_89, n_hasP, n_isP, n_within, n_isIn, n_it0, jp_c, decide_eq_true_eq, n_lit, n_neg1, n_add, n_mul, n_sub, n_div, n_mod, n_le, n_lt, n_eq, n_cl, n_in, st_ap, ud_ap, Nat.reduceEqDiff, Nat.reduceAdd, Nat.reduceMul, ite_true, ite_false, if_true, if_false, eq_self_iff_true, ↓reduceIte, and_self, and_true, true_and, and_false, false_and, not_true_eq_false, not_false_eq_true, if_pos, if_neg, f4, g6, h1, jg_t, Option.bind_some, true_or]
      exact pOK_mk rfl (Rel_told hR')
  by_cases h12 : a = nI 2
  · subst h12
    by_cases h1 : nI 0 ≤ b ∧ b < nI P
    · by_cases h2 : nI 0 ≤ c ∧ c ≤ nI 9
      · obtain ⟨x, hx, rfl⟩ := n_rngl (by omega) h1
        obtain ⟨y, -, hy, rfl⟩ := n_rng (by omega) h2.1 (by omega) h2.2
        simp (disch := omega) only [f_C_set, f_C_set_121, f_C_setPerson, f_M_set, f_M_canSet, f_M_canSet_89, f_M_set_28, f_M_set_43, f_M_set_55, f_M_set_70, f_M_set_82, f_C_forgetKept, n_hasP, n_isP, n_within, n_isIn, n_it0, jp_c, decide_eq_true_eq, n_lit, n_neg1, n_add, n_mul, n_sub, n_div, n_mod, n_le, n_lt, n_eq, n_cl, n_in, st_ap, ud_ap, Nat.reduceEqDiff, Nat.reduceAdd, Nat.reduceMul, ite_true, ite_false, if_true, if_false, eq_self_iff_true, ↓reduceIte, and_self, and_true, true_and, and_false, false_and, not_true_eq_false, not_false_eq_true, if_pos, if_neg, f4, g6, jg_t, hx, hy, Nat.zero_le, Option.bind_some, or_true, true_or]
        refine pOK_mk rfl ?_
        refine Rel_w hR' ?_ ?_ ?_ ?_ ?_ ?_ ?_ ?_
        · (intro p hp; simp only [wA, wBB, wF, scA, scB, scF, List.mem_cons, List.not_mem_nil, or_false, not_or] at hp; simp only [st_ap, ud_ap, hp, Nat.reduceEqDiff, ite_false, if_false, ite_true, if_true, reduceIte])
        · (intro p hp; simp only [wA, wBB, wF, scA, scB, scF, List.mem_cons, List.not_mem_nil, or_false, not_or] at hp; simp only [st_ap, ud_ap, hp, Nat.reduceEqDiff, ite_false, if_false, ite_true, if_true, reduceIte])
        · (intro p hp; simp only [wA, wBB, wF, scA, scB, scF, List.mem_cons, List.not_mem_nil, or_false, not_or] at hp; simp only [st_ap, ud_ap, hp, Nat.reduceEqDiff, ite_false, if_false, ite_true, if_true, reduceIte])
        · (intro p hp; simp only [wA, wBB, wF, scA, scB, scF, List.mem_cons, List.not_mem_nil, or_false, not_or] at hp; simp only [st_ap, ud_ap, hp, Nat.reduceEqDiff, ite_false, if_false, ite_true, if_true, reduceIte])
        · simp only [st_ap, ud_ap, Nat.reduceEqDiff, Nat.reduceAdd, Nat.reduceMul, ite_true, ite_false, if_true, if_false, eq_self_iff_true, ↓reduceIte, and_self, and_true, true_and, and_false, false_and, not_true_eq_false, not_false_eq_true, if_pos, if_neg]
          refine ⟨⟨⟨?_, ?_, ?_, ?_, ?_, ?_, ?_⟩, fun i hi => ?_, fun i hi => ?_, fun i hi => ?_⟩, ?_⟩
          all_goals try simp (disch := omega) only [ud_ne, ud_eq]
          all_goals first | assumption | skip
          · by_cases hi' : i = x
            · subst hi'
              simp (disch := omega) only [ud_ne, ud_eq, true_and, and_true]
              exact ⟨(eP i hi).1, (eP i hi).2.1, (eP i hi).2.2.2⟩
            · simp (disch := omega) only [ud_ne, ud_eq]
              exact eP i hi
          · exact eB i hi
          · exact eR i hi
          · refine ⟨P, S, U, hP, hS, hU, f4, f5, f6, fun i hi => ?_, nB, nR⟩
            by_cases hi' : i = x
            · subst hi'
              obtain ⟨u, v, w, q1, q2, q3, q4, q5, q6⟩ := nP i hi
              simp (disch := omega) only [ud_ne, ud_eq]
              exact ⟨u, y, w, q1, hy, q3, q4, rfl, q6⟩
            · simp (disch := omega) only [ud_ne, ud_eq]
              exact nP i hi
        · simp (disch := omega) only [st_ap, ud_ne, ud_eq, Nat.reduceEqDiff, Nat.reduceAdd, Nat.reduceMul, ite_true, ite_false, if_true, if_false, eq_self_iff_true, ↓reduceIte, and_self, and_true, true_and, and_false, false_and, not_true_eq_false, not_false_eq_true, if_pos, if_neg]; exact hBk
        · simp (disch := omega) only [st_ap, ud_ne, ud_eq, Nat.reduceEqDiff, Nat.reduceAdd, Nat.reduceMul, ite_true, ite_false, if_true, if_false, eq_self_iff_true, ↓reduceIte, and_self, and_true, true_and, and_false, false_and, not_true_eq_false, not_false_eq_true, if_pos, if_neg]; exact hPe
        · simp only [st_ap, ud_ap, Nat.reduceEqDiff, Nat.reduceAdd, Nat.reduceMul, ite_true, ite_false, if_true, if_false, eq_self_iff_true, ↓reduceIte, and_self, and_true, true_and, and_false, false_and, not_true_eq_false, not_false_eq_true, if_pos, if_neg]; exact rKept_0 hN
      · simp (disch := omega) only [f_C_set, f_C_set_121, f_C_setPerson, f_M_set, f_M_canSet, f_M_canSet_89, n_hasP, n_isP, n_within, n_isIn, n_it0, jp_c, decide_eq_true_eq, n_lit, n_neg1, n_add, n_mul, n_sub, n_div, n_mod, n_le, n_lt, n_eq, n_cl, n_in, st_ap, ud_ap, Nat.reduceEqDiff, Nat.reduceAdd, Nat.reduceMul, ite_true, ite_false, if_true, if_false, eq_self_iff_true, ↓reduceIte, and_self, and_true, true_and, and_false, false_and, not_true_eq_false, not_false_eq_true, if_pos, if_neg, f4, g6, h1, h2, jg_t, Option.bind_some, true_or]
        exact pOK_mk rfl (Rel_told hR')
    · simp (disch := omega) only [f_C_set, f_C_set_121, f_C_setPerson, f_M_set, f_M_canSet, f_M_canSet_89, n_hasP, n_isP, n_within, n_isIn, n_it0, jp_c, decide_eq_true_eq, n_lit, n_neg1, n_add, n_mul, n_sub, n_div, n_mod, n_le, n_lt, n_eq, n_cl, n_in, st_ap, ud_ap, Nat.reduceEqDiff, Nat.reduceAdd, Nat.reduceMul, ite_true, ite_false, if_true, if_false, eq_self_iff_true, ↓reduceIte, and_self, and_true, true_and, and_false, false_and, not_true_eq_false, not_false_eq_true, if_pos, if_neg, f4, g6, h1, jg_t, Option.bind_some, true_or]
      exact pOK_mk rfl (Rel_told hR')
  by_cases h13 : a = nI 3
  · subst h13
    by_cases h1 : nI 0 ≤ b ∧ b < nI P
    · by_cases h2 : nI 0 ≤ c ∧ c ≤ nI 7
      · obtain ⟨x, hx, rfl⟩ := n_rngl (by omega) h1
        obtain ⟨y, -, hy, rfl⟩ := n_rng (by omega) h2.1 (by omega) h2.2
        simp (disch := omega) only [f_C_set, f_C_set_121, f_C_setPerson, f_M_set, f_M_canSet, f_M_canSet_89, f_M_set_28, f_M_set_43, f_M_set_55, f_M_set_70, f_M_set_82, f_C_forgetKept, n_hasP, n_isP, n_within, n_isIn, n_it0, jp_c, decide_eq_true_eq, n_lit, n_neg1, n_add, n_mul, n_sub, n_div, n_mod, n_le, n_lt, n_eq, n_cl, n_in, st_ap, ud_ap, Nat.reduceEqDiff, Nat.reduceAdd, Nat.reduceMul, ite_true, ite_false, if_true, if_false, eq_self_iff_true, ↓reduceIte, and_self, and_true, true_and, and_false, false_and, not_true_eq_false, not_false_eq_true, if_pos, if_neg, f4, g6, jg_t, hx, hy, Nat.zero_le, Option.bind_some, or_true, true_or]
        refine pOK_mk rfl ?_
        refine Rel_w hR' ?_ ?_ ?_ ?_ ?_ ?_ ?_ ?_
        · (intro p hp; simp only [wA, wBB, wF, scA, scB, scF, List.mem_cons, List.not_mem_nil, or_false, not_or] at hp; simp only [st_ap, ud_ap, hp, Nat.reduceEqDiff, ite_false, if_false, ite_true, if_true, reduceIte])
        · (intro p hp; simp only [wA, wBB, wF, scA, scB, scF, List.mem_cons, List.not_mem_nil, or_false, not_or] at hp; simp only [st_ap, ud_ap, hp, Nat.reduceEqDiff, ite_false, if_false, ite_true, if_true, reduceIte])
        · (intro p hp; simp only [wA, wBB, wF, scA, scB, scF, List.mem_cons, List.not_mem_nil, or_false, not_or] at hp; simp only [st_ap, ud_ap, hp, Nat.reduceEqDiff, ite_false, if_false, ite_true, if_true, reduceIte])
        · (intro p hp; simp only [wA, wBB, wF, scA, scB, scF, List.mem_cons, List.not_mem_nil, or_false, not_or] at hp; simp only [st_ap, ud_ap, hp, Nat.reduceEqDiff, ite_false, if_false, ite_true, if_true, reduceIte])
        · simp only [st_ap, ud_ap, Nat.reduceEqDiff, Nat.reduceAdd, Nat.reduceMul, ite_true, ite_false, if_true, if_false, eq_self_iff_true, ↓reduceIte, and_self, and_true, true_and, and_false, false_and, not_true_eq_false, not_false_eq_true, if_pos, if_neg]
          refine ⟨⟨⟨?_, ?_, ?_, ?_, ?_, ?_, ?_⟩, fun i hi => ?_, fun i hi => ?_, fun i hi => ?_⟩, ?_⟩
          all_goals try simp (disch := omega) only [ud_ne, ud_eq]
          all_goals first | assumption | skip
          · by_cases hi' : i = x
            · subst hi'
              simp (disch := omega) only [ud_ne, ud_eq, true_and, and_true]
              exact ⟨(eP i hi).1, (eP i hi).2.1, (eP i hi).2.2.1, (eP i hi).2.2.2.2⟩
            · simp (disch := omega) only [ud_ne, ud_eq]
              exact eP i hi
          · exact eB i hi
          · exact eR i hi
          · refine ⟨P, S, U, hP, hS, hU, f4, f5, f6, fun i hi => ?_, nB, nR⟩
            by_cases hi' : i = x
            · subst hi'
              obtain ⟨u, v, w, q1, q2, q3, q4, q5, q6⟩ := nP i hi
              simp (disch := omega) only [ud_ne, ud_eq]
              exact ⟨u, v, y, q1, q2, hy, q4, q5, rfl⟩
            · simp (disch := omega) only [ud_ne, ud_eq]
              exact nP i hi
        · simp (disch := omega) only [st_ap, ud_ne, ud_eq, Nat.reduceEqDiff, Nat.reduceAdd, Nat.reduceMul, ite_true, ite_false, if_true, if_false, eq_self_iff_true, ↓reduceIte, and_self, and_true, true_and, and_false, false_and, not_true_eq_false, not_false_eq_true, if_pos, if_neg]; exact hBk
        · simp (disch := omega) only [st_ap, ud_ne, ud_eq, Nat.reduceEqDiff, Nat.reduceAdd, Nat.reduceMul, ite_true, ite_false, if_true, if_false, eq_self_iff_true, ↓reduceIte, and_self, and_true, true_and, and_false, false_and, not_true_eq_false, not_false_eq_true, if_pos, if_neg]; exact hPe
        · simp only [st_ap, ud_ap, Nat.reduceEqDiff, Nat.reduceAdd, Nat.reduceMul, ite_true, ite_false, if_true, if_false, eq_self_iff_true, ↓reduceIte, and_self, and_true, true_and, and_false, false_and, not_true_eq_false, not_false_eq_true, if_pos, if_neg]; exact rKept_0 hN
      · simp (disch := omega) only [f_C_set, f_C_set_121, f_C_setPerson, f_M_set, f_M_canSet, f_M_canSet_89, n_hasP, n_isP, n_within, n_isIn, n_it0, jp_c, decide_eq_true_eq, n_lit, n_neg1, n_add, n_mul, n_sub, n_div, n_mod, n_le, n_lt, n_eq, n_cl, n_in, st_ap, ud_ap, Nat.reduceEqDiff, Nat.reduceAdd, Nat.reduceMul, ite_true, ite_false, if_true, if_false, eq_self_iff_true, ↓reduceIte, and_self, and_true, true_and, and_false, false_and, not_true_eq_false, not_false_eq_true, if_pos, if_neg, f4, g6, h1, h2, jg_t, Option.bind_some, true_or]
        exact pOK_mk rfl (Rel_told hR')
    · simp (disch := omega) only [f_C_set, f_C_set_121, f_C_setPerson, f_M_set, f_M_canSet, f_M_canSet_89, n_hasP, n_isP, n_within, n_isIn, n_it0, jp_c, decide_eq_true_eq, n_lit, n_neg1, n_add, n_mul, n_sub, n_div, n_mod, n_le, n_lt, n_eq, n_cl, n_in, st_ap, ud_ap, Nat.reduceEqDiff, Nat.reduceAdd, Nat.reduceMul, ite_true, ite_false, if_true, if_false, eq_self_iff_true, ↓reduceIte, and_self, and_true, true_and, and_false, false_and, not_true_eq_false, not_false_eq_true, if_pos, if_neg, f4, g6, h1, jg_t, Option.bind_some, true_or]
      exact pOK_mk rfl (Rel_told hR')
  by_cases h14 : a = nI 4
  · subst h14
    by_cases h1 : nI 0 ≤ b ∧ b < nI S
    · by_cases h2 : nI 1 ≤ c ∧ c ≤ nI 9
      · obtain ⟨x, hx, rfl⟩ := n_rngl (by omega) h1
        obtain ⟨y, hy0, hy, rfl⟩ := n_rng (by omega) h2.1 (by omega) h2.2
        simp (disch := omega) only [f_C_set, f_C_set_121, f_C_setEyes, f_M_set, f_M_canSet, f_M_canSet_89, f_M_set_28, f_M_set_43, f_M_set_55, f_M_set_70, f_M_set_82, f_C_forgetKept, n_hasS, n_isB, n_within, n_isIn, n_it0, jp_c, decide_eq_true_eq, n_lit, n_neg1, n_add, n_mul, n_sub, n_div, n_mod, n_le, n_lt, n_eq, n_cl, n_in, st_ap, ud_ap, Nat.reduceEqDiff, Nat.reduceAdd, Nat.reduceMul, ite_true, ite_false, if_true, if_false, eq_self_iff_true, ↓reduceIte, and_self, and_true, true_and, and_false, false_and, not_true_eq_false, not_false_eq_true, if_pos, if_neg, f5, g7, jg_t, hx, hy, hy0, Nat.zero_le, Option.bind_some, or_true, true_or]
        refine pOK_mk rfl ?_
        refine Rel_w hR' ?_ ?_ ?_ ?_ ?_ ?_ ?_ ?_
        · (intro p hp; simp only [wA, wBB, wF, scA, scB, scF, List.mem_cons, List.not_mem_nil, or_false, not_or] at hp; simp only [st_ap, ud_ap, hp, Nat.reduceEqDiff, ite_false, if_false, ite_true, if_true, reduceIte])
        · (intro p hp; simp only [wA, wBB, wF, scA, scB, scF, List.mem_cons, List.not_mem_nil, or_false, not_or] at hp; simp only [st_ap, ud_ap, hp, Nat.reduceEqDiff, ite_false, if_false, ite_true, if_true, reduceIte])
        · (intro p hp; simp only [wA, wBB, wF, scA, scB, scF, List.mem_cons, List.not_mem_nil, or_false, not_or] at hp; simp only [st_ap, ud_ap, hp, Nat.reduceEqDiff, ite_false, if_false, ite_true, if_true, reduceIte])
        · (intro p hp; simp only [wA, wBB, wF, scA, scB, scF, List.mem_cons, List.not_mem_nil, or_false, not_or] at hp; simp only [st_ap, ud_ap, hp, Nat.reduceEqDiff, ite_false, if_false, ite_true, if_true, reduceIte])
        · simp only [st_ap, ud_ap, Nat.reduceEqDiff, Nat.reduceAdd, Nat.reduceMul, ite_true, ite_false, if_true, if_false, eq_self_iff_true, ↓reduceIte, and_self, and_true, true_and, and_false, false_and, not_true_eq_false, not_false_eq_true, if_pos, if_neg]
          refine ⟨⟨⟨?_, ?_, ?_, ?_, ?_, ?_, ?_⟩, fun i hi => ?_, fun i hi => ?_, fun i hi => ?_⟩, ?_⟩
          all_goals try simp (disch := omega) only [ud_ne, ud_eq]
          all_goals first | assumption | skip
          · exact eP i hi
          · by_cases hi' : i = x
            · subst hi'
              simp (disch := omega) only [ud_ne, ud_eq, true_and, and_true]
              exact ⟨(eB i hi).1, (eB i hi).2.2⟩
            · simp (disch := omega) only [ud_ne, ud_eq]
              exact eB i hi
          · exact eR i hi
          · refine ⟨P, S, U, hP, hS, hU, f4, f5, f6, nP, fun i hi => ?_, nR⟩
            by_cases hi' : i = x
            · subst hi'
              obtain ⟨u, v, q1, q2, q4, q5⟩ := nB i hi
              simp (disch := omega) only [ud_ne, ud_eq]
              exact ⟨u, y, q1, hy, q4, rfl⟩
            · simp (disch := omega) only [ud_ne, ud_eq]
              exact nB i hi
        · simp (disch := omega) only [st_ap, ud_ne, ud_eq, Nat.reduceEqDiff, Nat.reduceAdd, Nat.reduceMul, ite_true, ite_false, if_true, if_false, eq_self_iff_true, ↓reduceIte, and_self, and_true, true_and, and_false, false_and, not_true_eq_false, not_false_eq_true, if_pos, if_neg]; exact hBk
        · simp (disch := omega) only [st_ap, ud_ne, ud_eq, Nat.reduceEqDiff, Nat.reduceAdd, Nat.reduceMul, ite_true, ite_false, if_true, if_false, eq_self_iff_true, ↓reduceIte, and_self, and_true, true_and, and_false, false_and, not_true_eq_false, not_false_eq_true, if_pos, if_neg]; exact hPe
        · simp only [st_ap, ud_ap, Nat.reduceEqDiff, Nat.reduceAdd, Nat.reduceMul, ite_true, ite_false, if_true, if_false, eq_self_iff_true, ↓reduceIte, and_self, and_true, true_and, and_false, false_and, not_true_eq_false, not_false_eq_true, if_pos, if_neg]; exact rKept_0 hN
      · refine pOK_cg (p := some (nI 0, A)) (p' := some (nI 0, jp_set B 104 (upd (B 104) 0 (nI 0)))) ?_ ?_ (pOK_mk rfl (Rel_told hR'))
        · have e : f_C_setEyes b c A = some (nI 0, A) := by
            clear hN
            by_cases r1 : c < nI 1
            · simp (disch := omega) only [f_C_setEyes, n_hasS, n_it0, jp_c, decide_eq_true_eq, n_lit, n_neg1, n_add, n_mul, n_sub, n_div, n_mod, n_le, n_lt, n_eq, n_cl, n_in, Nat.reduceEqDiff, Nat.reduceAdd, Nat.reduceMul, ite_true, ite_false, if_true, if_false, eq_self_iff_true, ↓reduceIte, and_self, and_true, true_and, and_false, false_and, not_true_eq_false, not_false_eq_true, if_pos, if_neg, f5, h1, r1]
            · by_cases r2 : c ≤ nI 9
              · exfalso; apply h2; simp only [decide_eq_true_eq, Int32.le_iff_toInt_le, Int32.lt_iff_toInt_lt] at *; simp (disch := omega) only [n_ti] at *; omega
              · simp (disch := omega) only [f_C_setEyes, n_hasS, n_it0, jp_c, decide_eq_true_eq, n_lit, n_neg1, n_add, n_mul, n_sub, n_div, n_mod, n_le, n_lt, n_eq, n_cl, n_in, Nat.reduceEqDiff, Nat.reduceAdd, Nat.reduceMul, ite_true, ite_false, if_true, if_false, eq_self_iff_true, ↓reduceIte, and_self, and_true, true_and, and_false, false_and, not_true_eq_false, not_false_eq_true, if_pos, if_neg, f5, h1, r1, r2]
          simp (disch := omega) only [f_C_set, f_C_set_121, e, jp_c, decide_eq_true_eq, n_lit, n_neg1, n_add, n_mul, n_sub, n_div, n_mod, n_le, n_lt, n_eq, n_cl, n_in, Nat.reduceEqDiff, Nat.reduceAdd, Nat.reduceMul, ite_true, ite_false, if_true, if_false, eq_self_iff_true, ↓reduceIte, and_self, and_true, true_and, and_false, false_and, not_true_eq_false, not_false_eq_true, if_pos, if_neg, jg_T, Option.bind_some, true_or]
        · simp (disch := omega) only [f_M_set, f_M_canSet, f_M_canSet_89, n_hasS, n_isB, n_within, n_isIn, n_it0, jp_c, decide_eq_true_eq, n_lit, n_neg1, n_add, n_mul, n_sub, n_div, n_mod, n_le, n_lt, n_eq, n_cl, n_in, st_ap, ud_ap, Nat.reduceEqDiff, Nat.reduceAdd, Nat.reduceMul, ite_true, ite_false, if_true, if_false, eq_self_iff_true, ↓reduceIte, and_self, and_true, true_and, and_false, false_and, not_true_eq_false, not_false_eq_true, if_pos, if_neg, f5, g7, h1, h2]
    · simp (disch := omega) only [f_C_set, f_C_set_121, f_C_setEyes, f_M_set, f_M_canSet, f_M_canSet_89, n_hasS, n_isB, n_within, n_isIn, n_it0, jp_c, decide_eq_true_eq, n_lit, n_neg1, n_add, n_mul, n_sub, n_div, n_mod, n_le, n_lt, n_eq, n_cl, n_in, st_ap, ud_ap, Nat.reduceEqDiff, Nat.reduceAdd, Nat.reduceMul, ite_true, ite_false, if_true, if_false, eq_self_iff_true, ↓reduceIte, and_self, and_true, true_and, and_false, false_and, not_true_eq_false, not_false_eq_true, if_pos, if_neg, f5, g7, h1, jg_t, Option.bind_some, true_or]
      exact pOK_mk rfl (Rel_told hR')
  by_cases h15 : a = nI 5
  · subst h15
    by_cases h2 : nI 0 ≤ c ∧ c ≤ nI 9999
    · simp (disch := omega) only [f_C_set, f_C_set_121, f_C_setDay, f_M_set, f_M_canSet, f_M_canSet_89, f_M_set_28, f_M_set_43, f_M_set_55, f_M_set_70, f_M_set_82, f_C_forgetKept, n_within, n_isIn, n_it0, jp_c, decide_eq_true_eq, n_lit, n_neg1, n_add, n_mul, n_sub, n_div, n_mod, n_le, n_lt, n_eq, n_cl, n_in, st_ap, ud_ap, Nat.reduceEqDiff, Nat.reduceAdd, Nat.reduceMul, ite_true, ite_false, if_true, if_false, eq_self_iff_true, ↓reduceIte, and_self, and_true, true_and, and_false, false_and, not_true_eq_false, not_false_eq_true, if_pos, if_neg, h2, jg_t, or_true, true_or]
      refine pOK_mk rfl ?_
      refine Rel_w hR' ?_ ?_ ?_ ?_ ?_ ?_ ?_ ?_
      · (intro p hp; simp only [wA, wBB, wF, scA, scB, scF, List.mem_cons, List.not_mem_nil, or_false, not_or] at hp; simp only [st_ap, ud_ap, hp, Nat.reduceEqDiff, ite_false, if_false, ite_true, if_true, reduceIte])
      · (intro p hp; simp only [wA, wBB, wF, scA, scB, scF, List.mem_cons, List.not_mem_nil, or_false, not_or] at hp; simp only [st_ap, ud_ap, hp, Nat.reduceEqDiff, ite_false, if_false, ite_true, if_true, reduceIte])
      · (intro p hp; simp only [wA, wBB, wF, scA, scB, scF, List.mem_cons, List.not_mem_nil, or_false, not_or] at hp; simp only [st_ap, ud_ap, hp, Nat.reduceEqDiff, ite_false, if_false, ite_true, if_true, reduceIte])
      · (intro p hp; simp only [wA, wBB, wF, scA, scB, scF, List.mem_cons, List.not_mem_nil, or_false, not_or] at hp; simp only [st_ap, ud_ap, hp, Nat.reduceEqDiff, ite_false, if_false, ite_true, if_true, reduceIte])
      · simp only [st_ap, ud_ap, Nat.reduceEqDiff, Nat.reduceAdd, Nat.reduceMul, ite_true, ite_false, if_true, if_false, eq_self_iff_true, ↓reduceIte, and_self, and_true, true_and, and_false, false_and, not_true_eq_false, not_false_eq_true, if_pos, if_neg]
        refine ⟨⟨⟨?_, ?_, ?_, ?_, ?_, ?_, ?_⟩, fun i hi => ?_, fun i hi => ?_, fun i hi => ?_⟩, ?_⟩
        all_goals try simp (disch := omega) only [ud_ne, ud_eq]
        all_goals first | assumption | skip
        · exact eP i hi
        · exact eB i hi
        · exact eR i hi
        · exact ⟨P, S, U, hP, hS, hU, f4, f5, f6, nP, nB, nR⟩
      · simp (disch := omega) only [st_ap, ud_ne, ud_eq, Nat.reduceEqDiff, Nat.reduceAdd, Nat.reduceMul, ite_true, ite_false, if_true, if_false, eq_self_iff_true, ↓reduceIte, and_self, and_true, true_and, and_false, false_and, not_true_eq_false, not_false_eq_true, if_pos, if_neg]; exact hBk
      · simp (disch := omega) only [st_ap, ud_ne, ud_eq, Nat.reduceEqDiff, Nat.reduceAdd, Nat.reduceMul, ite_true, ite_false, if_true, if_false, eq_self_iff_true, ↓reduceIte, and_self, and_true, true_and, and_false, false_and, not_true_eq_false, not_false_eq_true, if_pos, if_neg]; exact hPe
      · simp only [st_ap, ud_ap, Nat.reduceEqDiff, Nat.reduceAdd, Nat.reduceMul, ite_true, ite_false, if_true, if_false, eq_self_iff_true, ↓reduceIte, and_self, and_true, true_and, and_false, false_and, not_true_eq_false, not_false_eq_true, if_pos, if_neg]; exact rKept_0 hN
    · simp (disch := omega) only [f_C_set, f_C_set_121, f_C_setDay, f_M_set, f_M_canSet, f_M_canSet_89, n_within, n_isIn, n_it0, jp_c, decide_eq_true_eq, n_lit, n_neg1, n_add, n_mul, n_sub, n_div, n_mod, n_le, n_lt, n_eq, n_cl, n_in, st_ap, ud_ap, Nat.reduceEqDiff, Nat.reduceAdd, Nat.reduceMul, ite_true, ite_false, if_true, if_false, eq_self_iff_true, ↓reduceIte, and_self, and_true, true_and, and_false, false_and, not_true_eq_false, not_false_eq_true, if_pos, if_neg, h2, jg_t, true_or]
      exact pOK_mk rfl (Rel_told hR')
  · have h3 : ¬ (nI 0 ≤ a ∧ a ≤ nI 3) := by
      intro h
      obtain ⟨x, -, hx, rfl⟩ := n_rng (by omega) h.1 (by omega) h.2
      rw [n_eq (by omega) (by omega)] at h10 h11 h12 h13
      omega
    simp (disch := omega) only [f_C_set, f_C_set_121, f_M_set, f_M_canSet, n_within, n_isIn, n_it0, jp_c, decide_eq_true_eq, n_lit, n_neg1, n_add, n_mul, n_sub, n_div, n_mod, n_le, n_lt, n_eq, n_cl, n_in, st_ap, ud_ap, Nat.reduceEqDiff, Nat.reduceAdd, Nat.reduceMul, ite_true, ite_false, if_true, if_false, eq_self_iff_true, ↓reduceIte, and_self, and_true, true_and, and_false, false_and, not_true_eq_false, not_false_eq_true, if_pos, if_neg, h3, h10, h11, h12, h13, h14, h15, jg_t, true_or]
    exact pOK_mk rfl (Rel_told hR')
