theorem p_swallow (a b : Int32) {A B : jp_M} (hR : Rel A B) : pOK (f_C_swallow a b A) (f_M_swallow a b B) := by
  have hR' := hR
  obtain ⟨⟨hW, hBk, hLw, hPe, hLe, hCi, hWi, hKi, hPo, hWy, hVo⟩, hPic, hKe, hTa, hFa, hTh, hWd⟩ := hR
  have hN := rKept_nw hKe
  obtain ⟨⟨⟨e0, e1, e2, e3, e4, e5, e6⟩, eP, eB, eR⟩, nW⟩ := hW
  obtain ⟨P, S, U, hP, hS, hU, f4, f5, f6, nP, nB, nR⟩ := nW
  have g7 : B 104 7 = nI S := by rw [← e5, f5]
  by_cases hk : (nI 0 ≤ a ∧ a ≤ nI 9) ∧ (nI 1 ≤ b ∧ b ≤ nI 9) ∧ ¬ S = 10
  · obtain ⟨h1, h2, h4⟩ := hk
    obtain ⟨x, -, hx, rfl⟩ := n_rng (by omega) h1.1 (by omega) h1.2
    obtain ⟨y, hy0, hy, rfl⟩ := n_rng (by omega) h2.1 (by omega) h2.2
    simp (disch := omega) only [f_C_swallow, f_M_swallow, f_C_forgetKept, n_within, n_isIn, n_it0, jp_c, decide_eq_true_eq, n_lit, n_neg1, n_add, n_mul, n_sub, n_div, n_mod, n_le, n_lt, n_eq, n_cl, n_in, st_ap, ud_ap, Nat.reduceEqDiff, Nat.reduceAdd, Nat.reduceMul, ite_true, ite_false, if_true, if_false, eq_self_iff_true, ↓reduceIte, and_self, and_true, true_and, and_false, false_and, not_true_eq_false, not_false_eq_true, if_pos, if_neg, f5, g7, jg_t]
    refine pOK_mk rfl ?_
    refine Rel_w hR' ?_ ?_ ?_ ?_ ?_ ?_ ?_ ?_
    · (intro p hp; simp only [wA, wBB, wF, scA, scB, scF, List.mem_cons, List.not_mem_nil, or_false, not_or] at hp; simp only [st_ap, ud_ap, hp, Nat.reduceEqDiff, ite_false, if_false, ite_true, if_true, reduceIte])
    · (intro p hp; simp only [wA, wBB, wF, scA, scB, scF, List.mem_cons, List.not_mem_nil, or_false, not_or] at hp; simp only [st_ap, ud_ap, hp, Nat.reduceEqDiff, ite_false, if_false, ite_true, if_true, reduceIte])
    · (intro p hp; simp only [wA, wBB, wF, scA, scB, scF, List.mem_cons, List.not_mem_nil, or_false, not_or] at hp; simp only [st_ap, ud_ap, hp, Nat.reduceEqDiff, ite_false, if_false, ite_true, if_true, reduceIte])
    · (intro p hp; simp only [wA, wBB, wF, scA, scB, scF, List.mem_cons, List.not_mem_nil, or_false, not_or] at hp; simp only [st_ap, ud_ap, hp, Nat.reduceEqDiff, ite_false, if_false, ite_true, if_true, reduceIte])
    · simp only [st_ap, ud_ap, Nat.reduceEqDiff, Nat.reduceAdd, Nat.reduceMul, ite_true, ite_false, if_true, if_false, eq_self_iff_true, ↓reduceIte, and_self, and_true, true_and, and_false, false_and, not_true_eq_false, not_false_eq_true, if_pos, if_neg]
      refine ⟨⟨⟨?_, ?_, ?_, ?_, ?_, ?_, ?_⟩, fun i hi => ?_, fun i hi => ?_, fun i hi => ?_⟩, ?_⟩
      all_goals try simp (disch := omega) only [ud_ne, ud_eq]
      all_goals first | assumption | skip
      · exact eP i hi
      · by_cases hi' : i = S
        · subst hi'
          simp (disch := omega) only [ud_ne, ud_eq, and_self]
        · simp (disch := omega) only [ud_ne, ud_eq]
          exact eB i hi
      · exact eR i hi
      · refine ⟨P, S + 1, U, hP, by omega, hU, ?_, ?_, ?_, nP, fun i hi => ?_, nR⟩
        · simp (disch := omega) only [ud_ne, ud_eq, f4]
        · simp (disch := omega) only [ud_ne, ud_eq, f5]
        · simp (disch := omega) only [ud_ne, ud_eq, f6]
        · by_cases hi' : i = S
          · subst hi'
            refine ⟨x, y, hx, hy, ?_, ?_⟩ <;> simp (disch := omega) only [ud_ne, ud_eq]
          · simp (disch := omega) only [ud_ne, ud_eq]
            exact nB i hi
    · simp (disch := omega) only [st_ap, ud_ne, ud_eq, Nat.reduceEqDiff, Nat.reduceAdd, Nat.reduceMul, ite_true, ite_false, if_true, if_false, eq_self_iff_true, ↓reduceIte, and_self, and_true, true_and, and_false, false_and, not_true_eq_false, not_false_eq_true, if_pos, if_neg]; exact hBk
    · simp (disch := omega) only [st_ap, ud_ne, ud_eq, Nat.reduceEqDiff, Nat.reduceAdd, Nat.reduceMul, ite_true, ite_false, if_true, if_false, eq_self_iff_true, ↓reduceIte, and_self, and_true, true_and, and_false, false_and, not_true_eq_false, not_false_eq_true, if_pos, if_neg]; exact hPe
    · simp only [st_ap, ud_ap, Nat.reduceEqDiff, Nat.reduceAdd, Nat.reduceMul, ite_true, ite_false, if_true, if_false, eq_self_iff_true, ↓reduceIte, and_self, and_true, true_and, and_false, false_and, not_true_eq_false, not_false_eq_true, if_pos, if_neg]; exact rKept_0 hN
  · refine pOK_cg (p := some (nI 4294967295, A)) (p' := some (nI 4294967295, jp_set B 104 (upd (B 104) 0 (nI 0)))) ?_ ?_ (pOK_mk rfl (Rel_told hR'))
    · simp (disch := omega) only [f_C_swallow, n_within, n_it0, jp_c, decide_eq_true_eq, n_lit, n_neg1, n_add, n_mul, n_sub, n_div, n_mod, n_le, n_lt, n_eq, n_cl, n_in, st_ap, ud_ap, Nat.reduceEqDiff, Nat.reduceAdd, Nat.reduceMul, ite_true, ite_false, if_true, if_false, eq_self_iff_true, ↓reduceIte, and_self, and_true, true_and, and_false, false_and, not_true_eq_false, not_false_eq_true, if_pos, if_neg, f5]
      (repeat' split) <;> first | rfl | (exfalso; apply hk; simp only [decide_eq_true_eq, Int32.le_iff_toInt_le, Int32.lt_iff_toInt_lt] at *; simp (disch := omega) only [n_ti] at *; omega)
    · simp (disch := omega) only [f_M_swallow, n_isIn, n_it0, jp_c, decide_eq_true_eq, n_lit, n_neg1, n_add, n_mul, n_sub, n_div, n_mod, n_le, n_lt, n_eq, n_cl, n_in, st_ap, ud_ap, Nat.reduceEqDiff, Nat.reduceAdd, Nat.reduceMul, ite_true, ite_false, if_true, if_false, eq_self_iff_true, ↓reduceIte, and_self, and_true, true_and, and_false, false_and, not_true_eq_false, not_false_eq_true, if_pos, if_neg, g7]
      (repeat' split) <;> first | rfl | (exfalso; apply hk; simp only [decide_eq_true_eq, Int32.le_iff_toInt_le, Int32.lt_iff_toInt_lt] at *; simp (disch := omega) only [n_ti] at *; omega)
theorem p_book (a b : Int32) {A B : jp_M} (hR : Rel A B) : pOK ((f_C_book a b A).map (fun r => (r, A))) (f_M_book a b B) := by
  have hR' := hR
  obtain ⟨⟨hW, hBk, hLw, hPe, hLe, hCi, hWi, hKi, hPo, hWy, hVo⟩, hPic, hKe, hTa, hFa, hTh, hWd⟩ := hR
  obtain ⟨L, hL, g1, g2, g3⟩ := hBk
  by_cases hk : (nI 0 ≤ a ∧ a < nI L) ∧ (nI 0 ≤ b ∧ b ≤ nI 3)
  · obtain ⟨h1, h2⟩ := hk
    obtain ⟨y, -, hy, rfl⟩ := n_rng (by omega) h2.1 (by omega) h2.2
    obtain ⟨x, hx, rfl⟩ := n_rngl (by omega) h1
    simp (disch := omega) only [f_C_book, f_M_book, n_within, n_isIn, n_it0, jp_c, decide_eq_true_eq, n_lit, n_neg1, n_add, n_mul, n_sub, n_div, n_mod, n_le, n_lt, n_eq, n_cl, n_in, st_ap, ud_ap, Nat.reduceEqDiff, Nat.reduceAdd, Nat.reduceMul, ite_true, ite_false, if_true, if_false, eq_self_iff_true, ↓reduceIte, and_self, and_true, true_and, and_false, false_and, not_true_eq_false, not_false_eq_true, if_pos, if_neg, g1, g2, jg_t, Option.map_some]
    exact pOK_mk (g3 _ (by omega)) (Rel_told hR')
  · refine pOK_cg (p := some (nI 4294967295, A)) (p' := some (nI 4294967295, jp_set B 104 (upd (B 104) 0 (nI 0)))) ?_ ?_ (pOK_mk rfl (Rel_told hR'))
    · simp (disch := omega) only [f_C_book, n_within, n_it0, jp_c, decide_eq_true_eq, n_lit, n_neg1, n_add, n_mul, n_sub, n_div, n_mod, n_le, n_lt, n_eq, n_cl, n_in, st_ap, ud_ap, Nat.reduceEqDiff, Nat.reduceAdd, Nat.reduceMul, ite_true, ite_false, if_true, if_false, eq_self_iff_true, ↓reduceIte, and_self, and_true, true_and, and_false, false_and, not_true_eq_false, not_false_eq_true, if_pos, if_neg, g1]
      (repeat' split) <;> first | rfl | (exfalso; apply hk; simp only [decide_eq_true_eq, Int32.le_iff_toInt_le, Int32.lt_iff_toInt_lt] at *; simp (disch := omega) only [n_ti] at *; omega)
    · by_cases hL0 : L = 0
      · subst hL0
        simp (disch := omega) only [f_M_book, n_isIn, n_it0, jp_c, decide_eq_true_eq, n_lit, n_neg1, n_add, n_mul, n_sub, n_div, n_mod, n_le, n_lt, n_eq, n_cl, n_in, st_ap, ud_ap, Nat.reduceEqDiff, Nat.reduceAdd, Nat.reduceMul, ite_true, ite_false, if_true, if_false, eq_self_iff_true, ↓reduceIte, and_self, and_true, true_and, and_false, false_and, not_true_eq_false, not_false_eq_true, if_pos, if_neg, g2]
        (repeat' split) <;> first | rfl | skip
        all_goals
          exfalso
          rename_i h5 h6
          rw [show nI 0 - nI 1 = nI 4294967295 from rfl] at h5
          simp only [Decidable.not_not] at h5
          have h7 := Int32.le_trans h5.1 h5.2
          revert h7; decide
      · simp (disch := omega) only [f_M_book, n_isIn, n_it0, jp_c, decide_eq_true_eq, n_lit, n_neg1, n_add, n_mul, n_sub, n_div, n_mod, n_le, n_lt, n_eq, n_cl, n_in, st_ap, ud_ap, Nat.reduceEqDiff, Nat.reduceAdd, Nat.reduceMul, ite_true, ite_false, if_true, if_false, eq_self_iff_true, ↓reduceIte, and_self, and_true, true_and, and_false, false_and, not_true_eq_false, not_false_eq_true, if_pos, if_neg, g2]
        (repeat' split) <;> first | rfl | (exfalso; apply hk; simp only [decide_eq_true_eq, Int32.le_iff_toInt_le, Int32.lt_iff_toInt_lt] at *; simp (disch := omega) only [n_ti] at *; omega)
theorem n_cases5 {x : Nat} (h : x ≤ 4) : x = 0 ∨ x = 1 ∨ x = 2 ∨ x = 3 ∨ x = 4 := by omega
theorem p_of (a b : Int32) {A B : jp_M} (hR : Rel A B) : pOK ((f_C_of a b A).map (fun r => (r, A))) (f_M_of a b B) := by
  have hR' := hR
  obtain ⟨⟨hW, hBk, hLw, hPe, hLe, hCi, hWi, hKi, hPo, hWy, hVo⟩, hPic, hKe, hTa, hFa, hTh, hWd⟩ := hR
  obtain ⟨⟨⟨e0, e1, e2, e3, e4, e5, e6⟩, eP, eB, eR⟩, nW⟩ := hW
  obtain ⟨P, S, U, hP, hS, hU, f4, f5, f6, nP, nB, nR⟩ := nW
  have g6 : B 104 6 = nI P := by rw [← e4, f4]
  by_cases h1 : nI 0 ≤ a ∧ a < nI P
  · by_cases h2 : nI 0 ≤ b ∧ b ≤ nI 4
    · obtain ⟨x, hx, rfl⟩ := n_rngl (by omega) h1
      obtain ⟨y, -, hy, rfl⟩ := n_rng (by omega) h2.1 (by omega) h2.2
      obtain ⟨q1, q2, q3, q4, q5⟩ := eP x (by omega)
      rcases n_cases5 hy with rfl | rfl | rfl | rfl | rfl <;>
      simp (disch := omega) only [f_C_of, f_M_of, n_hasP, n_isP, n_within, n_isIn, n_it0, jp_c, decide_eq_true_eq, n_lit, n_neg1, n_add, n_mul, n_sub, n_div, n_mod, n_le, n_lt, n_eq, n_cl, n_in, st_ap, ud_ap, Nat.reduceEqDiff, Nat.reduceAdd, Nat.reduceMul, ite_true, ite_false, if_true, if_false, eq_self_iff_true, ↓reduceIte, and_self, and_true, true_and, and_false, false_and, not_true_eq_false, not_false_eq_true, if_pos, if_neg, f4, g6, jg_t, Option.map_some]
      · exact pOK_mk q1 (Rel_told hR')
      · exact pOK_mk q2 (Rel_told hR')
      · exact pOK_mk q3 (Rel_told hR')
      · exact pOK_mk q4 (Rel_told hR')
      · exact pOK_mk q5 (Rel_told hR')
    · have h3 : ∀ k, k ≤ 4 → ¬ b = nI k := by
        rintro k hk rfl
        rw [n_le (by omega) (by omega), n_le (by omega) (by omega)] at h2
        omega
      simp (disch := omega) only [f_C_of, f_M_of, n_hasP, n_isP, n_within, n_isIn, n_it0, jp_c, decide_eq_true_eq, n_lit, n_neg1, n_add, n_mul, n_sub, n_div, n_mod, n_le, n_lt, n_eq, n_cl, n_in, st_ap, ud_ap, Nat.reduceEqDiff, Nat.reduceAdd, Nat.reduceMul, ite_true, ite_false, if_true, if_false, eq_self_iff_true, ↓reduceIte, and_self, and_true, true_and, and_false, false_and, not_true_eq_false, not_false_eq_true, if_pos, if_neg, f4, g6, h1, h2, h3, Option.map_some]
      exact pOK_mk rfl (Rel_told hR')
  · simp (disch := omega) only [f_C_of, f_M_of, n_hasP, n_isP, n_within, n_isIn, n_it0, jp_c, decide_eq_true_eq, n_lit, n_neg1, n_add, n_mul, n_sub, n_div, n_mod, n_le, n_lt, n_eq, n_cl, n_in, st_ap, ud_ap, Nat.reduceEqDiff, Nat.reduceAdd, Nat.reduceMul, ite_true, ite_false, if_true, if_false, eq_self_iff_true, ↓reduceIte, and_self, and_true, true_and, and_false, false_and, not_true_eq_false, not_false_eq_true, if_pos, if_neg, f4, g6, h1, Option.map_some]
    exact pOK_mk rfl (Rel_told hR')
