theorem pOK_cg {o o' p p' : Option (Int32 × jp_M)} (h1 : o = p) (h2 : o' = p') (h : pOK p p') : pOK o o' := by rw [h1, h2]; exact h
theorem p_wish (a b c : Int32) {A B : jp_M} (hR : Rel A B) : pOK (f_C_wish a b c A) (f_M_wish a b c B) := by
  have hR' := hR
  obtain ⟨⟨hW, hBk, hLw, hPe, hLe, hCi, hWi, hKi, hPo, hWy, hVo⟩, hPic, hKe, hTa, hFa, hTh, hWd⟩ := hR
  obtain ⟨⟨N, hN, g1, g2⟩, g3⟩ := hWi
  by_cases h0 : a = nI 4294967295
  · subst h0
    simp (disch := omega) only [f_C_wish, f_M_wish, jp_c, decide_eq_true_eq, n_lit, n_neg1, n_add, n_mul, n_sub, n_div, n_mod, n_le, n_lt, n_eq, n_cl, n_in, st_ap, ud_ap, Nat.reduceEqDiff, Nat.reduceAdd, Nat.reduceMul, ite_true, ite_false, if_true, if_false, eq_self_iff_true, ↓reduceIte, and_self, and_true, true_and, and_false, false_and, not_true_eq_false, not_false_eq_true, if_pos, if_neg]
    refine pOK_mk rfl ?_
    refine ⟨⟨?_, ?_, ?_, ?_, ?_, ?_, ?_, ?_, ?_, ?_, ?_⟩, ?_, ?_, ?_, ?_, ?_, ?_⟩
    all_goals (try simp (disch := omega) only [st_ap, ud_ne, ud_eq, Nat.reduceEqDiff, Nat.reduceAdd, Nat.reduceMul, ite_true, ite_false, if_true, if_false, eq_self_iff_true, ↓reduceIte, and_self, and_true, true_and, and_false, false_and, not_true_eq_false, not_false_eq_true, if_pos, if_neg]) <;> (first | assumption | ((repeat (first | exact hPic | refine rPic_sA (by decide) ?_ | refine rPic_sB (by decide) ?_)); done) | ((repeat (first | exact hKe | refine rKept_sA (by decide) ?_)); done) | skip)
    exact ⟨⟨0, by omega, rfl, rfl⟩, g3⟩
  by_cases hk : (nI 0 ≤ a ∧ a ≤ b) ∧ (nI 0 ≤ b ∧ b ≤ nI 99) ∧ (nI 0 ≤ c ∧ c ≤ nI 99) ∧ ¬ N = 8
  · obtain ⟨h1, h2, h3, h4⟩ := hk
    obtain ⟨y, -, hy, rfl⟩ := n_rng (by omega) h2.1 (by omega) h2.2
    obtain ⟨z, -, hz, rfl⟩ := n_rng (by omega) h3.1 (by omega) h3.2
    obtain ⟨x, -, hx, rfl⟩ := n_rng (by omega) h1.1 (by omega) h1.2
    simp (disch := omega) only [f_C_wish, f_M_wish, n_within, n_isIn, n_it0, jp_c, decide_eq_true_eq, n_lit, n_neg1, n_add, n_mul, n_sub, n_div, n_mod, n_le, n_lt, n_eq, n_cl, n_in, st_ap, ud_ap, Nat.reduceEqDiff, Nat.reduceAdd, Nat.reduceMul, ite_true, ite_false, if_true, if_false, eq_self_iff_true, ↓reduceIte, and_self, and_true, true_and, and_false, false_and, not_true_eq_false, not_false_eq_true, if_pos, if_neg, g1, g2, h4, jg_t]
    refine pOK_mk rfl ?_
    refine ⟨⟨?_, ?_, ?_, ?_, ?_, ?_, ?_, ?_, ?_, ?_, ?_⟩, ?_, ?_, ?_, ?_, ?_, ?_⟩
    all_goals (try simp (disch := omega) only [st_ap, ud_ne, ud_eq, Nat.reduceEqDiff, Nat.reduceAdd, Nat.reduceMul, ite_true, ite_false, if_true, if_false, eq_self_iff_true, ↓reduceIte, and_self, and_true, true_and, and_false, false_and, not_true_eq_false, not_false_eq_true, if_pos, if_neg]) <;> (first | assumption | ((repeat (first | exact hPic | refine rPic_sA (by decide) ?_ | refine rPic_sB (by decide) ?_)); done) | ((repeat (first | exact hKe | refine rKept_sA (by decide) ?_)); done) | skip)
    refine ⟨⟨N + 1, by omega, rfl, rfl⟩, fun i hi => ?_⟩
    by_cases hi' : i = N
    · simp (disch := omega) only [ud_ne, ud_eq]
      exact ⟨x, y, z, by omega, by omega, by omega, rfl, rfl, rfl, rfl, rfl, rfl⟩
    · simp (disch := omega) only [ud_ne]
      exact g3 i hi
  · refine pOK_cg (p := some (nI 4294967295, A)) (p' := some (nI 4294967295, jp_set B 104 (upd (B 104) 0 (nI 0)))) ?_ ?_ (pOK_mk rfl (Rel_told hR'))
    · simp (disch := omega) only [f_C_wish, n_within, n_it0, jp_c, decide_eq_true_eq, n_lit, n_neg1, n_add, n_mul, n_sub, n_div, n_mod, n_le, n_lt, n_eq, n_cl, n_in, st_ap, ud_ap, Nat.reduceEqDiff, Nat.reduceAdd, Nat.reduceMul, ite_true, ite_false, if_true, if_false, eq_self_iff_true, ↓reduceIte, and_self, and_true, true_and, and_false, false_and, not_true_eq_false, not_false_eq_true, if_pos, if_neg, g1, h0]
      (repeat' split) <;> first | rfl | (exfalso; apply hk; simp only [decide_eq_true_eq, Int32.le_iff_toInt_le, Int32.lt_iff_toInt_lt] at *; simp (disch := omega) only [n_ti] at *; omega)
    · simp (disch := omega) only [f_M_wish, n_isIn, n_it0, jp_c, decide_eq_true_eq, n_lit, n_neg1, n_add, n_mul, n_sub, n_div, n_mod, n_le, n_lt, n_eq, n_cl, n_in, st_ap, ud_ap, Nat.reduceEqDiff, Nat.reduceAdd, Nat.reduceMul, ite_true, ite_false, if_true, if_false, eq_self_iff_true, ↓reduceIte, and_self, and_true, true_and, and_false, false_and, not_true_eq_false, not_false_eq_true, if_pos, if_neg, g2, h0]
      (repeat' split) <;> first | rfl | (exfalso; apply hk; simp only [Int32.le_iff_toInt_le, Int32.lt_iff_toInt_lt] at *; simp (disch := omega) only [n_ti] at *; omega)
theorem p_point (a b c d : Int32) {A B : jp_M} (hR : Rel A B) : pOK (f_C_point a b c d A) (f_M_point a b c d B) := by
  have hR' := hR
  obtain ⟨⟨hW, hBk, hLw, hPe, hLe, hCi, hWi, hKi, hPo, hWy, hVo⟩, hPic, hKe, hTa, hFa, hTh, hWd⟩ := hR
  obtain ⟨⟨N, hN, g1, g2⟩, g3⟩ := hPo
  by_cases h0 : a = nI 4294967295
  · subst h0
    simp (disch := omega) only [f_C_point, f_M_point, jp_c, decide_eq_true_eq, n_lit, n_neg1, n_add, n_mul, n_sub, n_div, n_mod, n_le, n_lt, n_eq, n_cl, n_in, st_ap, ud_ap, Nat.reduceEqDiff, Nat.reduceAdd, Nat.reduceMul, ite_true, ite_false, if_true, if_false, eq_self_iff_true, ↓reduceIte, and_self, and_true, true_and, and_false, false_and, not_true_eq_false, not_false_eq_true, if_pos, if_neg]
    refine pOK_mk rfl ?_
    refine ⟨⟨?_, ?_, ?_, ?_, ?_, ?_, ?_, ?_, ?_, ?_, ?_⟩, ?_, ?_, ?_, ?_, ?_, ?_⟩
    all_goals (try simp (disch := omega) only [st_ap, ud_ne, ud_eq, Nat.reduceEqDiff, Nat.reduceAdd, Nat.reduceMul, ite_true, ite_false, if_true, if_false, eq_self_iff_true, ↓reduceIte, and_self, and_true, true_and, and_false, false_and, not_true_eq_false, not_false_eq_true, if_pos, if_neg]) <;> (first | assumption | ((repeat (first | exact hPic | refine rPic_sA (by decide) ?_ | refine rPic_sB (by decide) ?_)); done) | ((repeat (first | exact hKe | refine rKept_sA (by decide) ?_)); done) | skip)
    exact ⟨⟨0, by omega, rfl, rfl⟩, g3⟩
  by_cases hk : (nI 0 ≤ a ∧ a ≤ nI 999) ∧ (nI 0 ≤ b ∧ b ≤ nI 999) ∧ (nI 0 ≤ c ∧ c ≤ nI 999) ∧ (nI 0 ≤ d ∧ d ≤ nI 9) ∧ ¬ N = 8
  · obtain ⟨h1, h2, h3, h5, h4⟩ := hk
    obtain ⟨y, -, hy, rfl⟩ := n_rng (by omega) h2.1 (by omega) h2.2
    obtain ⟨z, -, hz, rfl⟩ := n_rng (by omega) h3.1 (by omega) h3.2
    obtain ⟨x, -, hx, rfl⟩ := n_rng (by omega) h1.1 (by omega) h1.2
    obtain ⟨v, -, hv, rfl⟩ := n_rng (by omega) h5.1 (by omega) h5.2
    simp (disch := omega) only [f_C_point, f_M_point, n_within, n_isIn, n_it0, jp_c, decide_eq_true_eq, n_lit, n_neg1, n_add, n_mul, n_sub, n_div, n_mod, n_le, n_lt, n_eq, n_cl, n_in, st_ap, ud_ap, Nat.reduceEqDiff, Nat.reduceAdd, Nat.reduceMul, ite_true, ite_false, if_true, if_false, eq_self_iff_true, ↓reduceIte, and_self, and_true, true_and, and_false, false_and, not_true_eq_false, not_false_eq_true, if_pos, if_neg, g1, g2, h4, jg_t]
    refine pOK_mk rfl ?_
    refine ⟨⟨?_, ?_, ?_, ?_, ?_, ?_, ?_, ?_, ?_, ?_, ?_⟩, ?_, ?_, ?_, ?_, ?_, ?_⟩
    all_goals (try simp (disch := omega) only [st_ap, ud_ne, ud_eq, Nat.reduceEqDiff, Nat.reduceAdd, Nat.reduceMul, ite_true, ite_false, if_true, if_false, eq_self_iff_true, ↓reduceIte, and_self, and_true, true_and, and_false, false_and, not_true_eq_false, not_false_eq_true, if_pos, if_neg]) <;> (first | assumption | ((repeat (first | exact hPic | refine rPic_sA (by decide) ?_ | refine rPic_sB (by decide) ?_)); done) | ((repeat (first | exact hKe | refine rKept_sA (by decide) ?_)); done) | skip)
    refine ⟨⟨N + 1, by omega, rfl, rfl⟩, fun i hi => ?_⟩
    by_cases hi' : i = N
    · simp (disch := omega) only [ud_ne, ud_eq]
      exact ⟨x, y, z, v, by omega, by omega, by omega, by omega, rfl, rfl, rfl, rfl, rfl, rfl, rfl, rfl⟩
    · simp (disch := omega) only [ud_ne]
      exact g3 i hi
  · refine pOK_cg (p := some (nI 4294967295, A)) (p' := some (nI 4294967295, jp_set B 104 (upd (B 104) 0 (nI 0)))) ?_ ?_ (pOK_mk rfl (Rel_told hR'))
    · simp (disch := omega) only [f_C_point, n_within, n_it0, jp_c, decide_eq_true_eq, n_lit, n_neg1, n_add, n_mul, n_sub, n_div, n_mod, n_le, n_lt, n_eq, n_cl, n_in, st_ap, ud_ap, Nat.reduceEqDiff, Nat.reduceAdd, Nat.reduceMul, ite_true, ite_false, if_true, if_false, eq_self_iff_true, ↓reduceIte, and_self, and_true, true_and, and_false, false_and, not_true_eq_false, not_false_eq_true, if_pos, if_neg, g1, h0]
      (repeat' split) <;> first | rfl | (exfalso; apply hk; simp only [Int32.le_iff_toInt_le, Int32.lt_iff_toInt_lt] at *; simp (disch := omega) only [n_ti] at *; omega)
    · simp (disch := omega) only [f_M_point, n_isIn, n_it0, jp_c, decide_eq_true_eq, n_lit, n_neg1, n_add, n_mul, n_sub, n_div, n_mod, n_le, n_lt, n_eq, n_cl, n_in, st_ap, ud_ap, Nat.reduceEqDiff, Nat.reduceAdd, Nat.reduceMul, ite_true, ite_false, if_true, if_false, eq_self_iff_true, ↓reduceIte, and_self, and_true, true_and, and_false, false_and, not_true_eq_false, not_false_eq_true, if_pos, if_neg, g2, h0]
      (repeat' split) <;> first | rfl | (exfalso; apply hk; simp only [Int32.le_iff_toInt_le, Int32.lt_iff_toInt_lt] at *; simp (disch := omega) only [n_ti] at *; omega)
theorem p_end (a : Int32) {A B : jp_M} (hR : Rel A B) : pOK (some (f_C_end a A)) (some (f_M_end a B)) := by
  have hR' := hR
  obtain ⟨⟨hW, hBk, hLw, hPe, hLe, hCi, hWi, hKi, hPo, hWy, hVo⟩, hPic, hKe, hTa, hFa, hTh, hWd⟩ := hR
  obtain ⟨⟨N, hN, g1, g2⟩, g3⟩ := hTa
  by_cases h1 : nI 0 ≤ a ∧ a ≤ nI N
  · obtain ⟨x, -, hx, rfl⟩ := n_rng (by omega) h1.1 (by omega) h1.2
    simp (disch := omega) only [f_C_end, f_M_end, n_within, n_isIn, n_it0, jp_c, decide_eq_true_eq, n_lit, n_neg1, n_add, n_mul, n_sub, n_div, n_mod, n_le, n_lt, n_eq, n_cl, n_in, st_ap, ud_ap, Nat.reduceEqDiff, Nat.reduceAdd, Nat.reduceMul, ite_true, ite_false, if_true, if_false, eq_self_iff_true, ↓reduceIte, and_self, and_true, true_and, and_false, false_and, not_true_eq_false, not_false_eq_true, if_pos, if_neg, g1, g2]
    refine pOK_mk rfl ?_
    refine ⟨⟨?_, ?_, ?_, ?_, ?_, ?_, ?_, ?_, ?_, ?_, ?_⟩, ?_, ?_, ?_, ?_, ?_, ?_⟩
    all_goals (try simp (disch := omega) only [st_ap, ud_ne, ud_eq, Nat.reduceEqDiff, Nat.reduceAdd, Nat.reduceMul, ite_true, ite_false, if_true, if_false, eq_self_iff_true, ↓reduceIte, and_self, and_true, true_and, and_false, false_and, not_true_eq_false, not_false_eq_true, if_pos, if_neg]) <;> (first | assumption | ((repeat (first | exact hPic | refine rPic_sA (by decide) ?_ | refine rPic_sB (by decide) ?_)); done) | ((repeat (first | exact hKe | refine rKept_sA (by decide) ?_)); done) | skip)
    exact ⟨⟨x, by omega, rfl, rfl⟩, g3⟩
  · simp (disch := omega) only [f_C_end, f_M_end, n_within, n_isIn, n_it0, jp_c, decide_eq_true_eq, n_lit, n_neg1, n_add, n_mul, n_sub, n_div, n_mod, n_le, n_lt, n_eq, n_cl, n_in, st_ap, ud_ap, Nat.reduceEqDiff, Nat.reduceAdd, Nat.reduceMul, ite_true, ite_false, if_true, if_false, eq_self_iff_true, ↓reduceIte, and_self, and_true, true_and, and_false, false_and, not_true_eq_false, not_false_eq_true, if_pos, if_neg, g1, g2, h1]
    exact pOK_mk rfl (Rel_told hR')
theorem p_lease (a : Int32) {A B : jp_M} (hR : Rel A B) : pOK ((f_C_lease a A).map (fun r => (r, A))) (f_M_lease a B) := by
  have hR' := hR
  obtain ⟨⟨hW, hBk, hLw, hPe, hLe, hCi, hWi, hKi, hPo, hWy, hVo⟩, hPic, hKe, hTa, hFa, hTh, hWd⟩ := hR
  by_cases h1 : nI 0 ≤ a ∧ a ≤ nI 9
  · obtain ⟨x, -, hx, rfl⟩ := n_rng (by omega) h1.1 (by omega) h1.2
    obtain ⟨s, hs, h2, h3⟩ := hLe.2 x (by omega)
    simp (disch := omega) only [f_C_lease, f_M_lease, n_within, n_isIn, n_it0, jp_c, decide_eq_true_eq, n_lit, n_neg1, n_add, n_mul, n_sub, n_div, n_mod, n_le, n_lt, n_eq, n_cl, n_in, st_ap, ud_ap, Nat.reduceEqDiff, Nat.reduceAdd, Nat.reduceMul, ite_true, ite_false, if_true, if_false, eq_self_iff_true, ↓reduceIte, and_self, and_true, true_and, and_false, false_and, not_true_eq_false, not_false_eq_true, if_pos, if_neg, jg_t, Option.map_some, h2, h3]
    exact pOK_mk rfl (Rel_told hR')
  · simp (disch := omega) only [f_C_lease, f_M_lease, n_within, n_isIn, n_it0, jp_c, decide_eq_true_eq, n_lit, n_neg1, n_add, n_mul, n_sub, n_div, n_mod, n_le, n_lt, n_eq, n_cl, n_in, st_ap, ud_ap, Nat.reduceEqDiff, Nat.reduceAdd, Nat.reduceMul, ite_true, ite_false, if_true, if_false, eq_self_iff_true, ↓reduceIte, and_self, and_true, true_and, and_false, false_and, not_true_eq_false, not_false_eq_true, if_pos, if_neg, h1, Option.map_some]
    exact pOK_mk rfl (Rel_told hR')
theorem p_fault (a : Int32) {A B : jp_M} (hR : Rel A B) : pOK (some (f_C_fault a A, A)) (some (f_M_fault a B)) := by
  have hR' := hR
  obtain ⟨⟨hW, hBk, hLw, hPe, hLe, hCi, hWi, hKi, hPo, hWy, hVo⟩, hPic, hKe, hTa, hFa, hTh, hWd⟩ := hR
  by_cases h1 : a = nI 0
  · simp (disch := omega) only [f_C_fault, f_M_fault, jp_c, decide_eq_true_eq, n_lit, n_neg1, n_add, n_mul, n_sub, n_div, n_mod, n_le, n_lt, n_eq, n_cl, n_in, st_ap, ud_ap, Nat.reduceEqDiff, Nat.reduceAdd, Nat.reduceMul, ite_true, ite_false, if_true, if_false, eq_self_iff_true, ↓reduceIte, and_self, and_true, true_and, and_false, false_and, not_true_eq_false, not_false_eq_true, if_pos, if_neg, h1]
    exact pOK_mk hFa.1 (Rel_told hR')
  · by_cases h2 : a = nI 1
    · simp (disch := omega) only [f_C_fault, f_M_fault, jp_c, decide_eq_true_eq, n_lit, n_neg1, n_add, n_mul, n_sub, n_div, n_mod, n_le, n_lt, n_eq, n_cl, n_in, st_ap, ud_ap, Nat.reduceEqDiff, Nat.reduceAdd, Nat.reduceMul, ite_true, ite_false, if_true, if_false, eq_self_iff_true, ↓reduceIte, and_self, and_true, true_and, and_false, false_and, not_true_eq_false, not_false_eq_true, if_pos, if_neg, h2]
      exact pOK_mk hFa.2 (Rel_told hR')
    · simp (disch := omega) only [f_C_fault, f_M_fault, jp_c, decide_eq_true_eq, n_lit, n_neg1, n_add, n_mul, n_sub, n_div, n_mod, n_le, n_lt, n_eq, n_cl, n_in, st_ap, ud_ap, Nat.reduceEqDiff, Nat.reduceAdd, Nat.reduceMul, ite_true, ite_false, if_true, if_false, eq_self_iff_true, ↓reduceIte, and_self, and_true, true_and, and_false, false_and, not_true_eq_false, not_false_eq_true, if_pos, if_neg, h1, h2]
      exact pOK_mk rfl (Rel_told hR')
