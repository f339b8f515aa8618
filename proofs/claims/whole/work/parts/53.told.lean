theorem n_hasP {x : Int32} {M : jp_M} : f_W_hasPerson x M = if nI 0 ≤ x ∧ x < M 2 4 then nI 1 else nI 0 := by
  unfold f_W_hasPerson
  simp only [jp_c, decide_eq_true_eq]
  by_cases h1 : x < 0
  · rw [if_pos h1, if_neg]; rfl
    rintro ⟨h, -⟩
    exact Int32.lt_irrefl (Int32.lt_of_lt_of_le h1 h)
  · rw [if_neg h1]
    by_cases h2 : M 2 4 ≤ x
    · rw [if_pos h2, if_neg]; rfl
      rintro ⟨-, h⟩
      exact Int32.lt_irrefl (Int32.lt_of_lt_of_le h h2)
    · rw [if_neg h2, if_pos]; rfl
      exact ⟨Int32.not_lt.mp h1, Int32.not_le.mp h2⟩
theorem n_isP {x : Int32} {M : jp_M} : f_M_isPerson x M = if nI 0 ≤ x ∧ x < M 104 6 then nI 1 else nI 0 := by
  unfold f_M_isPerson
  simp only [jp_c, decide_eq_true_eq]
  by_cases h1 : x < 0
  · rw [if_pos h1, if_neg]; rfl
    rintro ⟨h, -⟩
    exact Int32.lt_irrefl (Int32.lt_of_lt_of_le h1 h)
  · rw [if_neg h1]
    by_cases h2 : M 104 6 ≤ x
    · rw [if_pos h2, if_neg]; rfl
      rintro ⟨-, h⟩
      exact Int32.lt_irrefl (Int32.lt_of_lt_of_le h h2)
    · rw [if_neg h2, if_pos]; rfl
      exact ⟨Int32.not_lt.mp h1, Int32.not_le.mp h2⟩
theorem n_hasS {x : Int32} {M : jp_M} : f_W_hasSwallow x M = if nI 0 ≤ x ∧ x < M 2 5 then nI 1 else nI 0 := by
  unfold f_W_hasSwallow
  simp only [jp_c, decide_eq_true_eq]
  by_cases h1 : x < 0
  · rw [if_pos h1, if_neg]; rfl
    rintro ⟨h, -⟩
    exact Int32.lt_irrefl (Int32.lt_of_lt_of_le h1 h)
  · rw [if_neg h1]
    by_cases h2 : M 2 5 ≤ x
    · rw [if_pos h2, if_neg]; rfl
      rintro ⟨-, h⟩
      exact Int32.lt_irrefl (Int32.lt_of_lt_of_le h h2)
    · rw [if_neg h2, if_pos]; rfl
      exact ⟨Int32.not_lt.mp h1, Int32.not_le.mp h2⟩
theorem n_isB {x : Int32} {M : jp_M} : f_M_isBird x M = if nI 0 ≤ x ∧ x < M 104 7 then nI 1 else nI 0 := by
  unfold f_M_isBird
  simp only [jp_c, decide_eq_true_eq]
  by_cases h1 : x < 0
  · rw [if_pos h1, if_neg]; rfl
    rintro ⟨h, -⟩
    exact Int32.lt_irrefl (Int32.lt_of_lt_of_le h1 h)
  · rw [if_neg h1]
    by_cases h2 : M 104 7 ≤ x
    · rw [if_pos h2, if_neg]; rfl
      rintro ⟨-, h⟩
      exact Int32.lt_irrefl (Int32.lt_of_lt_of_le h h2)
    · rw [if_neg h2, if_pos]; rfl
      exact ⟨Int32.not_lt.mp h1, Int32.not_le.mp h2⟩
theorem n_rngl {x : Int32} {b : Nat} (hb : b < 2147483648) (h : nI 0 ≤ x ∧ x < nI b) : ∃ n, n < b ∧ x = nI n := by
  obtain ⟨n, -, h3, rfl⟩ := n_rng hb h.1 (by omega) (Int32.le_of_lt h.2)
  have := h.2
  rw [n_lt (by omega) hb] at this
  exact ⟨n, this, rfl⟩
theorem p_way (a b c : Int32) {A B : jp_M} (hR : Rel A B) : pOK (f_C_way a b c A) (f_M_way a b c B) := by
  have hR' := hR
  obtain ⟨⟨hW, hBk, hLw, hPe, hLe, hCi, hWi, hKi, hPo, hWy, hVo⟩, hPic, hKe, hTa, hFa, hTh, hWd⟩ := hR
  by_cases h1 : nI 0 ≤ a ∧ a ≤ nI 5
  · by_cases h2 : nI 0 ≤ b ∧ b ≤ nI 5
    · by_cases h3 : nI 0 ≤ c ∧ c ≤ nI 99
      · obtain ⟨x, -, hx, rfl⟩ := n_rng (by omega) h1.1 (by omega) h1.2
        obtain ⟨y, -, hy, rfl⟩ := n_rng (by omega) h2.1 (by omega) h2.2
        obtain ⟨z, -, hz, rfl⟩ := n_rng (by omega) h3.1 (by omega) h3.2
        simp (disch := omega) only [f_C_way, f_M_way, n_within, n_isIn, n_it0, jp_c, decide_eq_true_eq, n_lit, n_neg1, n_add, n_mul, n_sub, n_div, n_mod, n_le, n_lt, n_eq, n_cl, n_in, st_ap, ud_ap, Nat.reduceEqDiff, Nat.reduceAdd, Nat.reduceMul, ite_true, ite_false, if_true, if_false, eq_self_iff_true, ↓reduceIte, and_self, and_true, true_and, and_false, false_and, not_true_eq_false, not_false_eq_true, if_pos, if_neg, jg_t]
        refine pOK_mk rfl ?_
        refine ⟨⟨?_, ?_, ?_, ?_, ?_, ?_, ?_, ?_, ?_, ?_, ?_⟩, ?_, ?_, ?_, ?_, ?_, ?_⟩
        all_goals (try simp (disch := omega) only [st_ap, ud_ne, ud_eq, Nat.reduceEqDiff, Nat.reduceAdd, Nat.reduceMul, ite_true, ite_false, if_true, if_false, eq_self_iff_true, ↓reduceIte, and_self, and_true, true_and, and_false, false_and, not_true_eq_false, not_false_eq_true, if_pos, if_neg]) <;> (first | assumption | ((repeat (first | exact hPic | refine rPic_sA (by decide) ?_ | refine rPic_sB (by decide) ?_)); done) | ((repeat (first | exact hKe | refine rKept_sA (by decide) ?_)); done) | skip)
        intro j hj
        by_cases hj' : j = 6 * x + y
        · simp (disch := omega) only [ud_eq]
          exact ⟨z, hz, rfl, rfl⟩
        · simp (disch := omega) only [ud_ne]
          exact hWy j hj
      · simp (disch := omega) only [f_C_way, f_M_way, n_within, n_isIn, n_it0, jp_c, decide_eq_true_eq, n_lit, n_neg1, n_add, n_mul, n_sub, n_div, n_mod, n_le, n_lt, n_eq, n_cl, n_in, st_ap, ud_ap, Nat.reduceEqDiff, Nat.reduceAdd, Nat.reduceMul, ite_true, ite_false, if_true, if_false, eq_self_iff_true, ↓reduceIte, and_self, and_true, true_and, and_false, false_and, not_true_eq_false, not_false_eq_true, if_pos, if_neg, h1, h2, h3]
        exact pOK_mk rfl (Rel_told hR')
    · simp (disch := omega) only [f_C_way, f_M_way, n_within, n_isIn, n_it0, jp_c, decide_eq_true_eq, n_lit, n_neg1, n_add, n_mul, n_sub, n_div, n_mod, n_le, n_lt, n_eq, n_cl, n_in, st_ap, ud_ap, Nat.reduceEqDiff, Nat.reduceAdd, Nat.reduceMul, ite_true, ite_false, if_true, if_false, eq_self_iff_true, ↓reduceIte, and_self, and_true, true_and, and_false, false_and, not_true_eq_false, not_false_eq_true, if_pos, if_neg, h1, h2]
      exact pOK_mk rfl (Rel_told hR')
  · simp (disch := omega) only [f_C_way, f_M_way, n_within, n_isIn, n_it0, jp_c, decide_eq_true_eq, n_lit, n_neg1, n_add, n_mul, n_sub, n_div, n_mod, n_le, n_lt, n_eq, n_cl, n_in, st_ap, ud_ap, Nat.reduceEqDiff, Nat.reduceAdd, Nat.reduceMul, ite_true, ite_false, if_true, if_false, eq_self_iff_true, ↓reduceIte, and_self, and_true, true_and, and_false, false_and, not_true_eq_false, not_false_eq_true, if_pos, if_neg, h1]
    exact pOK_mk rfl (Rel_told hR')
theorem p_voice (a b : Int32) {A B : jp_M} (hR : Rel A B) : pOK (f_C_voice a b A) (f_M_voice a b B) := by
  have hR' := hR
  obtain ⟨⟨hW, hBk, hLw, hPe, hLe, hCi, hWi, hKi, hPo, hWy, hVo⟩, hPic, hKe, hTa, hFa, hTh, hWd⟩ := hR
  by_cases h1 : nI 0 ≤ a ∧ a ≤ nI 9
  · by_cases h2 : nI 0 ≤ b ∧ b ≤ nI 1023
    · obtain ⟨x, -, hx, rfl⟩ := n_rng (by omega) h1.1 (by omega) h1.2
      obtain ⟨y, -, hy, rfl⟩ := n_rng (by omega) h2.1 (by omega) h2.2
      rw [show f_C_voice (nI x) (nI y) A = some (1, jp_set A 24 (upd (A 24) x (nI (y ||| 2 ^ x)))) by
        have e : (1 : Int32) <<< (nI x &&& 31) = nI (2 ^ x) := by rw [n_lit, n_shl (by omega), Nat.one_mul]
        simp (disch := omega) only [f_C_voice, e, n_or]
        simp (disch := omega) only [n_within, n_isIn, n_it0, jp_c, decide_eq_true_eq, n_lit, n_neg1, n_add, n_mul, n_sub, n_div, n_mod, n_le, n_lt, n_eq, n_cl, n_in, st_ap, ud_ap, Nat.reduceEqDiff, Nat.reduceAdd, Nat.reduceMul, ite_true, ite_false, if_true, if_false, eq_self_iff_true, ↓reduceIte, and_self, and_true, true_and, and_false, false_and, not_true_eq_false, not_false_eq_true, if_pos, if_neg, jg_t]]
      simp (disch := omega) only [f_M_voice, n_within, n_isIn, n_it0, jp_c, decide_eq_true_eq, n_lit, n_neg1, n_add, n_mul, n_sub, n_div, n_mod, n_le, n_lt, n_eq, n_cl, n_in, st_ap, ud_ap, Nat.reduceEqDiff, Nat.reduceAdd, Nat.reduceMul, ite_true, ite_false, if_true, if_false, eq_self_iff_true, ↓reduceIte, and_self, and_true, true_and, and_false, false_and, not_true_eq_false, not_false_eq_true, if_pos, if_neg, jg_t]
      refine pOK_mk rfl ?_
      refine ⟨⟨?_, ?_, ?_, ?_, ?_, ?_, ?_, ?_, ?_, ?_, ?_⟩, ?_, ?_, ?_, ?_, ?_, ?_⟩
      all_goals (try simp (disch := omega) only [st_ap, ud_ne, ud_eq, Nat.reduceEqDiff, Nat.reduceAdd, Nat.reduceMul, ite_true, ite_false, if_true, if_false, eq_self_iff_true, ↓reduceIte, and_self, and_true, true_and, and_false, false_and, not_true_eq_false, not_false_eq_true, if_pos, if_neg]) <;> (first | assumption | ((repeat (first | exact hPic | refine rPic_sA (by decide) ?_ | refine rPic_sB (by decide) ?_)); done) | ((repeat (first | exact hKe | refine rKept_sA (by decide) ?_)); done) | skip)
      intro j hj
      by_cases hj' : j = x
      · simp (disch := omega) only [ud_eq]
        exact ⟨y, by omega, rfl, by rw [hj']⟩
      · simp (disch := omega) only [ud_ne]
        exact hVo j hj
    · simp (disch := omega) only [f_C_voice, f_M_voice, n_within, n_isIn, n_it0, jp_c, decide_eq_true_eq, n_lit, n_neg1, n_add, n_mul, n_sub, n_div, n_mod, n_le, n_lt, n_eq, n_cl, n_in, st_ap, ud_ap, Nat.reduceEqDiff, Nat.reduceAdd, Nat.reduceMul, ite_true, ite_false, if_true, if_false, eq_self_iff_true, ↓reduceIte, and_self, and_true, true_and, and_false, false_and, not_true_eq_false, not_false_eq_true, if_pos, if_neg, h1, h2]
      exact pOK_mk rfl (Rel_told hR')
  · simp (disch := omega) only [f_C_voice, f_M_voice, n_within, n_isIn, n_it0, jp_c, decide_eq_true_eq, n_lit, n_neg1, n_add, n_mul, n_sub, n_div, n_mod, n_le, n_lt, n_eq, n_cl, n_in, st_ap, ud_ap, Nat.reduceEqDiff, Nat.reduceAdd, Nat.reduceMul, ite_true, ite_false, if_true, if_false, eq_self_iff_true, ↓reduceIte, and_self, and_true, true_and, and_false, false_and, not_true_eq_false, not_false_eq_true, if_pos, if_neg, h1]
    exact pOK_mk rfl (Rel_told hR')
theorem p_kite (a b : Int32) {A B : jp_M} (hR : Rel A B) : pOK (f_C_kite a b A) (f_M_kite a b B) := by
  have hR' := hR
  obtain ⟨⟨hW, hBk, hLw, hPe, hLe, hCi, hWi, hKi, hPo, hWy, hVo⟩, hPic, hKe, hTa, hFa, hTh, hWd⟩ := hR
  obtain ⟨⟨N, hN, g1, g2⟩, g3⟩ := hKi
  by_cases h0 : a = nI 4294967295
  · subst h0
    simp (disch := omega) only [f_C_kite, f_M_kite, jp_c, decide_eq_true_eq, n_lit, n_neg1, n_add, n_mul, n_sub, n_div, n_mod, n_le, n_lt, n_eq, n_cl, n_in, st_ap, ud_ap, Nat.reduceEqDiff, Nat.reduceAdd, Nat.reduceMul, ite_true, ite_false, if_true, if_false, eq_self_iff_true, ↓reduceIte, and_self, and_true, true_and, and_false, false_and, not_true_eq_false, not_false_eq_true, if_pos, if_neg]
    refine pOK_mk rfl ?_
    refine ⟨⟨?_, ?_, ?_, ?_, ?_, ?_, ?_, ?_, ?_, ?_, ?_⟩, ?_, ?_, ?_, ?_, ?_, ?_⟩
    all_goals (try simp (disch := omega) only [st_ap, ud_ne, ud_eq, Nat.reduceEqDiff, Nat.reduceAdd, Nat.reduceMul, ite_true, ite_false, if_true, if_false, eq_self_iff_true, ↓reduceIte, and_self, and_true, true_and, and_false, false_and, not_true_eq_false, not_false_eq_true, if_pos, if_neg]) <;> (first | assumption | ((repeat (first | exact hPic | refine rPic_sA (by decide) ?_ | refine rPic_sB (by decide) ?_)); done) | ((repeat (first | exact hKe | refine rKept_sA (by decide) ?_)); done) | skip)
    exact ⟨⟨0, by omega, rfl, rfl⟩, g3⟩
  by_cases h4 : N = 10
  · by_cases h1 : nI 0 ≤ a ∧ a ≤ nI 99 <;> by_cases h2 : nI 0 ≤ b ∧ b ≤ nI 99 <;>
    simp (disch := omega) only [f_C_kite, f_M_kite, n_within, n_isIn, n_it0, jp_c, decide_eq_true_eq, n_lit, n_neg1, n_add, n_mul, n_sub, n_div, n_mod, n_le, n_lt, n_eq, n_cl, n_in, st_ap, ud_ap, Nat.reduceEqDiff, Nat.reduceAdd, Nat.reduceMul, ite_true, ite_false, if_true, if_false, eq_self_iff_true, ↓reduceIte, and_self, and_true, true_and, and_false, false_and, not_true_eq_false, not_false_eq_true, if_pos, if_neg, h0, h1, h2, g1, g2, h4] <;> exact pOK_mk rfl (Rel_told hR')
  by_cases h1 : nI 0 ≤ a ∧ a ≤ nI 99
  · by_cases h2 : nI 0 ≤ b ∧ b ≤ nI 99
    · simp (disch := omega) only [f_C_kite, f_M_kite, n_within, n_isIn, n_it0, jp_c, decide_eq_true_eq, n_lit, n_neg1, n_add, n_mul, n_sub, n_div, n_mod, n_le, n_lt, n_eq, n_cl, n_in, st_ap, ud_ap, Nat.reduceEqDiff, Nat.reduceAdd, Nat.reduceMul, ite_true, ite_false, if_true, if_false, eq_self_iff_true, ↓reduceIte, and_self, and_true, true_and, and_false, false_and, not_true_eq_false, not_false_eq_true, if_pos, if_neg, h0, h1, h2, g1, g2, h4, jg_t]
      refine pOK_mk rfl ?_
      refine ⟨⟨?_, ?_, ?_, ?_, ?_, ?_, ?_, ?_, ?_, ?_, ?_⟩, ?_, ?_, ?_, ?_, ?_, ?_⟩
      all_goals (try simp (disch := omega) only [st_ap, ud_ne, ud_eq, Nat.reduceEqDiff, Nat.reduceAdd, Nat.reduceMul, ite_true, ite_false, if_true, if_false, eq_self_iff_true, ↓reduceIte, and_self, and_true, true_and, and_false, false_and, not_true_eq_false, not_false_eq_true, if_pos, if_neg]) <;> (first | assumption | ((repeat (first | exact hPic | refine rPic_sA (by decide) ?_ | refine rPic_sB (by decide) ?_)); done) | ((repeat (first | exact hKe | refine rKept_sA (by decide) ?_)); done) | skip)
      refine ⟨⟨N + 1, by omega, rfl, rfl⟩, fun i hi => ?_⟩
      by_cases hi' : i = N
      · simp (disch := omega) only [ud_ne, ud_eq, and_self]
      · simp (disch := omega) only [ud_ne]
        exact g3 i hi
    · simp (disch := omega) only [f_C_kite, f_M_kite, n_within, n_isIn, n_it0, jp_c, decide_eq_true_eq, n_lit, n_neg1, n_add, n_mul, n_sub, n_div, n_mod, n_le, n_lt, n_eq, n_cl, n_in, st_ap, ud_ap, Nat.reduceEqDiff, Nat.reduceAdd, Nat.reduceMul, ite_true, ite_false, if_true, if_false, eq_self_iff_true, ↓reduceIte, and_self, and_true, true_and, and_false, false_and, not_true_eq_false, not_false_eq_true, if_pos, if_neg, h0, h1, h2, g1, g2, h4]
      exact pOK_mk rfl (Rel_told hR')
  · simp (disch := omega) only [f_C_kite, f_M_kite, n_within, n_isIn, n_it0, jp_c, decide_eq_true_eq, n_lit, n_neg1, n_add, n_mul, n_sub, n_div, n_mod, n_le, n_lt, n_eq, n_cl, n_in, st_ap, ud_ap, Nat.reduceEqDiff, Nat.reduceAdd, Nat.reduceMul, ite_true, ite_false, if_true, if_false, eq_self_iff_true, ↓reduceIte, and_self, and_true, true_and, and_false, false_and, not_true_eq_false, not_false_eq_true, if_pos, if_neg, h0, h1, g1, g2, h4]
    exact pOK_mk rfl (Rel_told hR')
