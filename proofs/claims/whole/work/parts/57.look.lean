theorem n_asc (c x y z : Int32) : c + x - y + z = c + (x - y + z) := by simp only [Int32.sub_eq_add_neg, Int32.add_assoc]
theorem n_gr (a b : Int32) : f_M_greater a b = jp_max a b := by
  unfold f_M_greater jp_max
  simp only [jp_c, decide_eq_true_eq]
  by_cases h : a < b
  · rw [if_pos h, if_pos (Int32.le_of_lt h)]
  · rw [if_neg h]
    split
    · next h1 => exact Int32.le_antisymm (Int32.not_lt.mp h) h1
    · rfl
theorem n_ls (a b : Int32) : f_M_lesser a b = jp_min a b := by
  unfold f_M_lesser jp_min
  simp only [jp_c, decide_eq_true_eq]
  by_cases h : b < a
  · rw [if_pos h, if_pos (Int32.le_of_lt h)]
  · rw [if_neg h]
    split
    · next h1 => exact Int32.le_antisymm h1 (Int32.not_lt.mp h)
    · rfl
/-- both go through the uses -/
theorem l_used {A B : jp_M} {U : Nat} (hU : U ≤ 16) (h1 : A 2 6 = nI U) (h2 : B 105 5 = nI U) (hr : ∀ j, j < 128 → A 5 j = B 105 (56 + j)) :
    ∀ d i, i + d = U → ∀ n m, d < n → d < m → ∀ c, ∃ v, f_W_usedCells_4 n c (nI (8 * i)) A = some v ∧ f_M_usedCells_4 m c (nI i) B = some v := by
  intro d
  induction d with
  | zero =>
    intro i hi n m hn hm c
    obtain ⟨n, rfl⟩ : ∃ k, n = k + 1 := ⟨n - 1, by omega⟩
    obtain ⟨m, rfl⟩ : ∃ k, m = k + 1 := ⟨m - 1, by omega⟩
    refine ⟨c, ?_, ?_⟩ <;> simp (disch := omega) only [f_W_usedCells_4, f_M_usedCells_4, jp_c, decide_eq_true_eq, n_lit, n_neg1, n_add, n_mul, n_sub, n_div, n_mod, n_le, n_lt, n_eq, n_cl, n_in, Nat.reduceEqDiff, Nat.reduceAdd, Nat.reduceMul, ite_true, ite_false, if_true, if_false, eq_self_iff_true, ↓reduceIte, and_self, and_true, true_and, and_false, false_and, not_true_eq_false, not_false_eq_true, if_pos, if_neg, h1, h2]
  | succ d ih =>
    intro i hi n m hn hm c
    obtain ⟨n, rfl⟩ : ∃ k, n = k + 1 := ⟨n - 1, by omega⟩
    obtain ⟨m, rfl⟩ : ∃ k, m = k + 1 := ⟨m - 1, by omega⟩
    obtain ⟨v, e1, e2⟩ := ih (i + 1) (by omega) n m (by omega) (by omega) (c + (A 5 (8 * i + 5) - A 5 (8 * i + 4) + nI 1))
    refine ⟨v, ?_, ?_⟩
    · simp (disch := omega) only [f_W_usedCells_4, jp_c, decide_eq_true_eq, n_lit, n_neg1, n_add, n_mul, n_sub, n_div, n_mod, n_le, n_lt, n_eq, n_cl, n_in, Nat.reduceEqDiff, Nat.reduceAdd, Nat.reduceMul, ite_true, ite_false, if_true, if_false, eq_self_iff_true, ↓reduceIte, and_self, and_true, true_and, and_false, false_and, not_true_eq_false, not_false_eq_true, if_pos, if_neg, h1, jg_t]
      rw [show 8 * (i + 1) = 8 * i + 8 by omega] at e1
      exact e1
    · have a5 := hr (8 * i + 5) (by omega)
      have a4 := hr (8 * i + 4) (by omega)
      rw [show 56 + (8 * i + 5) = 56 + 8 * i + 5 by omega] at a5
      rw [show 56 + (8 * i + 4) = 56 + 8 * i + 4 by omega] at a4
      simp (disch := omega) only [f_M_usedCells_4, f_M_useAt, jp_c, decide_eq_true_eq, n_lit, n_neg1, n_add, n_mul, n_sub, n_div, n_mod, n_le, n_lt, n_eq, n_cl, n_in, Nat.reduceEqDiff, Nat.reduceAdd, Nat.reduceMul, ite_true, ite_false, if_true, if_false, eq_self_iff_true, ↓reduceIte, and_self, and_true, true_and, and_false, false_and, not_true_eq_false, not_false_eq_true, if_pos, if_neg, h2, jg_t]
      rw [← a5, ← a4, n_asc]
      exact e2
theorem p_used {A B : jp_M} {U : Nat} (hU : U ≤ 16) (h1 : A 2 6 = nI U) (h2 : B 105 5 = nI U) (hr : ∀ j, j < 128 → A 5 j = B 105 (56 + j)) : ∃ v, f_W_usedCells A = some v ∧ f_M_usedCells B = some v :=
  l_used hU h1 h2 hr U 0 (by omega) jFu jFu (by rw [show jFu = 100000 from rfl]; omega) (by rw [show jFu = 100000 from rfl]; omega) 0
/-- both go through the nests -/
theorem l_nests {A B : jp_M} {S : Nat} (hS : S ≤ 10) (h1 : A 2 5 = nI S) (h2 : B 104 7 = nI S) (hb : ∀ i, i < 10 → A 4 (3 * i) = B 105 (46 + i)) (r : Int32) :
    ∀ d i, i + d = S → ∀ n m, d < n → d < m → ∀ c, ∃ v, f_W_nestsAt_4 n r c (nI i) A = some v ∧ f_M_nestsAt_4 m r c (nI i) B = some v := by
  intro d
  induction d with
  | zero =>
    intro i hi n m hn hm c
    obtain ⟨n, rfl⟩ : ∃ k, n = k + 1 := ⟨n - 1, by omega⟩
    obtain ⟨m, rfl⟩ : ∃ k, m = k + 1 := ⟨m - 1, by omega⟩
    refine ⟨c, ?_, ?_⟩ <;> simp (disch := omega) only [f_W_nestsAt_4, f_M_nestsAt_4, jp_c, decide_eq_true_eq, n_lit, n_neg1, n_add, n_mul, n_sub, n_div, n_mod, n_le, n_lt, n_eq, n_cl, n_in, Nat.reduceEqDiff, Nat.reduceAdd, Nat.reduceMul, ite_true, ite_false, if_true, if_false, eq_self_iff_true, ↓reduceIte, and_self, and_true, true_and, and_false, false_and, not_true_eq_false, not_false_eq_true, if_pos, if_neg, h1, h2]
  | succ d ih =>
    intro i hi n m hn hm c
    obtain ⟨n, rfl⟩ : ∃ k, n = k + 1 := ⟨n - 1, by omega⟩
    obtain ⟨m, rfl⟩ : ∃ k, m = k + 1 := ⟨m - 1, by omega⟩
    have hb' := hb i (by omega)
    by_cases h : B 105 (46 + i) = r
    · obtain ⟨v, e1, e2⟩ := ih (i + 1) (by omega) n m (by omega) (by omega) (c + nI 1)
      refine ⟨v, ?_, ?_⟩
      · simp (disch := omega) only [f_W_nestsAt_4, f_W_nestsAt_29, jp_c, decide_eq_true_eq, n_lit, n_neg1, n_add, n_mul, n_sub, n_div, n_mod, n_le, n_lt, n_eq, n_cl, n_in, Nat.reduceEqDiff, Nat.reduceAdd, Nat.reduceMul, ite_true, ite_false, if_true, if_false, eq_self_iff_true, ↓reduceIte, and_self, and_true, true_and, and_false, false_and, not_true_eq_false, not_false_eq_true, if_pos, if_neg, Nat.add_zero, h1, hb', h, jg_t]; exact e1
      · simp (disch := omega) only [f_M_nestsAt_4, f_M_nestsAt_29, jp_c, decide_eq_true_eq, n_lit, n_neg1, n_add, n_mul, n_sub, n_div, n_mod, n_le, n_lt, n_eq, n_cl, n_in, Nat.reduceEqDiff, Nat.reduceAdd, Nat.reduceMul, ite_true, ite_false, if_true, if_false, eq_self_iff_true, ↓reduceIte, and_self, and_true, true_and, and_false, false_and, not_true_eq_false, not_false_eq_true, if_pos, if_neg, Nat.add_zero, h2, h, jg_t]; exact e2
    · obtain ⟨v, e1, e2⟩ := ih (i + 1) (by omega) n m (by omega) (by omega) c
      refine ⟨v, ?_, ?_⟩
      · simp (disch := omega) only [f_W_nestsAt_4, f_W_nestsAt_29, jp_c, decide_eq_true_eq, n_lit, n_neg1, n_add, n_mul, n_sub, n_div, n_mod, n_le, n_lt, n_eq, n_cl, n_in, Nat.reduceEqDiff, Nat.reduceAdd, Nat.reduceMul, ite_true, ite_false, if_true, if_false, eq_self_iff_true, ↓reduceIte, and_self, and_true, true_and, and_false, false_and, not_true_eq_false, not_false_eq_true, if_pos, if_neg, Nat.add_zero, h1, hb', h, jg_t]; exact e1
      · simp (disch := omega) only [f_M_nestsAt_4, f_M_nestsAt_29, jp_c, decide_eq_true_eq, n_lit, n_neg1, n_add, n_mul, n_sub, n_div, n_mod, n_le, n_lt, n_eq, n_cl, n_in, Nat.reduceEqDiff, Nat.reduceAdd, Nat.reduceMul, ite_true, ite_false, if_true, if_false, eq_self_iff_true, ↓reduceIte, and_self, and_true, true_and, and_false, false_and, not_true_eq_false, not_false_eq_true, if_pos, if_neg, Nat.add_zero, h2, h, jg_t]; exact e2
theorem p_nests {A B : jp_M} {S : Nat} (hS : S ≤ 10) (h1 : A 2 5 = nI S) (h2 : B 104 7 = nI S) (hb : ∀ i, i < 10 → A 4 (3 * i) = B 105 (46 + i)) (r : Int32) : ∃ v, f_W_nestsAt r A = some v ∧ f_M_nestsAt r B = some v :=
  l_nests hS h1 h2 hb r S 0 (by omega) jFu jFu (by rw [show jFu = 100000 from rfl]; omega) (by rw [show jFu = 100000 from rfl]; omega) 0
theorem n_summer {A B : jp_M} (h : A 2 1 = B 105 0) : f_W_isSummer A = f_M_isSummer B := by
  unfold f_W_isSummer f_M_isSummer f_M_isIn
  rw [h]
theorem p_look (a : Int32) {A B : jp_M} (hR : Rel A B) : pOK ((f_C_look a A).map (fun r => (r, A))) (f_M_look a B) := by
  have T := Rel_told (x := nI 0) hR
  generalize hB1 : jp_set B 104 (upd (B 104) 0 (nI 0)) = B1 at T
  have hT := T
  obtain ⟨⟨hW, hBk, hLw, hPe, hLe, hCi, hWi, hKi, hPo, hWy, hVo⟩, hPic, hKe, hTa, hFa, hTh, hWd⟩ := T
  obtain ⟨⟨⟨e0, e1, e2, e3, e4, e5, e6⟩, eP, eB, eR⟩, nW⟩ := hW
  obtain ⟨P, S, U, hP, hS, hU, f4, f5, f6, nP, nB, nR⟩ := nW
  by_cases h0 : a = nI 0
  · subst h0
    simp (disch := omega) only [f_C_look, f_M_look, hB1, jp_c, decide_eq_true_eq, n_lit, n_neg1, n_add, n_mul, n_sub, n_div, n_mod, n_le, n_lt, n_eq, n_cl, n_in, Nat.reduceEqDiff, Nat.reduceAdd, Nat.reduceMul, ite_true, ite_false, if_true, if_false, eq_self_iff_true, ↓reduceIte, and_self, and_true, true_and, and_false, false_and, not_true_eq_false, not_false_eq_true, if_pos, if_neg, Option.map_some]
    exact pOK_mk e4 hT
  by_cases h1 : a = nI 1
  · subst h1
    simp (disch := omega) only [f_C_look, f_M_look, hB1, jp_c, decide_eq_true_eq, n_lit, n_neg1, n_add, n_mul, n_sub, n_div, n_mod, n_le, n_lt, n_eq, n_cl, n_in, Nat.reduceEqDiff, Nat.reduceAdd, Nat.reduceMul, ite_true, ite_false, if_true, if_false, eq_self_iff_true, ↓reduceIte, and_self, and_true, true_and, and_false, false_and, not_true_eq_false, not_false_eq_true, if_pos, if_neg, Option.map_some]
    exact pOK_mk e5 hT
  by_cases h2 : a = nI 2
  · subst h2
    simp (disch := omega) only [f_C_look, f_M_look, hB1, jp_c, decide_eq_true_eq, n_lit, n_neg1, n_add, n_mul, n_sub, n_div, n_mod, n_le, n_lt, n_eq, n_cl, n_in, Nat.reduceEqDiff, Nat.reduceAdd, Nat.reduceMul, ite_true, ite_false, if_true, if_false, eq_self_iff_true, ↓reduceIte, and_self, and_true, true_and, and_false, false_and, not_true_eq_false, not_false_eq_true, if_pos, if_neg, Option.map_some]
    exact pOK_mk e6 hT
  by_cases h3 : a = nI 3
  · subst h3
    obtain ⟨v, q1, q2⟩ := p_used (A := A) (B := B1) hU f6 (by rw [← f6]; exact e6.symm) eR
    simp (disch := omega) only [f_C_look, f_M_look, hB1, jp_c, decide_eq_true_eq, n_lit, n_neg1, n_add, n_mul, n_sub, n_div, n_mod, n_le, n_lt, n_eq, n_cl, n_in, Nat.reduceEqDiff, Nat.reduceAdd, Nat.reduceMul, ite_true, ite_false, if_true, if_false, eq_self_iff_true, ↓reduceIte, and_self, and_true, true_and, and_false, false_and, not_true_eq_false, not_false_eq_true, if_pos, if_neg, q1, q2, Option.bind_some, Option.map_some]
    exact pOK_mk rfl hT
  by_cases h4 : a = nI 4
  · subst h4
    simp (disch := omega) only [f_C_look, f_M_look, hB1, jp_c, decide_eq_true_eq, n_lit, n_neg1, n_add, n_mul, n_sub, n_div, n_mod, n_le, n_lt, n_eq, n_cl, n_in, Nat.reduceEqDiff, Nat.reduceAdd, Nat.reduceMul, ite_true, ite_false, if_true, if_false, eq_self_iff_true, ↓reduceIte, and_self, and_true, true_and, and_false, false_and, not_true_eq_false, not_false_eq_true, if_pos, if_neg, Option.map_some]
    exact pOK_mk e2 hT
  by_cases h5 : a = nI 5
  · subst h5
    have q := n_summer (A := A) (B := B1) e1
    simp (disch := omega) only [f_C_look, f_M_look, hB1, jp_c, decide_eq_true_eq, n_lit, n_neg1, n_add, n_mul, n_sub, n_div, n_mod, n_le, n_lt, n_eq, n_cl, n_in, Nat.reduceEqDiff, Nat.reduceAdd, Nat.reduceMul, ite_true, ite_false, if_true, if_false, eq_self_iff_true, ↓reduceIte, and_self, and_true, true_and, and_false, false_and, not_true_eq_false, not_false_eq_true, if_pos, if_neg, q]
    by_cases hq : f_M_isSummer B1 = nI 0
    · simp only [hq, if_true, ↓reduceIte, Option.map_some]; exact pOK_mk rfl hT
    · simp only [hq, if_false, ↓reduceIte, Option.map_some]; exact pOK_mk rfl hT
  by_cases h6 : a = nI 6
  · subst h6
    simp (disch := omega) only [f_C_look, f_M_look, hB1, jp_c, decide_eq_true_eq, n_lit, n_neg1, n_add, n_mul, n_sub, n_div, n_mod, n_le, n_lt, n_eq, n_cl, n_in, Nat.reduceEqDiff, Nat.reduceAdd, Nat.reduceMul, ite_true, ite_false, if_true, if_false, eq_self_iff_true, ↓reduceIte, and_self, and_true, true_and, and_false, false_and, not_true_eq_false, not_false_eq_true, if_pos, if_neg, Option.map_some]
    exact pOK_mk e1 hT
  by_cases h7 : a = nI 7
  · subst h7
    simp (disch := omega) only [f_C_look, f_M_look, hB1, jp_c, decide_eq_true_eq, n_lit, n_neg1, n_add, n_mul, n_sub, n_div, n_mod, n_le, n_lt, n_eq, n_cl, n_in, Nat.reduceEqDiff, Nat.reduceAdd, Nat.reduceMul, ite_true, ite_false, if_true, if_false, eq_self_iff_true, ↓reduceIte, and_self, and_true, true_and, and_false, false_and, not_true_eq_false, not_false_eq_true, if_pos, if_neg, Option.map_some]
    exact pOK_mk (by obtain ⟨L, -, q1, q2, -⟩ := hBk; rw [q1, q2]) hT
  by_cases h8 : a = nI 8
  · subst h8
    simp (disch := omega) only [f_C_look, f_M_look, hB1, jp_c, decide_eq_true_eq, n_lit, n_neg1, n_add, n_mul, n_sub, n_div, n_mod, n_le, n_lt, n_eq, n_cl, n_in, Nat.reduceEqDiff, Nat.reduceAdd, Nat.reduceMul, ite_true, ite_false, if_true, if_false, eq_self_iff_true, ↓reduceIte, and_self, and_true, true_and, and_false, false_and, not_true_eq_false, not_false_eq_true, if_pos, if_neg, Option.map_some]
    exact pOK_mk e0 hT
  by_cases h9 : a = nI 9
  · subst h9
    simp (disch := omega) only [f_C_look, f_M_look, hB1, jp_c, decide_eq_true_eq, n_lit, n_neg1, n_add, n_mul, n_sub, n_div, n_mod, n_le, n_lt, n_eq, n_cl, n_in, Nat.reduceEqDiff, Nat.reduceAdd, Nat.reduceMul, ite_true, ite_false, if_true, if_false, eq_self_iff_true, ↓reduceIte, and_self, and_true, true_and, and_false, false_and, not_true_eq_false, not_false_eq_true, if_pos, if_neg, Option.map_some]
    exact pOK_mk (by obtain ⟨n, ps, -, q1, q2, -⟩ := hLw; rw [q1, q2]) hT
  by_cases h10 : a = nI 10
  · subst h10
    simp (disch := omega) only [f_C_look, f_M_look, hB1, jp_c, decide_eq_true_eq, n_lit, n_neg1, n_add, n_mul, n_sub, n_div, n_mod, n_le, n_lt, n_eq, n_cl, n_in, Nat.reduceEqDiff, Nat.reduceAdd, Nat.reduceMul, ite_true, ite_false, if_true, if_false, eq_self_iff_true, ↓reduceIte, and_self, and_true, true_and, and_false, false_and, not_true_eq_false, not_false_eq_true, if_pos, if_neg, Option.map_some]
    exact pOK_mk (by obtain ⟨n, ps, -, -, -, q1, q2, -⟩ := hPe; rw [q1, q2]) hT
  by_cases h11 : a = nI 11
  · subst h11
    simp (disch := omega) only [f_C_look, f_M_look, hB1, jp_c, decide_eq_true_eq, n_lit, n_neg1, n_add, n_mul, n_sub, n_div, n_mod, n_le, n_lt, n_eq, n_cl, n_in, Nat.reduceEqDiff, Nat.reduceAdd, Nat.reduceMul, ite_true, ite_false, if_true, if_false, eq_self_iff_true, ↓reduceIte, and_self, and_true, true_and, and_false, false_and, not_true_eq_false, not_false_eq_true, if_pos, if_neg, Option.map_some]
    exact pOK_mk hLe.1 hT
  by_cases h12 : a = nI 12
  · subst h12
    simp (disch := omega) only [f_C_look, f_M_look, hB1, jp_c, decide_eq_true_eq, n_lit, n_neg1, n_add, n_mul, n_sub, n_div, n_mod, n_le, n_lt, n_eq, n_cl, n_in, Nat.reduceEqDiff, Nat.reduceAdd, Nat.reduceMul, ite_true, ite_false, if_true, if_false, eq_self_iff_true, ↓reduceIte, and_self, and_true, true_and, and_false, false_and, not_true_eq_false, not_false_eq_true, if_pos, if_neg, Option.map_some]
    exact pOK_mk (by obtain ⟨n, -, q1, q2, -⟩ := hCi; rw [q1, q2]) hT
  by_cases h13 : a = nI 13
  · subst h13
    simp (disch := omega) only [f_C_look, f_M_look, hB1, jp_c, decide_eq_true_eq, n_lit, n_neg1, n_add, n_mul, n_sub, n_div, n_mod, n_le, n_lt, n_eq, n_cl, n_in, Nat.reduceEqDiff, Nat.reduceAdd, Nat.reduceMul, ite_true, ite_false, if_true, if_false, eq_self_iff_true, ↓reduceIte, and_self, and_true, true_and, and_false, false_and, not_true_eq_false, not_false_eq_true, if_pos, if_neg, Option.map_some]
    exact pOK_mk (by obtain ⟨n, ps, -, -, -, q1, q2, -⟩ := hKe; rw [q1, q2]) hT
  simp (disch := omega) only [f_C_look, f_M_look, hB1, jp_c, decide_eq_true_eq, n_lit, n_neg1, n_add, n_mul, n_sub, n_div, n_mod, n_le, n_lt, n_eq, n_cl, n_in, Nat.reduceEqDiff, Nat.reduceAdd, Nat.reduceMul, ite_true, ite_false, if_true, if_false, eq_self_iff_true, ↓reduceIte, and_self, and_true, true_and, and_false, false_and, not_true_eq_false, not_false_eq_true, if_pos, if_neg, Option.map_some, h0, h1, h2, h3, h4, h5, h6, h7, h8, h9, h10, h11, h12, h13]
  exact pOK_mk rfl hT
