theorem k_La {M : jp_M} {n l : Nat} (hn : n ≤ 16) (hl : l ≤ 400) (h0 : M 7 0 = nI n) (h1 : M 7 1 = nI l) : f_L_becomes_1 M = some (jp_set (jp_set (jp_set (jp_set (jp_set M 31 (upd (upd (M 31) 0 (nI n)) 1 (nI l))) 32 (va_cpy (M 8) (M 32) 0 0 n)) 33 (va_cpy (M 9) (M 33) 0 0 n)) 34 (va_cpy (M 10) (M 34) 0 0 n)) 35 (va_cpy (M 11) (M 35) 0 0 l)) := by
  simp (disch := omega) only [f_L_becomes_1, n_lit, n_le, n_cl, Nat.reduceEqDiff, Nat.reduceAdd, Nat.reduceMul, ite_true, ite_false, if_true, if_false, eq_self_iff_true, ↓reduceIte, and_self, and_true, true_and, and_false, false_and, not_true_eq_false, not_false_eq_true, if_pos, if_neg, st_st, st_ap, ud_ap, h0, h1, jg_t]
theorem k_Pa (M : jp_M) : f_S_becomes_2 M = some (jp_set (jp_set M 38 (upd (M 38) 0 (M 14 0))) 39 (va_cpy (M 15) (M 39) 0 0 112)) := by
  simp (disch := omega) only [f_S_becomes_2, n_lit, n_min, Nat.min_self, n_le, n_cl, Nat.reduceEqDiff, Nat.reduceAdd, Nat.reduceMul, ite_true, ite_false, if_true, if_false, eq_self_iff_true, ↓reduceIte, and_self, and_true, true_and, and_false, false_and, not_true_eq_false, not_false_eq_true, if_pos, if_neg, st_ap, jg_t]
theorem k_Ca (M : jp_M) : f_S_becomes_3 M = some (jp_set (jp_set M 41 (upd (M 41) 0 (M 17 0))) 42 (va_cpy (M 18) (M 42) 0 0 32)) := by
  simp (disch := omega) only [f_S_becomes_3, n_lit, n_min, Nat.min_self, n_le, n_cl, Nat.reduceEqDiff, Nat.reduceAdd, Nat.reduceMul, ite_true, ite_false, if_true, if_false, eq_self_iff_true, ↓reduceIte, and_self, and_true, true_and, and_false, false_and, not_true_eq_false, not_false_eq_true, if_pos, if_neg, st_ap, jg_t]
theorem k_Aa {A : jp_M} {n l b : Nat} (hn : n ≤ 16) (hl : l ≤ 400) (hb : b ≤ 150) (h0 : A 7 0 = nI n) (h1 : A 7 1 = nI l) (h2 : A 2 7 = nI b) : ∃ A', f_A_becomes A = some A' ∧ cA A (fun q => A' (q + 24)) ∧ ∀ q, q < 25 ∨ 49 ≤ q → A' q = A q := by
  obtain ⟨w1, w2, w3, w4, w5⟩ := c_W_becomes_14 A
  generalize hM : f_W_becomes_14 A = M at w1 w2 w3 w4 w5
  have wq : ∀ q, ¬ q = 26 → ¬ q = 27 → ¬ q = 28 → ¬ q = 29 → M q = A q := w1
  have x7 : M 26 7 = nI b := by rw [w2 7 (by omega)]; exact h2
  have e1 := k_La (M := jp_set M 30 (va_cpy (M 6) (M 30) 0 0 (4 * b))) hn hl (by rw [st_ne (by decide), wq 7 (by decide) (by decide) (by decide) (by decide), h0]) (by rw [st_ne (by decide), wq 7 (by decide) (by decide) (by decide) (by decide), h1])
  generalize hM2 : jp_set M 30 (va_cpy (M 6) (M 30) 0 0 (4 * b)) = M2 at e1
  generalize hM3 : jp_set (jp_set (jp_set (jp_set (jp_set M2 31 (upd (upd (M2 31) 0 (nI n)) 1 (nI l))) 32 (va_cpy (M2 8) (M2 32) 0 0 n)) 33 (va_cpy (M2 9) (M2 33) 0 0 n)) 34 (va_cpy (M2 10) (M2 34) 0 0 n)) 35 (va_cpy (M2 11) (M2 35) 0 0 l) = M3 at e1
  have e2 := k_Pa M3
  generalize hM4 : jp_set (jp_set M3 38 (upd (M3 38) 0 (M3 14 0))) 39 (va_cpy (M3 15) (M3 39) 0 0 112) = M4 at e2
  generalize hM5 : jp_set (jp_set M4 40 (va_cpy (M4 16) (M4 40) 0 0 10)) 25 (upd (M4 25) 5 (M4 1 5)) = M5
  have e3 := k_Ca M5
  generalize hM6 : jp_set (jp_set M5 41 (upd (M5 41) 0 (M5 17 0))) 42 (va_cpy (M5 18) (M5 42) 0 0 32) = M6 at e3
  have f2 : ∀ q, ¬ q = 30 → M2 q = M q := fun q h => by rw [← hM2, st_ne h]
  have f3 : ∀ q, ¬ q = 31 → ¬ q = 32 → ¬ q = 33 → ¬ q = 34 → ¬ q = 35 → M3 q = M2 q := fun q g1 g2 g3 g4 g5 => by rw [← hM3, st_ne g5, st_ne g4, st_ne g3, st_ne g2, st_ne g1]
  have f4 : ∀ q, ¬ q = 38 → ¬ q = 39 → M4 q = M3 q := fun q g1 g2 => by rw [← hM4, st_ne g2, st_ne g1]
  have f5 : ∀ q, ¬ q = 40 → ¬ q = 25 → M5 q = M4 q := fun q g1 g2 => by rw [← hM5, st_ne g2, st_ne g1]
  have f6 : ∀ q, ¬ q = 41 → ¬ q = 42 → M6 q = M5 q := fun q g1 g2 => by rw [← hM6, st_ne g2, st_ne g1]
  have f7 : ∀ q, ¬ q = 43 → ¬ q = 44 → ¬ q = 45 → ¬ q = 46 → ¬ q = 47 → ¬ q = 48 → f_D_becomes M6 q = M6 q := by
    intro q g1 g2 g3 g4 g5 g6
    simp only [f_D_becomes, st_ap, g1, g2, g3, g4, g5, g6, ↓reduceIte]
  have z : ∀ q, (q < 25 ∨ 49 ≤ q) → M6 q = A q := by
    intro q hq
    rw [f6 q (by omega) (by omega), f5 q (by omega) (by omega), f4 q (by omega) (by omega), f3 q (by omega) (by omega) (by omega) (by omega) (by omega), f2 q (by omega), wq q (by omega) (by omega) (by omega) (by omega)]
  refine ⟨f_D_becomes M6, ?_, ⟨?_, ?_, ?_, ?_, ?_, ?_, ?_, ?_, ?_, ?_, ?_, ?_, ?_, ?_, ?_, ?_, ?_, ?_, ?_, ?_⟩, ?_⟩
  · simp (disch := omega) only [f_A_becomes, hM, x7, n_lit, n_mul, n_le, n_cl, Nat.reduceEqDiff, Nat.reduceAdd, Nat.reduceMul, ite_true, ite_false, if_true, if_false, eq_self_iff_true, ↓reduceIte, and_self, and_true, true_and, and_false, false_and, not_true_eq_false, not_false_eq_true, if_pos, if_neg, jg_t, hM2, e1, e2, Option.bind_some, st_ap, hM5, e3]
  · intro i hi
    show f_D_becomes M6 26 i = A 2 i
    rw [f7 26 (by decide) (by decide) (by decide) (by decide) (by decide) (by decide), f6 26 (by decide) (by decide), f5 26 (by decide) (by decide), f4 26 (by decide) (by decide), f3 26 (by decide) (by decide) (by decide) (by decide) (by decide), f2 26 (by decide), w2 i hi]
  · intro i hi
    show f_D_becomes M6 27 i = A 3 i
    rw [f7 27 (by decide) (by decide) (by decide) (by decide) (by decide) (by decide), f6 27 (by decide) (by decide), f5 27 (by decide) (by decide), f4 27 (by decide) (by decide), f3 27 (by decide) (by decide) (by decide) (by decide) (by decide), f2 27 (by decide), w3 i hi]
  · intro i hi
    show f_D_becomes M6 28 i = A 4 i
    rw [f7 28 (by decide) (by decide) (by decide) (by decide) (by decide) (by decide), f6 28 (by decide) (by decide), f5 28 (by decide) (by decide), f4 28 (by decide) (by decide), f3 28 (by decide) (by decide) (by decide) (by decide) (by decide), f2 28 (by decide), w4 i hi]
  · intro i hi
    show f_D_becomes M6 29 i = A 5 i
    rw [f7 29 (by decide) (by decide) (by decide) (by decide) (by decide) (by decide), f6 29 (by decide) (by decide), f5 29 (by decide) (by decide), f4 29 (by decide) (by decide), f3 29 (by decide) (by decide) (by decide) (by decide) (by decide), f2 29 (by decide), w5 i hi]
  · intro L hL hL2 j hj
    have hL3 : A 2 7 = nI L := hL2
    have hLb : L = b := by rw [h2, n_eq (by omega) (by omega)] at hL3; exact hL3.symm
    subst hLb
    show f_D_becomes M6 30 j = A 6 j
    rw [f7 30 (by decide) (by decide) (by decide) (by decide) (by decide) (by decide), f6 30 (by decide) (by decide), f5 30 (by decide) (by decide), f4 30 (by decide) (by decide), f3 30 (by decide) (by decide) (by decide) (by decide) (by decide), ← hM2, st_same, cp_in hj, wq 6 (by decide) (by decide) (by decide) (by decide)]
  · intro i hi
    show f_D_becomes M6 31 i = A 7 i
    rw [f7 31 (by decide) (by decide) (by decide) (by decide) (by decide) (by decide), f6 31 (by decide) (by decide), f5 31 (by decide) (by decide), f4 31 (by decide) (by decide), ← hM3, st_ne (by decide), st_ne (by decide), st_ne (by decide), st_ne (by decide), st_same]
    have : i = 0 ∨ i = 1 := by omega
    rcases this with rfl | rfl
    · rw [ud_ne (by decide), ud_eq rfl, h0]
    · rw [ud_eq rfl, h1]
  · intro n' hn' hn2 i hi
    have hn3 : A 7 0 = nI n' := hn2
    have hnn : n' = n := by rw [h0, n_eq (by omega) (by omega)] at hn3; exact hn3.symm
    subst hnn
    refine ⟨?_, ?_, ?_⟩
    · show f_D_becomes M6 32 i = A 8 i
      rw [f7 32 (by decide) (by decide) (by decide) (by decide) (by decide) (by decide), f6 32 (by decide) (by decide), f5 32 (by decide) (by decide), f4 32 (by decide) (by decide), ← hM3, st_ne (by decide), st_ne (by decide), st_ne (by decide), st_same, cp_in hi, f2 8 (by decide), wq 8 (by decide) (by decide) (by decide) (by decide)]
    · show f_D_becomes M6 33 i = A 9 i
      rw [f7 33 (by decide) (by decide) (by decide) (by decide) (by decide) (by decide), f6 33 (by decide) (by decide), f5 33 (by decide) (by decide), f4 33 (by decide) (by decide), ← hM3, st_ne (by decide), st_ne (by decide), st_same, cp_in hi, f2 9 (by decide), wq 9 (by decide) (by decide) (by decide) (by decide)]
    · show f_D_becomes M6 34 i = A 10 i
      rw [f7 34 (by decide) (by decide) (by decide) (by decide) (by decide) (by decide), f6 34 (by decide) (by decide), f5 34 (by decide) (by decide), f4 34 (by decide) (by decide), ← hM3, st_ne (by decide), st_same, cp_in hi, f2 10 (by decide), wq 10 (by decide) (by decide) (by decide) (by decide)]
  · intro n' hn' hn2 i hi
    have hn3 : A 7 1 = nI n' := hn2
    have hnn : n' = l := by rw [h1, n_eq (by omega) (by omega)] at hn3; exact hn3.symm
    subst hnn
    show f_D_becomes M6 35 i = A 11 i
    rw [f7 35 (by decide) (by decide) (by decide) (by decide) (by decide) (by decide), f6 35 (by decide) (by decide), f5 35 (by decide) (by decide), f4 35 (by decide) (by decide), ← hM3, st_same, cp_in hi, f2 11 (by decide), wq 11 (by decide) (by decide) (by decide) (by decide)]
  · show f_D_becomes M6 38 0 = A 14 0
    rw [f7 38 (by decide) (by decide) (by decide) (by decide) (by decide) (by decide), f6 38 (by decide) (by decide), f5 38 (by decide) (by decide), ← hM4, st_ne (by decide), st_same, ud_eq rfl, f3 14 (by decide) (by decide) (by decide) (by decide) (by decide), f2 14 (by decide), wq 14 (by decide) (by decide) (by decide) (by decide)]
  · intro i hi
    show f_D_becomes M6 39 i = A 15 i
    rw [f7 39 (by decide) (by decide) (by decide) (by decide) (by decide) (by decide), f6 39 (by decide) (by decide), f5 39 (by decide) (by decide), ← hM4, st_same, cp_in hi, f3 15 (by decide) (by decide) (by decide) (by decide) (by decide), f2 15 (by decide), wq 15 (by decide) (by decide) (by decide) (by decide)]
  · show f_D_becomes M6 25 5 = A 1 5
    rw [f7 25 (by decide) (by decide) (by decide) (by decide) (by decide) (by decide), f6 25 (by decide) (by decide), ← hM5, st_same, ud_eq rfl, f4 1 (by decide) (by decide), f3 1 (by decide) (by decide) (by decide) (by decide) (by decide), f2 1 (by decide), wq 1 (by decide) (by decide) (by decide) (by decide)]
  · intro i hi
    show f_D_becomes M6 40 i = A 16 i
    rw [f7 40 (by decide) (by decide) (by decide) (by decide) (by decide) (by decide), f6 40 (by decide) (by decide), ← hM5, st_ne (by decide), st_same, cp_in hi, f4 16 (by decide) (by decide), f3 16 (by decide) (by decide) (by decide) (by decide) (by decide), f2 16 (by decide), wq 16 (by decide) (by decide) (by decide) (by decide)]
  · show f_D_becomes M6 41 0 = A 17 0
    rw [f7 41 (by decide) (by decide) (by decide) (by decide) (by decide) (by decide), ← hM6, st_ne (by decide), st_same, ud_eq rfl, f5 17 (by decide) (by decide), f4 17 (by decide) (by decide), f3 17 (by decide) (by decide) (by decide) (by decide) (by decide), f2 17 (by decide), wq 17 (by decide) (by decide) (by decide) (by decide)]
  · intro i hi
    show f_D_becomes M6 42 i = A 18 i
    rw [f7 42 (by decide) (by decide) (by decide) (by decide) (by decide) (by decide), ← hM6, st_same, cp_in hi, f5 18 (by decide) (by decide), f4 18 (by decide) (by decide), f3 18 (by decide) (by decide) (by decide) (by decide) (by decide), f2 18 (by decide), wq 18 (by decide) (by decide) (by decide) (by decide)]
  · intro i hi
    show f_D_becomes M6 43 i = A 19 i
    rw [← z 19 (by omega)]
    have : i = 0 ∨ i = 1 ∨ i = 2 := by omega
    rcases this with rfl | rfl | rfl <;> simp only [f_D_becomes, st_ap, ud_ap, Nat.reduceEqDiff, ↓reduceIte]
  · intro i hi
    show f_D_becomes M6 44 i = A 20 i
    rw [← z 20 (by omega)]
    simp (disch := assumption) only [f_D_becomes, st_ap, Nat.reduceEqDiff, ↓reduceIte, cp_in]
  · intro i hi
    show f_D_becomes M6 45 i = A 21 i
    rw [← z 21 (by omega)]
    simp (disch := assumption) only [f_D_becomes, st_ap, Nat.reduceEqDiff, ↓reduceIte, cp_in]
  · intro i hi
    show f_D_becomes M6 46 i = A 22 i
    rw [← z 22 (by omega)]
    simp (disch := assumption) only [f_D_becomes, st_ap, Nat.reduceEqDiff, ↓reduceIte, cp_in]
  · intro i hi
    show f_D_becomes M6 47 i = A 23 i
    rw [← z 23 (by omega)]
    simp (disch := assumption) only [f_D_becomes, st_ap, Nat.reduceEqDiff, ↓reduceIte, cp_in]
  · intro i hi
    show f_D_becomes M6 48 i = A 24 i
    rw [← z 24 (by omega)]
    simp (disch := assumption) only [f_D_becomes, st_ap, Nat.reduceEqDiff, ↓reduceIte, cp_in]
  · intro q hq
    rw [f7 q (by omega) (by omega) (by omega) (by omega) (by omega) (by omega), z q hq]
theorem k_Lb {M : jp_M} {n l : Nat} (hn : n ≤ 16) (hl : l ≤ 400) (h0 : M 31 0 = nI n) (h1 : M 31 1 = nI l) : f_L_becomes_2 M = some (jp_set (jp_set (jp_set (jp_set (jp_set M 7 (upd (upd (M 7) 0 (nI n)) 1 (nI l))) 8 (va_cpy (M 32) (M 8) 0 0 n)) 9 (va_cpy (M 33) (M 9) 0 0 n)) 10 (va_cpy (M 34) (M 10) 0 0 n)) 11 (va_cpy (M 35) (M 11) 0 0 l)) := by
  simp (disch := omega) only [f_L_becomes_2, n_lit, n_le, n_cl, Nat.reduceEqDiff, Nat.reduceAdd, Nat.reduceMul, ite_true, ite_false, if_true, if_false, eq_self_iff_true, ↓reduceIte, and_self, and_true, true_and, and_false, false_and, not_true_eq_false, not_false_eq_true, if_pos, if_neg, st_st, st_ap, ud_ap, h0, h1, jg_t]
theorem k_Pb (M : jp_M) : f_S_becomes_4 M = some (jp_set (jp_set M 14 (upd (M 14) 0 (M 38 0))) 15 (va_cpy (M 39) (M 15) 0 0 112)) := by
  simp (disch := omega) only [f_S_becomes_4, n_lit, n_min, Nat.min_self, n_le, n_cl, Nat.reduceEqDiff, Nat.reduceAdd, Nat.reduceMul, ite_true, ite_false, if_true, if_false, eq_self_iff_true, ↓reduceIte, and_self, and_true, true_and, and_false, false_and, not_true_eq_false, not_false_eq_true, if_pos, if_neg, st_ap, jg_t]
theorem k_Cb (M : jp_M) : f_S_becomes_5 M = some (jp_set (jp_set M 17 (upd (M 17) 0 (M 41 0))) 18 (va_cpy (M 42) (M 18) 0 0 32)) := by
  simp (disch := omega) only [f_S_becomes_5, n_lit, n_min, Nat.min_self, n_le, n_cl, Nat.reduceEqDiff, Nat.reduceAdd, Nat.reduceMul, ite_true, ite_false, if_true, if_false, eq_self_iff_true, ↓reduceIte, and_self, and_true, true_and, and_false, false_and, not_true_eq_false, not_false_eq_true, if_pos, if_neg, st_ap, jg_t]
theorem k_Ab {A : jp_M} {n l b : Nat} (hn : n ≤ 16) (hl : l ≤ 400) (hb : b ≤ 150) (h0 : A 31 0 = nI n) (h1 : A 31 1 = nI l) (h2 : A 26 7 = nI b) : ∃ A', f_A_becomes_1 A = some A' ∧ cA (fun q => A (q + 24)) A' ∧ ∀ q, q < 1 ∨ 25 ≤ q → A' q = A q := by
  obtain ⟨w1, w2, w3, w4, w5⟩ := c_W_becomes_15 A
  generalize hM : f_W_becomes_15 A = M at w1 w2 w3 w4 w5
  have wq : ∀ q, ¬ q = 2 → ¬ q = 3 → ¬ q = 4 → ¬ q = 5 → M q = A q := w1
  have x7 : M 2 7 = nI b := by rw [w2 7 (by omega)]; exact h2
  have e1 := k_Lb (M := jp_set M 6 (va_cpy (M 30) (M 6) 0 0 (4 * b))) hn hl (by rw [st_ne (by decide), wq 31 (by decide) (by decide) (by decide) (by decide), h0]) (by rw [st_ne (by decide), wq 31 (by decide) (by decide) (by decide) (by decide), h1])
  generalize hM2 : jp_set M 6 (va_cpy (M 30) (M 6) 0 0 (4 * b)) = M2 at e1
  generalize hM3 : jp_set (jp_set (jp_set (jp_set (jp_set M2 7 (upd (upd (M2 7) 0 (nI n)) 1 (nI l))) 8 (va_cpy (M2 32) (M2 8) 0 0 n)) 9 (va_cpy (M2 33) (M2 9) 0 0 n)) 10 (va_cpy (M2 34) (M2 10) 0 0 n)) 11 (va_cpy (M2 35) (M2 11) 0 0 l) = M3 at e1
  have e2 := k_Pb M3
  generalize hM4 : jp_set (jp_set M3 14 (upd (M3 14) 0 (M3 38 0))) 15 (va_cpy (M3 39) (M3 15) 0 0 112) = M4 at e2
  generalize hM5 : jp_set (jp_set M4 16 (va_cpy (M4 40) (M4 16) 0 0 10)) 1 (upd (M4 1) 5 (M4 25 5)) = M5
  have e3 := k_Cb M5
  generalize hM6 : jp_set (jp_set M5 17 (upd (M5 17) 0 (M5 41 0))) 18 (va_cpy (M5 42) (M5 18) 0 0 32) = M6 at e3
  have f2 : ∀ q, ¬ q = 6 → M2 q = M q := fun q h => by rw [← hM2, st_ne h]
  have f3 : ∀ q, ¬ q = 7 → ¬ q = 8 → ¬ q = 9 → ¬ q = 10 → ¬ q = 11 → M3 q = M2 q := fun q g1 g2 g3 g4 g5 => by rw [← hM3, st_ne g5, st_ne g4, st_ne g3, st_ne g2, st_ne g1]
  have f4 : ∀ q, ¬ q = 14 → ¬ q = 15 → M4 q = M3 q := fun q g1 g2 => by rw [← hM4, st_ne g2, st_ne g1]
  have f5 : ∀ q, ¬ q = 16 → ¬ q = 1 → M5 q = M4 q := fun q g1 g2 => by rw [← hM5, st_ne g2, st_ne g1]
  have f6 : ∀ q, ¬ q = 17 → ¬ q = 18 → M6 q = M5 q := fun q g1 g2 => by rw [← hM6, st_ne g2, st_ne g1]
  have f7 : ∀ q, ¬ q = 19 → ¬ q = 20 → ¬ q = 21 → ¬ q = 22 → ¬ q = 23 → ¬ q = 24 → f_D_becomes_1 M6 q = M6 q := by
    intro q g1 g2 g3 g4 g5 g6
    simp only [f_D_becomes_1, st_ap, g1, g2, g3, g4, g5, g6, ↓reduceIte]
  have z : ∀ q, (q < 1 ∨ 25 ≤ q) → M6 q = A q := by
    intro q hq
    rw [f6 q (by omega) (by omega), f5 q (by omega) (by omega), f4 q (by omega) (by omega), f3 q (by omega) (by omega) (by omega) (by omega) (by omega), f2 q (by omega), wq q (by omega) (by omega) (by omega) (by omega)]
  refine ⟨f_D_becomes_1 M6, ?_, ⟨?_, ?_, ?_, ?_, ?_, ?_, ?_, ?_, ?_, ?_, ?_, ?_, ?_, ?_, ?_, ?_, ?_, ?_, ?_, ?_⟩, ?_⟩
  · simp (disch := omega) only [f_A_becomes_1, hM, x7, n_lit, n_mul, n_le, n_cl, Nat.reduceEqDiff, Nat.reduceAdd, Nat.reduceMul, ite_true, ite_false, if_true, if_false, eq_self_iff_true, ↓reduceIte, and_self, and_true, true_and, and_false, false_and, not_true_eq_false, not_false_eq_true, if_pos, if_neg, jg_t, hM2, e1, e2, Option.bind_some, st_ap, hM5, e3]
  · intro i hi
    show f_D_becomes_1 M6 2 i = A 26 i
    rw [f7 2 (by decide) (by decide) (by decide) (by decide) (by decide) (by decide), f6 2 (by decide) (by decide), f5 2 (by decide) (by decide), f4 2 (by decide) (by decide), f3 2 (by decide) (by decide) (by decide) (by decide) (by decide), f2 2 (by decide), w2 i hi]
  · intro i hi
    show f_D_becomes_1 M6 3 i = A 27 i
    rw [f7 3 (by decide) (by decide) (by decide) (by decide) (by decide) (by decide), f6 3 (by decide) (by decide), f5 3 (by decide) (by decide), f4 3 (by decide) (by decide), f3 3 (by decide) (by decide) (by decide) (by decide) (by decide), f2 3 (by decide), w3 i hi]
  · intro i hi
    show f_D_becomes_1 M6 4 i = A 28 i
    rw [f7 4 (by decide) (by decide) (by decide) (by decide) (by decide) (by decide), f6 4 (by decide) (by decide), f5 4 (by decide) (by decide), f4 4 (by decide) (by decide), f3 4 (by decide) (by decide) (by decide) (by decide) (by decide), f2 4 (by decide), w4 i hi]
  · intro i hi
    show f_D_becomes_1 M6 5 i = A 29 i
    rw [f7 5 (by decide) (by decide) (by decide) (by decide) (by decide) (by decide), f6 5 (by decide) (by decide), f5 5 (by decide) (by decide), f4 5 (by decide) (by decide), f3 5 (by decide) (by decide) (by decide) (by decide) (by decide), f2 5 (by decide), w5 i hi]
  · intro L hL hL2 j hj
    have hL3 : A 26 7 = nI L := hL2
    have hLb : L = b := by rw [h2, n_eq (by omega) (by omega)] at hL3; exact hL3.symm
    subst hLb
    show f_D_becomes_1 M6 6 j = A 30 j
    rw [f7 6 (by decide) (by decide) (by decide) (by decide) (by decide) (by decide), f6 6 (by decide) (by decide), f5 6 (by decide) (by decide), f4 6 (by decide) (by decide), f3 6 (by decide) (by decide) (by decide) (by decide) (by decide), ← hM2, st_same, cp_in hj, wq 30 (by decide) (by decide) (by decide) (by decide)]
  · intro i hi
    show f_D_becomes_1 M6 7 i = A 31 i
    rw [f7 7 (by decide) (by decide) (by decide) (by decide) (by decide) (by decide), f6 7 (by decide) (by decide), f5 7 (by decide) (by decide), f4 7 (by decide) (by decide), ← hM3, st_ne (by decide), st_ne (by decide), st_ne (by decide), st_ne (by decide), st_same]
    have : i = 0 ∨ i = 1 := by omega
    rcases this with rfl | rfl
    · rw [ud_ne (by decide), ud_eq rfl, h0]
    · rw [ud_eq rfl, h1]
  · intro n' hn' hn2 i hi
    have hn3 : A 31 0 = nI n' := hn2
    have hnn : n' = n := by rw [h0, n_eq (by omega) (by omega)] at hn3; exact hn3.symm
    subst hnn
    refine ⟨?_, ?_, ?_⟩
    · show f_D_becomes_1 M6 8 i = A 32 i
      rw [f7 8 (by decide) (by decide) (by decide) (by decide) (by decide) (by decide), f6 8 (by decide) (by decide), f5 8 (by decide) (by decide), f4 8 (by decide) (by decide), ← hM3, st_ne (by decide), st_ne (by decide), st_ne (by decide), st_same, cp_in hi, f2 32 (by decide), wq 32 (by decide) (by decide) (by decide) (by decide)]
    · show f_D_becomes_1 M6 9 i = A 33 i
      rw [f7 9 (by decide) (by decide) (by decide) (by decide) (by decide) (by decide), f6 9 (by decide) (by decide), f5 9 (by decide) (by decide), f4 9 (by decide) (by decide), ← hM3, st_ne (by decide), st_ne (by decide), st_same, cp_in hi, f2 33 (by decide), wq 33 (by decide) (by decide) (by decide) (by decide)]
    · show f_D_becomes_1 M6 10 i = A 34 i
      rw [f7 10 (by decide) (by decide) (by decide) (by decide) (by decide) (by decide), f6 10 (by decide) (by decide), f5 10 (by decide) (by decide), f4 10 (by decide) (by decide), ← hM3, st_ne (by decide), st_same, cp_in hi, f2 34 (by decide), wq 34 (by decide) (by decide) (by decide) (by decide)]
  · intro n' hn' hn2 i hi
    have hn3 : A 31 1 = nI n' := hn2
    have hnn : n' = l := by rw [h1, n_eq (by omega) (by omega)] at hn3; exact hn3.symm
    subst hnn
    show f_D_becomes_1 M6 11 i = A 35 i
    rw [f7 11 (by decide) (by decide) (by decide) (by decide) (by decide) (by decide), f6 11 (by decide) (by decide), f5 11 (by decide) (by decide), f4 11 (by decide) (by decide), ← hM3, st_same, cp_in hi, f2 35 (by decide), wq 35 (by decide) (by decide) (by decide) (by decide)]
  · show f_D_becomes_1 M6 14 0 = A 38 0
    rw [f7 14 (by decide) (by decide) (by decide) (by decide) (by decide) (by decide), f6 14 (by decide) (by decide), f5 14 (by decide) (by decide), ← hM4, st_ne (by decide), st_same, ud_eq rfl, f3 38 (by decide) (by decide) (by decide) (by decide) (by decide), f2 38 (by decide), wq 38 (by decide) (by decide) (by decide) (by decide)]
  · intro i hi
    show f_D_becomes_1 M6 15 i = A 39 i
    rw [f7 15 (by decide) (by decide) (by decide) (by decide) (by decide) (by decide), f6 15 (by decide) (by decide), f5 15 (by decide) (by decide), ← hM4, st_same, cp_in hi, f3 39 (by decide) (by decide) (by decide) (by decide) (by decide), f2 39 (by decide), wq 39 (by decide) (by decide) (by decide) (by decide)]
  · show f_D_becomes_1 M6 1 5 = A 25 5
    rw [f7 1 (by decide) (by decide) (by decide) (by decide) (by decide) (by decide), f6 1 (by decide) (by decide), ← hM5, st_same, ud_eq rfl, f4 25 (by decide) (by decide), f3 25 (by decide) (by decide) (by decide) (by decide) (by decide), f2 25 (by decide), wq 25 (by decide) (by decide) (by decide) (by decide)]
  · intro i hi
    show f_D_becomes_1 M6 16 i = A 40 i
    rw [f7 16 (by decide) (by decide) (by decide) (by decide) (by decide) (by decide), f6 16 (by decide) (by decide), ← hM5, st_ne (by decide), st_same, cp_in hi, f4 40 (by decide) (by decide), f3 40 (by decide) (by decide) (by decide) (by decide) (by decide), f2 40 (by decide), wq 40 (by decide) (by decide) (by decide) (by decide)]
  · show f_D_becomes_1 M6 17 0 = A 41 0
    rw [f7 17 (by decide) (by decide) (by decide) (by decide) (by decide) (by decide), ← hM6, st_ne (by decide), st_same, ud_eq rfl, f5 41 (by decide) (by decide), f4 41 (by decide) (by decide), f3 41 (by decide) (by decide) (by decide) (by decide) (by decide), f2 41 (by decide), wq 41 (by decide) (by decide) (by decide) (by decide)]
  · intro i hi
    show f_D_becomes_1 M6 18 i = A 42 i
    rw [f7 18 (by decide) (by decide) (by decide) (by decide) (by decide) (by decide), ← hM6, st_same, cp_in hi, f5 42 (by decide) (by decide), f4 42 (by decide) (by decide), f3 42 (by decide) (by decide) (by decide) (by decide) (by decide), f2 42 (by decide), wq 42 (by decide) (by decide) (by decide) (by decide)]
  · intro i hi
    show f_D_becomes_1 M6 19 i = A 43 i
    rw [← z 43 (by omega)]
    have : i = 0 ∨ i = 1 ∨ i = 2 := by omega
    rcases this with rfl | rfl | rfl <;> simp only [f_D_becomes_1, st_ap, ud_ap, Nat.reduceEqDiff, ↓reduceIte]
  · intro i hi
    show f_D_becomes_1 M6 20 i = A 44 i
    rw [← z 44 (by omega)]
    simp (disch := assumption) only [f_D_becomes_1, st_ap, Nat.reduceEqDiff, ↓reduceIte, cp_in]
  · intro i hi
    show f_D_becomes_1 M6 21 i = A 45 i
    rw [← z 45 (by omega)]
    simp (disch := assumption) only [f_D_becomes_1, st_ap, Nat.reduceEqDiff, ↓reduceIte, cp_in]
  · intro i hi
    show f_D_becomes_1 M6 22 i = A 46 i
    rw [← z 46 (by omega)]
    simp (disch := assumption) only [f_D_becomes_1, st_ap, Nat.reduceEqDiff, ↓reduceIte, cp_in]
  · intro i hi
    show f_D_becomes_1 M6 23 i = A 47 i
    rw [← z 47 (by omega)]
    simp (disch := assumption) only [f_D_becomes_1, st_ap, Nat.reduceEqDiff, ↓reduceIte, cp_in]
  · intro i hi
    show f_D_becomes_1 M6 24 i = A 48 i
    rw [← z 48 (by omega)]
    simp (disch := assumption) only [f_D_becomes_1, st_ap, Nat.reduceEqDiff, ↓reduceIte, cp_in]
  · intro q hq
    rw [f7 q (by omega) (by omega) (by omega) (by omega) (by omega) (by omega), z q hq]
theorem jp_eq {B : jp_M} : ∀ p i, inv p i < 1947 → jpic B p i = B 143 (inv p i) := by
  intro p i h
  unfold inv at *
  split at h
  · split at h
    · rfl
    · rfl
    · rfl
    · rfl
    · rfl
    · rfl
    · rfl
    · rfl
    · omega
  · split at h
    · next h1 => simp only [h1, if_true]; rfl
    · omega
  · split at h
    · next h1 => simp only [h1, if_true]; rfl
    · omega
  · split at h
    · next h1 => simp only [h1, if_true]; rfl
    · omega
  · split at h
    · next h1 => simp only [h1, if_true]; rfl
    · omega
  · split at h
    · next h1 => simp only [h1, if_true]; rfl
    · omega
  · split at h
    · next h1 => simp only [h1, if_true]; rfl
    · omega
  · split at h
    · next h1 => simp only [h1, if_true]; rfl
    · omega
  · split at h
    · next h1 => simp only [h1, if_true]; rfl
    · omega
  · split at h
    · next h1 => simp only [h1, if_true]; rfl
    · omega
  · split at h
    · next h1 => simp only [h1, if_true]; rfl
    · omega
  · split at h
    · next h1 => simp only [h1, if_true]; rfl
    · omega
  · split at h
    · next h1 => simp only [h1, if_true]; rfl
    · omega
  · split at h
    · next h1 => simp only [h1, if_true]; rfl
    · omega
  · split at h
    · next h1 => simp only [h1, if_true]; rfl
    · omega
  · split at h
    · next h1 => simp only [h1, if_true]; rfl
    · omega
  · split at h
    · next h1 => simp only [h1, if_true]; rfl
    · omega
  · split at h
    · next h1 => simp only [h1, if_true]; rfl
    · omega
  · split at h
    · next h1 => simp only [h1, if_true]; rfl
    · omega
  · split at h
    · next h1 => simp only [h1, if_true]; rfl
    · omega
  · split at h
    · next h1 => simp only [h1, if_true]; rfl
    · omega
  · split at h
    · next h1 => simp only [h1, if_true]; rfl
    · omega
  · split at h
    · next h1 => simp only [h1, if_true]; rfl
    · omega
  · split at h
    · next h1 => simp only [h1, if_true]; rfl
    · omega
  · split at h
    · next h1 => simp only [h1, if_true]; rfl
    · omega
  · split at h
    · next h1 => simp only [h1, if_true]; rfl
    · omega
  · split at h
    · next h1 => simp only [h1, if_true]; rfl
    · omega
  · omega
theorem p_image (a : Int32) (ha : a = nI 0 ∨ a = nI 1) {A B : jp_M} (hR : Rel A B) : pOK (f_C_image a A) (f_M_image a B) := by
  have T := Rel_told (x := nI 0) hR
  generalize hB1 : jp_set B 104 (upd (B 104) 0 (nI 0)) = B1 at T
  have hT := T
  obtain ⟨⟨hW, hBk, hLw, hPe, hLe, hCi, hWi, hKi, hPo, hWy, hVo⟩, hPic, hKe, hTa, hFa, hTh, hWd⟩ := T
  rcases ha with rfl | rfl
  · obtain ⟨p1, p2⟩ := hPic
    rcases p2 with p0 | ⟨p0, hp⟩
    · have q0 : B1 104 63 = nI 0 := by rw [← p1, p0]
      simp (disch := omega) only [f_C_image, f_M_image, hB1, jp_c, decide_eq_true_eq, n_lit, Nat.reduceEqDiff, Nat.reduceAdd, Nat.reduceMul, ite_true, ite_false, if_true, if_false, eq_self_iff_true, ↓reduceIte, and_self, and_true, true_and, and_false, false_and, not_true_eq_false, not_false_eq_true, if_pos, if_neg, p0, q0]
      exact pOK_mk rfl hT
    · have q0 : B1 104 63 = nI 1 := by rw [← p1, p0]
      have hp' := hp
      obtain ⟨-, ⟨b, b1, b2, -⟩, ⟨n, ps, n1, n2, -, -, n5, n6, -⟩, -⟩ := hp
      obtain ⟨A', a1, a2, a3⟩ := k_Ab (A := A) n1 n5 b1 n2 n6 b2
      obtain ⟨B', k1, k2⟩ := p_keeps (t := 0) (by omega) B1
      rw [if_pos rfl] at k1
      obtain ⟨-, -, -, k3⟩ := k2
      obtain ⟨k4, k5⟩ := k3 rfl
      have c1 : f_C_image (nI 0) A = some (nI 1, jp_set A' 0 (upd (A' 0) 4 (nI 0))) := by
        simp (disch := omega) only [f_C_image, f_C_forgetKept, jp_c, decide_eq_true_eq, n_lit, n_eq, Nat.reduceEqDiff, Nat.reduceAdd, Nat.reduceMul, ite_true, ite_false, if_true, if_false, eq_self_iff_true, ↓reduceIte, and_self, and_true, true_and, and_false, false_and, not_true_eq_false, not_false_eq_true, if_pos, if_neg, p0, a1, Option.bind_some]
      have c2 : f_M_image (nI 0) B = some (nI 1, jp_set B' 104 (upd (B' 104) 3 (nI 0))) := by
        rw [← k1]
        simp (disch := omega) only [f_M_image, hB1, jp_c, decide_eq_true_eq, n_lit, n_eq, Nat.reduceEqDiff, Nat.reduceAdd, Nat.reduceMul, ite_true, ite_false, if_true, if_false, eq_self_iff_true, ↓reduceIte, and_self, and_true, true_and, and_false, false_and, not_true_eq_false, not_false_eq_true, if_pos, if_neg, q0]
      rw [c1, c2]
      refine pOK_mk rfl ?_
      have hN := rKept_nw hKe
      have u143 : B' 143 = B1 143 := by
        funext j
        rw [k5 143 j (by show ¬ 5000 < 1947; omega) (by omega), st_ne (by decide)]
      have hrA : rA A' B' := by
        refine rA_cg a2 (fun p i hi => ?_) hp'
        rw [jp_eq p i hi, k4 p i hi, st_ne (by decide)]
      have uq : ∀ q, q = 112 ∨ q = 113 → B' q = B1 q := by
        intro q hq
        funext j
        rcases hq with rfl | rfl
        · rw [k5 112 j (by show ¬ 5000 < 1947; omega) (by omega), st_ne (by decide)]
        · rw [k5 113 j (by show ¬ 5000 < 1947; omega) (by omega), st_ne (by decide)]
      have u4 : ∀ i, inv 104 i = 5000 → ¬ i = 62 → ¬ i = 63 → ¬ i = 64 → B' 104 i = B1 104 i := by
        intro i hi i1 i2 i3
        rw [k5 104 i (by omega) (by omega), st_same, ud_ne i3, ud_ne i2, ud_ne i1]
      have u63 : B' 104 63 = nI 1 := by
        rw [k5 104 63 (by show ¬ 5000 < 1947; omega) (by omega), st_same, ud_ne (by decide), ud_eq rfl]
      have v0 : A' 0 = A 0 := a3 0 (by omega)
      refine ⟨?_, ?_, ?_, ?_, ?_, ?_, ?_⟩
      · have : rA (jp_set A' 0 (upd (A' 0) 4 (nI 0))) (jp_set B' 104 (upd (B' 104) 3 (nI 0))) := by
          obtain ⟨hW, hBk, hLw, hPe, hLe, hCi, hWi, hKi, hPo, hWy, hVo⟩ := hrA
          refine ⟨?_, ?_, ?_, ?_, ?_, ?_, ?_, ?_, ?_, ?_, ?_⟩ <;> (simp (disch := omega) only [st_ap, ud_ne, Nat.reduceEqDiff, Nat.reduceAdd, Nat.reduceMul, ite_true, ite_false, if_true, if_false, eq_self_iff_true, ↓reduceIte, and_self, and_true, true_and, and_false, false_and, not_true_eq_false, not_false_eq_true, if_pos, if_neg]; assumption)
        exact this
      · rw [st_same, ud_ne (by decide), v0, st_same, ud_ne (by decide), u63, p0]
        refine ⟨rfl, Or.inr ⟨rfl, ?_⟩⟩
        rw [jpic_eq (B := B1) (by rw [st_ne (by decide), u143])]
        have hq : ∀ f, (fun q => jp_set A' 0 f (q + 24)) = fun q => A' (q + 24) := by
          intro f
          funext q
          rw [st_ne (by omega)]
        rw [hq]
        have hp2 := hp'
        simp only [rA] at hp2 ⊢
        rw [a3 (2 + 24) (by omega), a3 (3 + 24) (by omega), a3 (4 + 24) (by omega), a3 (5 + 24) (by omega), a3 (6 + 24) (by omega), a3 (7 + 24) (by omega), a3 (8 + 24) (by omega), a3 (9 + 24) (by omega), a3 (10 + 24) (by omega), a3 (11 + 24) (by omega), a3 (14 + 24) (by omega), a3 (15 + 24) (by omega), a3 (1 + 24) (by omega), a3 (16 + 24) (by omega), a3 (17 + 24) (by omega), a3 (18 + 24) (by omega), a3 (19 + 24) (by omega), a3 (20 + 24) (by omega), a3 (21 + 24) (by omega), a3 (22 + 24) (by omega), a3 (23 + 24) (by omega), a3 (24 + 24) (by omega)]
        exact hp2
      · rw [st_same, ud_eq rfl, ud_ne (by decide), st_same, ud_eq rfl, v0]
        exact rKept_0 hN
      · have s0 : jp_set A' 0 (upd (A' 0) 4 (nI 0)) 0 11 = A 0 11 := by rw [st_same, ud_ne (by decide), v0]
        have s67 : jp_set A' 0 (upd (A' 0) 4 (nI 0)) 67 = A 67 := by rw [st_ne (by decide), a3 67 (by omega)]
        have s13 : jp_set B' 104 (upd (B' 104) 3 (nI 0)) 104 13 = B1 104 13 := by rw [st_same, ud_ne (by decide), u4 13 rfl (by decide) (by decide) (by decide)]
        have s112 : jp_set B' 104 (upd (B' 104) 3 (nI 0)) 112 = B1 112 := by rw [st_ne (by decide), uq 112 (Or.inl rfl)]
        rw [s0, s67, s13, s112]
        exact hTa
      · rw [st_ne (by decide), a3 68 (by omega), st_same, ud_ne (by decide), ud_ne (by decide), u4 33 rfl (by decide) (by decide) (by decide), u4 34 rfl (by decide) (by decide) (by decide)]
        exact hFa
      · rw [st_ne (by decide), a3 54 (by omega), st_same, ud_ne (by decide), u4 5 rfl (by decide) (by decide) (by decide)]
        exact hTh
      · rw [st_ne (by decide), uq 113 (Or.inr rfl)]
        exact hWd
  · have hA0 : rA A B1 := ⟨hW, hBk, hLw, hPe, hLe, hCi, hWi, hKi, hPo, hWy, hVo⟩
    obtain ⟨b, b1, b2, -⟩ := hBk
    obtain ⟨n, ps, n1, n2, -, -, n5, n6, -⟩ := hLw
    obtain ⟨A', a1, a2, a3⟩ := k_Aa (A := A) n1 n5 b1 n2 n6 b2
    obtain ⟨B', k1, k2⟩ := p_keeps (t := 1) (by omega) B1
    rw [if_neg (by decide)] at k1
    obtain ⟨-, -, k3, -⟩ := k2
    obtain ⟨k4, k5⟩ := k3 rfl
    have c1 : f_C_image (nI 1) A = some (nI 1, jp_set A' 0 (upd (A' 0) 2 (nI 1))) := by
      simp (disch := omega) only [f_C_image, jp_c, decide_eq_true_eq, n_lit, n_eq, Nat.reduceEqDiff, Nat.reduceAdd, Nat.reduceMul, ite_true, ite_false, if_true, if_false, eq_self_iff_true, ↓reduceIte, and_self, and_true, true_and, and_false, false_and, not_true_eq_false, not_false_eq_true, if_pos, if_neg, a1, Option.bind_some]
    have c2 : f_M_image (nI 1) B = some (nI 1, B') := by
      rw [← k1]
      simp (disch := omega) only [f_M_image, hB1, jp_c, decide_eq_true_eq, n_lit, n_eq, Nat.reduceEqDiff, Nat.reduceAdd, Nat.reduceMul, ite_true, ite_false, if_true, if_false, eq_self_iff_true, ↓reduceIte, and_self, and_true, true_and, and_false, false_and, not_true_eq_false, not_false_eq_true, if_pos, if_neg]
    rw [c1, c2]
    refine pOK_mk rfl ?_
    have uq : ∀ q, ¬ q = 143 → ¬ q = 104 → B' q = B1 q := by
      intro q q1 q2
      funext j
      rw [k5 q j q1 (fun e => q2 e.1), st_ne q2]
    have u4 : ∀ i, ¬ i = 62 → ¬ i = 63 → ¬ i = 64 → B' 104 i = B1 104 i := by
      intro i i1 i2 i3
      rw [k5 104 i (by decide) (fun e => i3 e.2), st_same, ud_ne i3, ud_ne i2, ud_ne i1]
    have u63 : B' 104 63 = nI 1 := by
      rw [k5 104 63 (by decide) (by decide), st_same, ud_ne (by decide), ud_eq rfl]
    have hpic : rA (fun q => A' (q + 24)) (jpic B') := by
      refine rA_cg a2 (fun p i hi => ?_) hA0
      rw [jp_eq p i hi, k4 p i hi]
      have hcell : ¬ (p = 104 ∧ (i = 62 ∨ i = 63 ∨ i = 64)) := by
        rintro ⟨rfl, h⟩
        rcases h with rfl | rfl | rfl
        · have : inv 104 62 = 5000 := rfl
          omega
        · have : inv 104 63 = 5000 := rfl
          omega
        · have : inv 104 64 = 5000 := rfl
          omega
      by_cases hp : p = 104
      · subst hp
        rw [st_same, ud_ne (fun e => hcell ⟨rfl, Or.inr (Or.inr e)⟩), ud_ne (fun e => hcell ⟨rfl, Or.inr (Or.inl e)⟩), ud_ne (fun e => hcell ⟨rfl, Or.inl e⟩)]
      · rw [st_ne hp]
    have v : ∀ q, (q < 25 ∨ 49 ≤ q) → ¬ q = 0 → jp_set A' 0 (upd (A' 0) 2 (nI 1)) q = A q := fun q h1 h2 => by rw [st_ne h2, a3 q h1]
    have v0 : ∀ i, ¬ i = 2 → jp_set A' 0 (upd (A' 0) 2 (nI 1)) 0 i = A 0 i := fun i hi => by rw [st_same, ud_ne hi, a3 0 (by omega)]
    refine ⟨?_, ?_, ?_, ?_, ?_, ?_, ?_⟩
    · have := hA0
      simp only [rA] at this ⊢
      simp (disch := first | decide | omega) only [v, uq, u4]
      exact this
    · rw [st_same, ud_eq rfl, u63]
      refine ⟨rfl, Or.inr ⟨rfl, ?_⟩⟩
      have hq : (fun q => jp_set A' 0 (upd (A' 0) 2 (nI 1)) (q + 24)) = fun q => A' (q + 24) := by
        funext q
        rw [st_ne (by omega)]
      rw [hq]
      exact hpic
    · rw [v0 4 (by decide), v0 5 (by decide), v 2 (by omega) (by decide), u4 3 (by decide) (by decide) (by decide), u4 6 (by decide) (by decide) (by decide), u4 7 (by decide) (by decide) (by decide), uq 106 (by decide) (by decide), uq 108 (by decide) (by decide), uq 109 (by decide) (by decide), uq 110 (by decide) (by decide)]
      exact rKept_cg (A := A) (fun q q1 q2 => v q (by omega) (by omega)) hKe
    · rw [v0 11 (by decide), v 67 (by omega) (by decide), u4 13 (by decide) (by decide) (by decide), uq 112 (by decide) (by decide)]; exact hTa
    · rw [v 68 (by omega) (by decide), u4 33 (by decide) (by decide) (by decide), u4 34 (by decide) (by decide) (by decide)]; exact hFa
    · rw [v 54 (by omega) (by decide), u4 5 (by decide) (by decide) (by decide)]; exact hTh
    · rw [uq 113 (by decide) (by decide)]; exact hWd
