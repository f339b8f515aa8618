theorem HH_up {t : Nat} {A B : jp_M} (h : HH t A B) : ∃ P S U, P ≤ 10 ∧ S ≤ 10 ∧ U ≤ 16 ∧ A 2 4 = nI P ∧ A 2 5 = nI S ∧ A 2 6 = nI U ∧ B 104 6 = nI P ∧ B 104 7 = nI S ∧ B 105 5 = nI U ∧ wP (A 3) ∧ wB (A 4) ∧ wR P U (A 5) := by
  obtain ⟨hW, -⟩ := h
  obtain ⟨⟨⟨e0, e1, e2, e3, e4, e5, e6⟩, eP, eB, eR⟩, nW⟩ := hW
  obtain ⟨P, S, U, hP, hS, hU, f4, f5, f6, nP, nB, nR⟩ := nW
  exact ⟨P, S, U, hP, hS, hU, f4, f5, f6, by rw [← e4, f4], by rw [← e5, f5], by rw [← e6, f6], nP, nB, nR⟩
/-- a use begins, and the book tells of it -/
theorem p_begin {t : Nat} (ht : t < 2) {A B : jp_M} (h : HH t A B) {x r lo hi U P : Nat} (f4 : A 2 4 = nI P) (hP : P ≤ 10) (hx : x < P) (hr : r ≤ 9) (hlo : lo ≤ hi) (hhi : hi ≤ 7) (f6 : A 2 6 = nI U) (hU : U < 16)
    (w1 : A 55 1 = nI x) (w3 : A 55 3 = nI r) (w4 : A 55 4 = nI lo) (w5 : A 55 5 = nI hi) (l w m : Int32) :
    ∃ n A' B1 B', f_K_begins l w m A = some (n, A') ∧ f_M_begins (nI x) (A 55 2) (nI r) (nI lo) (nI hi) (A 55 6) l B = some (n, B1) ∧ f_M_notes w n m B1 = some B' ∧ SS t A B A' B' := by
  have h' := h
  obtain ⟨hW, -⟩ := h
  obtain ⟨⟨⟨e0, e1, e2, e3, e4, e5, e6⟩, eP, eB, eR⟩, nW⟩ := hW
  obtain ⟨P', S, U', hP', hS, hU', f4', f5, f6', nP, nB, nR⟩ := nW
  have hPP : P' = P := by
    rw [f4, n_eq (by omega) (by omega)] at f4'; exact f4'.symm
  have hUU : U' = U := by
    rw [f6, n_eq (by omega) (by omega)] at f6'; exact f6'.symm
  subst hPP
  subst hUU
  have g5 : B 105 5 = nI U' := by rw [← e6, f6]
  generalize hWr : upd (upd (A 55) 0 (A 2 3)) 7 l = W
  have W0 : W 0 = A 2 3 := by rw [← hWr, ud_ne (by decide), ud_eq rfl]
  have W7 : W 7 = l := by rw [← hWr, ud_eq rfl]
  have Wk : ∀ k, ¬ k = 0 → ¬ k = 7 → W k = A 55 k := by intro k k0 k7; rw [← hWr, ud_ne k7, ud_ne k0]
  generalize hA1 : jp_set (jp_set (jp_set A 55 W) 5 (va_cpy W (A 5) 0 (8 * U') 8)) 2 (upd (upd (A 2) 6 (nI (U' + 1))) 3 (A 2 3 + nI 1)) = A1
  generalize hG : upd (upd (upd (upd (upd (upd (upd (upd (B 105) (56 + 8 * U') (B 105 4)) (56 + 8 * U' + 1) (nI x)) (56 + 8 * U' + 2) (A 55 2)) (56 + 8 * U' + 3) (nI r)) (56 + 8 * U' + 4) (nI lo)) (56 + 8 * U' + 5) (nI hi)) (56 + 8 * U' + 6) (A 55 6)) (56 + 8 * U' + 7) l = G
  have Gn : ∀ k, k < 56 + 8 * U' ∨ 56 + 8 * U' + 8 ≤ k → G k = B 105 k := by
    intro k hk; rw [← hG]; simp (disch := omega) only [ud_ne]
  generalize hB1 : jp_set B 105 (upd (upd G 5 (nI (U' + 1))) 4 (B 105 4 + nI 1)) = B1
  have c2 : f_M_begins (nI x) (A 55 2) (nI r) (nI lo) (nI hi) (A 55 6) l B = some (B 105 4, B1) := by
    rw [← hB1, ← hG]
    simp (disch := omega) only [f_M_begins, f_M_useAt, n_lit, n_neg1, n_add, n_mul, n_sub, n_div, n_mod, n_le, n_lt, n_eq, n_cl, n_in, Nat.reduceEqDiff, Nat.reduceAdd, Nat.reduceMul, ite_true, ite_false, if_true, if_false, eq_self_iff_true, ↓reduceIte, and_self, and_true, true_and, and_false, false_and, not_true_eq_false, not_false_eq_true, if_pos, if_neg, g5, Nat.add_zero, jg_t, st_st, st_ap, ud_ne, ud_eq]
  have c1 : f_K_begins l w m A = (f_A_writes w (A 2 3) m A1).bind fun q7 => some (A 2 3, q7) := by
    rw [← hA1, ← hWr]
    simp (disch := omega) only [f_K_begins, n_lit, n_neg1, n_add, n_mul, n_sub, n_div, n_mod, n_le, n_lt, n_eq, n_cl, n_in, Nat.reduceEqDiff, Nat.reduceAdd, Nat.reduceMul, ite_true, ite_false, if_true, if_false, eq_self_iff_true, ↓reduceIte, and_self, and_true, true_and, and_false, false_and, not_true_eq_false, not_false_eq_true, if_pos, if_neg, f6, Nat.add_zero, jg_t, st_st, st_ap, ud_ne, ud_eq]
  have a : ∀ q, ¬ q = 2 → ¬ q = 5 → ¬ q = 55 → A1 q = A q := by intro q q1 q2 q3; rw [← hA1, st_ne q1, st_ne q2, st_ne q3]
  have a2 : ∀ i, ¬ i = 6 → ¬ i = 3 → A1 2 i = A 2 i := by intro i i1 i2; rw [← hA1, st_same, ud_ne i2, ud_ne i1]
  have a26 : A1 2 6 = nI (U' + 1) := by rw [← hA1, st_same, ud_ne (by decide), ud_eq rfl]
  have a23 : A1 2 3 = A 2 3 + nI 1 := by rw [← hA1, st_same, ud_eq rfl]
  have a5 : ∀ j, A1 5 j = if 8 * U' ≤ j ∧ j < 8 * U' + 8 then W (j - 8 * U') else A 5 j := by
    intro j
    rw [← hA1, st_ne (by decide), st_same]
    simp only [va_cpy, Nat.zero_add]
  have b : ∀ q, ¬ q = 105 → B1 q = B q := by intro q q1; rw [← hB1, st_ne q1]
  have b5 : ∀ k, ¬ k = 5 → ¬ k = 4 → B1 105 k = G k := by intro k k1 k2; rw [← hB1, st_same, ud_ne k2, ud_ne k1]
  have b55 : B1 105 5 = nI (U' + 1) := by rw [← hB1, st_same, ud_ne (by decide), ud_eq rfl]
  have b54 : B1 105 4 = B 105 4 + nI 1 := by rw [← hB1, st_same, ud_eq rfl]
  have hW1 : rWW A1 B1 := by
    unfold rWW
    rw [a 3 (by decide) (by decide) (by decide), a 4 (by decide) (by decide) (by decide), b 108 (by decide), b 109 (by decide), b 110 (by decide), b 104 (by decide)]
    refine ⟨⟨⟨?_, ?_, ?_, ?_, ?_, ?_, ?_⟩, fun i hi => ?_, fun i hi => ?_, fun i hi => ?_⟩, ?_⟩
    · rw [a2 0 (by decide) (by decide), b5 1 (by decide) (by decide), Gn 1 (by omega)]; exact e0
    · rw [a2 1 (by decide) (by decide), b5 0 (by decide) (by decide), Gn 0 (by omega)]; exact e1
    · rw [a2 2 (by decide) (by decide), b5 3 (by decide) (by decide), Gn 3 (by omega)]; exact e2
    · rw [a23, b54, e3]
    · rw [a2 4 (by decide) (by decide)]; exact e4
    · rw [a2 5 (by decide) (by decide)]; exact e5
    · rw [a26, b55]
    · rw [b5 (6 + i) (by omega) (by omega), b5 (26 + i) (by omega) (by omega), b5 (16 + i) (by omega) (by omega), Gn (6 + i) (by omega), Gn (26 + i) (by omega), Gn (16 + i) (by omega)]; exact eP i hi
    · rw [b5 (46 + i) (by omega) (by omega), b5 (36 + i) (by omega) (by omega), Gn (46 + i) (by omega), Gn (36 + i) (by omega)]; exact eB i hi
    · rw [a5 i, b5 (56 + i) (by omega) (by omega)]
      by_cases hj : 8 * U' ≤ i ∧ i < 8 * U' + 8
      · rw [if_pos hj]
        have hk : i - 8 * U' = 0 ∨ i - 8 * U' = 1 ∨ i - 8 * U' = 2 ∨ i - 8 * U' = 3 ∨ i - 8 * U' = 4 ∨ i - 8 * U' = 5 ∨ i - 8 * U' = 6 ∨ i - 8 * U' = 7 := by omega
        rw [← hG]
        rcases hk with k | k | k | k | k | k | k | k <;> rw [k]
        · rw [W0, e3]; simp (disch := omega) only [ud_ne, ud_eq]
        · rw [Wk 1 (by decide) (by decide), w1]; simp (disch := omega) only [ud_ne, ud_eq]
        · rw [Wk 2 (by decide) (by decide)]; simp (disch := omega) only [ud_ne, ud_eq]
        · rw [Wk 3 (by decide) (by decide), w3]; simp (disch := omega) only [ud_ne, ud_eq]
        · rw [Wk 4 (by decide) (by decide), w4]; simp (disch := omega) only [ud_ne, ud_eq]
        · rw [Wk 5 (by decide) (by decide), w5]; simp (disch := omega) only [ud_ne, ud_eq]
        · rw [Wk 6 (by decide) (by decide)]; simp (disch := omega) only [ud_ne, ud_eq]
        · rw [W7]; simp (disch := omega) only [ud_ne, ud_eq]
      · rw [if_neg hj, Gn _ (by omega)]; exact eR i hi
    · refine ⟨P', S, U' + 1, hP, hS, by omega, ?_, ?_, a26, nP, nB, fun i hi1 => ?_⟩
      · rw [a2 4 (by decide) (by decide), f4]
      · rw [a2 5 (by decide) (by decide), f5]
      · rw [a5, a5, a5, a5]
        by_cases hiU : i = U'
        · subst hiU
          rw [if_pos (by omega), if_pos (by omega), if_pos (by omega), if_pos (by omega), show 8 * i + 1 - 8 * i = 1 by omega, show 8 * i + 3 - 8 * i = 3 by omega, show 8 * i + 4 - 8 * i = 4 by omega, show 8 * i + 5 - 8 * i = 5 by omega,
            Wk 1 (by decide) (by decide), Wk 3 (by decide) (by decide), Wk 4 (by decide) (by decide), Wk 5 (by decide) (by decide)]
          exact ⟨x, r, lo, hi, hx, hr, hlo, hhi, w1, w3, w4, w5⟩
        · rw [if_neg (by omega), if_neg (by omega), if_neg (by omega), if_neg (by omega)]
          exact nR i (by omega)
  have s1 : SS t A B A1 B1 := by
    refine SS_w h' (fun q hq => a q ?_ ?_ ?_) (fun q hq => b q ?_) hW1 (a2 7 (by decide) (by decide)) (a 6 (by decide) (by decide) (by decide)) ?_ (b 111 (by decide))
    · rintro rfl; exact hq (by decide)
    · rintro rfl; exact hq (by decide)
    · rintro rfl; exact hq (by decide)
    · rintro rfl; exact hq (by decide)
    · rw [b5 2 (by decide) (by decide), Gn 2 (by omega)]
  obtain ⟨A', B', n1, n2, n3, -⟩ := p_note ht s1.2.2.1 w (A 2 3) m
  refine ⟨A 2 3, A', B1, B', ?_, ?_, n2, SS_trans s1 n3⟩
  · rw [c1, n1, Option.bind_some]
  · rw [c2, e3]
/-- the rows behind go one forth -/
theorem l_over {U : Nat} (hU0 : 0 < U) (hU : U ≤ 16) : ∀ d k, k + d = 56 + 8 * (U - 1) → ∀ n, d < n → ∀ M : jp_M, 56 ≤ k → M 105 5 = nI (U - 1) → ∃ M', f_M_isOver_20 n (nI k) M = some M' ∧ (∀ q, ¬ q = 105 → M' q = M q) ∧ (∀ j, k ≤ j → j < 56 + 8 * (U - 1) → M' 105 j = M 105 (j + 8)) ∧ (∀ j, j < k ∨ 56 + 8 * (U - 1) ≤ j → M' 105 j = M 105 j) := by
  intro d
  induction d with
  | zero =>
    intro k hk n hn M h56 h5
    obtain ⟨n, rfl⟩ : ∃ k, n = k + 1 := ⟨n - 1, by omega⟩
    refine ⟨M, ?_, fun _ _ => rfl, fun j g1 g2 => by omega, fun _ _ => rfl⟩
    simp (disch := omega) only [f_M_isOver_20, f_M_useAt, jp_c, decide_eq_true_eq, n_lit, n_neg1, n_add, n_mul, n_sub, n_div, n_mod, n_le, n_lt, n_eq, n_cl, n_in, Nat.reduceEqDiff, Nat.reduceAdd, Nat.reduceMul, ite_true, ite_false, if_true, if_false, eq_self_iff_true, ↓reduceIte, and_self, and_true, true_and, and_false, false_and, not_true_eq_false, not_false_eq_true, if_pos, if_neg, h5]
  | succ d ih =>
    intro k hk n hn M h56 h5
    obtain ⟨n, rfl⟩ : ∃ k, n = k + 1 := ⟨n - 1, by omega⟩
    obtain ⟨M', e1, e2, e3, e4⟩ := ih (k + 1) (by omega) n (by omega) (jp_set M 105 (upd (M 105) k (M 105 (k + 8)))) (by omega) (by rw [st_same, ud_ne (by omega), h5])
    refine ⟨M', ?_, fun q hq => by rw [e2 q hq, st_ne hq], ?_, ?_⟩
    · rw [← e1]
      simp (disch := omega) only [f_M_isOver_20, f_M_useAt, jp_c, decide_eq_true_eq, n_lit, n_neg1, n_add, n_mul, n_sub, n_div, n_mod, n_le, n_lt, n_eq, n_cl, n_in, Nat.reduceEqDiff, Nat.reduceAdd, Nat.reduceMul, ite_true, ite_false, if_true, if_false, eq_self_iff_true, ↓reduceIte, and_self, and_true, true_and, and_false, false_and, not_true_eq_false, not_false_eq_true, if_pos, if_neg, h5, jg_t]
    · intro j g1 g2
      by_cases hj : j = k
      · subst hj
        rw [e4 j (by omega), st_same, ud_eq rfl]
      · rw [e3 j (by omega) g2, st_same, ud_ne (by omega)]
    · intro j g
      rw [e4 j (by omega), st_same, ud_ne (by omega)]
/-- a use is over -/
theorem p_remove {t : Nat} {A B : jp_M} (h : HH t A B) {i U : Nat} (f6 : A 2 6 = nI U) (hi : i < U) (hU : U ≤ 16) : ∃ A' B', f_W_removes (nI i) A = some A' ∧ f_M_isOver (nI i) B = some B' ∧ SS t A B A' B' ∧ A' 2 6 = nI (U - 1) ∧ (∀ k, ¬ k = 6 → A' 2 k = A 2 k) := by
  have h' := h
  obtain ⟨hW, -⟩ := h
  obtain ⟨⟨⟨e0, e1, e2, e3, e4, e5, e6⟩, eP, eB, eR⟩, nW⟩ := hW
  obtain ⟨P, S, U', hP, hS, hU', f4, f5, f6', nP, nB, nR⟩ := nW
  have hUU : U' = U := by
    rw [f6, n_eq (by omega) (by omega)] at f6'; exact f6'.symm
  subst hUU
  have g5 : B 105 5 = nI U' := by rw [← e6, f6]
  obtain ⟨B', b1, b2, b3, b4⟩ := l_over (U := U') (by omega) hU (8 * (U' - 1) - 8 * i) (56 + 8 * i) (by omega) jFu (jFu_lt (by omega)) (jp_set B 105 (upd (B 105) 5 (nI (U' - 1)))) (by omega) (by rw [st_same, ud_eq rfl])
  have c2 : f_M_isOver (nI i) B = some B' := by
    rw [← b1]
    simp (disch := omega) only [f_M_isOver, f_M_useAt, n_lit, n_neg1, n_add, n_mul, n_sub, n_div, n_mod, n_le, n_lt, n_eq, n_cl, n_in, Nat.reduceEqDiff, Nat.reduceAdd, Nat.reduceMul, ite_true, ite_false, if_true, if_false, eq_self_iff_true, ↓reduceIte, and_self, and_true, true_and, and_false, false_and, not_true_eq_false, not_false_eq_true, if_pos, if_neg, g5]
  have b' : ∀ q, ¬ q = 105 → B' q = B q := fun q hq => by rw [b2 q hq, st_ne hq]
  have bk : ∀ k, ¬ k = 5 → k < 56 → B' 105 k = B 105 k := fun k g1 g2 => by rw [b4 k (by omega), st_same, ud_ne g1]
  have b55 : B' 105 5 = nI (U' - 1) := by rw [b4 5 (by omega), st_same, ud_eq rfl]
  have br : ∀ j, B' 105 (56 + j) = if 8 * i ≤ j ∧ j < 8 * (U' - 1) then B 105 (56 + j + 8) else B 105 (56 + j) := by
    intro j
    by_cases hj : 8 * i ≤ j ∧ j < 8 * (U' - 1)
    · rw [if_pos hj, b3 _ (by omega) (by omega), st_same, ud_ne (by omega)]
    · rw [if_neg hj, b4 _ (by omega), st_same, ud_ne (by omega)]
  generalize hA' : jp_set (jp_set A 5 (va_cpy (A 5) (A 5) (8 * i + 8) (8 * i) (8 * (U' - i - 1)))) 2 (upd (A 2) 6 (nI (U' - 1))) = A'
  have c1 : f_W_removes (nI i) A = some A' := by
    rw [← hA']
    simp (disch := omega) only [f_W_removes, jp_c, decide_eq_true_eq, n_lit, n_neg1, n_add, n_mul, n_sub, n_div, n_mod, n_le, n_lt, n_eq, n_cl, n_in, Nat.reduceEqDiff, Nat.reduceAdd, Nat.reduceMul, ite_true, ite_false, if_true, if_false, eq_self_iff_true, ↓reduceIte, and_self, and_true, true_and, and_false, false_and, not_true_eq_false, not_false_eq_true, if_pos, if_neg, f6, jg_t, st_ap]
  have a : ∀ q, ¬ q = 2 → ¬ q = 5 → A' q = A q := by intro q q1 q2; rw [← hA', st_ne q1, st_ne q2]
  have a2 : ∀ k, ¬ k = 6 → A' 2 k = A 2 k := by intro k k1; rw [← hA', st_same, ud_ne k1]
  have a26 : A' 2 6 = nI (U' - 1) := by rw [← hA', st_same, ud_eq rfl]
  have a5 : ∀ j, A' 5 j = if 8 * i ≤ j ∧ j < 8 * (U' - 1) then A 5 (j + 8) else A 5 j := by
    intro j
    rw [← hA', st_ne (by decide), st_same]
    simp only [va_cpy]
    by_cases hj : 8 * i ≤ j ∧ j < 8 * (U' - 1)
    · rw [if_pos hj, if_pos (by omega), show 8 * i + 8 + (j - 8 * i) = j + 8 by omega]
    · rw [if_neg hj, if_neg (by omega)]
  refine ⟨A', B', c1, c2, ?_, a26, a2⟩
  refine SS_w h' (fun q hq => a q ?_ ?_) (fun q hq => b' q ?_) ?_ (a2 7 (by decide)) (a 6 (by decide) (by decide)) (bk 2 (by decide) (by decide)) (b' 111 (by decide))
  · rintro rfl; exact hq (by decide)
  · rintro rfl; exact hq (by decide)
  · rintro rfl; exact hq (by decide)
  · unfold rWW
    rw [a 3 (by decide) (by decide), a 4 (by decide) (by decide), b' 108 (by decide), b' 109 (by decide), b' 110 (by decide), b' 104 (by decide)]
    refine ⟨⟨⟨?_, ?_, ?_, ?_, ?_, ?_, ?_⟩, fun k hk => ?_, fun k hk => ?_, fun k hk => ?_⟩, ?_⟩
    · rw [a2 0 (by decide), bk 1 (by decide) (by decide)]; exact e0
    · rw [a2 1 (by decide), bk 0 (by decide) (by decide)]; exact e1
    · rw [a2 2 (by decide), bk 3 (by decide) (by decide)]; exact e2
    · rw [a2 3 (by decide), bk 4 (by decide) (by decide)]; exact e3
    · rw [a2 4 (by decide)]; exact e4
    · rw [a2 5 (by decide)]; exact e5
    · rw [a26, b55]
    · rw [bk (6 + k) (by omega) (by omega), bk (26 + k) (by omega) (by omega), bk (16 + k) (by omega) (by omega)]; exact eP k hk
    · rw [bk (46 + k) (by omega) (by omega), bk (36 + k) (by omega) (by omega)]; exact eB k hk
    · rw [a5 k, br k]
      by_cases hj : 8 * i ≤ k ∧ k < 8 * (U' - 1)
      · rw [if_pos hj, if_pos hj, eR (k + 8) (by omega), show 56 + (k + 8) = 56 + k + 8 by omega]
      · rw [if_neg hj, if_neg hj, eR k hk]
    · refine ⟨P, S, U' - 1, hP, hS, by omega, ?_, ?_, a26, nP, nB, fun k hk => ?_⟩
      · rw [a2 4 (by decide), f4]
      · rw [a2 5 (by decide), f5]
      · rw [a5, a5, a5, a5]
        by_cases hki : k < i
        · rw [if_neg (by omega), if_neg (by omega), if_neg (by omega), if_neg (by omega)]
          exact nR k (by omega)
        · rw [if_pos (by omega), if_pos (by omega), if_pos (by omega), if_pos (by omega)]
          have := nR (k + 1) (by omega)
          rw [show 8 * (k + 1) + 1 = 8 * k + 1 + 8 by omega, show 8 * (k + 1) + 3 = 8 * k + 3 + 8 by omega, show 8 * (k + 1) + 4 = 8 * k + 4 + 8 by omega, show 8 * (k + 1) + 5 = 8 * k + 5 + 8 by omega] at this
          exact this
