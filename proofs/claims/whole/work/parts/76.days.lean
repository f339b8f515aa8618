theorem HH_bird {t : Nat} {A B : jp_M} (h : HH t A B) : ∀ i, i < 10 → ∃ x y, x ≤ 9 ∧ y ≤ 9 ∧ A 4 (3 * i) = nI x ∧ A 4 (3 * i + 1) = nI y ∧ B 105 (46 + i) = nI x ∧ B 110 i = nI y := by
  obtain ⟨hW, -⟩ := h
  obtain ⟨⟨⟨e0, e1, e2, e3, e4, e5, e6⟩, eP, eB, eR⟩, nW⟩ := hW
  obtain ⟨P, S, U, hP, hS, hU, f4, f5, f6, nP, nB, nR⟩ := nW
  intro i hi
  obtain ⟨x, y, q1, q2, q3, q4⟩ := nB i hi
  obtain ⟨b1, b2, b3⟩ := eB i hi
  exact ⟨x, y, q1, q2, q3, q4, by rw [← b1, q3], by rw [← b2, q4]⟩
theorem HH_lease {t : Nat} {A B : jp_M} (h : HH t A B) : ∀ r, r < 10 → ∃ s, s ≤ 10 ∧ B 123 r = nI s ∧ A 16 r = nI s - nI 1 := by
  obtain ⟨-, -, -, -, -, h6, -⟩ := h
  intro r hr
  obtain ⟨s, s1, s2, s3⟩ := h6.2 r hr
  exact ⟨s, s1, s2, s3⟩
/-- uses without leave are fined -/
theorem l_fines {t : Nat} (ht : t < 2) {bf : Nat} (hbf : bf ≤ 16) : ∀ d i nn U, i + d = U → nn + d = bf → U ≤ bf → ∀ n m, d < n → d < m → ∀ A B, HH t A B → A 2 6 = nI U → ¬ f_M_isSummer B = nI 0 → ∃ A' B' c', f_K_fines_12 n (nI bf) (nI i) (nI nn) A = some (nI c', A') ∧ f_M_goesBy_8 m (nI (bf - U)) (nI i) B = f_M_goesBy_47 (nI c') B' ∧ SS t A B A' B' := by
  intro d
  induction d with
  | zero =>
    intro i nn U hi hnn hU n m hn hm A B h f6 hs
    obtain ⟨n, rfl⟩ : ∃ k, n = k + 1 := ⟨n - 1, by omega⟩
    obtain ⟨m, rfl⟩ : ∃ k, m = k + 1 := ⟨m - 1, by omega⟩
    have g5 : B 105 5 = nI U := by rw [← h.1.1.1.2.2.2.2.2.2, f6]
    refine ⟨A, B, bf - U, ?_, ?_, SS_refl h⟩
    · simp (disch := omega) only [f_K_fines_12, jp_c, decide_eq_true_eq, n_lit, n_neg1, n_add, n_mul, n_sub, n_div, n_mod, n_le, n_lt, n_eq, n_cl, n_in, Nat.reduceEqDiff, Nat.reduceAdd, Nat.reduceMul, ite_true, ite_false, if_true, if_false, eq_self_iff_true, ↓reduceIte, and_self, and_true, true_and, and_false, false_and, not_true_eq_false, not_false_eq_true, if_pos, if_neg, f6]
    · simp (disch := omega) only [f_M_goesBy_8, jp_c, decide_eq_true_eq, n_lit, n_neg1, n_add, n_mul, n_sub, n_div, n_mod, n_le, n_lt, n_eq, n_cl, n_in, Nat.reduceEqDiff, Nat.reduceAdd, Nat.reduceMul, ite_true, ite_false, if_true, if_false, eq_self_iff_true, ↓reduceIte, and_self, and_true, true_and, and_false, false_and, not_true_eq_false, not_false_eq_true, if_pos, if_neg, g5]
  | succ d ih =>
    intro i nn U hi hnn hU n m hn hm A B h f6 hs
    obtain ⟨n, rfl⟩ : ∃ k, n = k + 1 := ⟨n - 1, by omega⟩
    obtain ⟨m, rfl⟩ : ∃ k, m = k + 1 := ⟨m - 1, by omega⟩
    have g5 : B 105 5 = nI U := by rw [← h.1.1.1.2.2.2.2.2.2, f6]
    have eR := h.1.1.2.2.2
    obtain ⟨P, S, U', hP, hS, hU', f4, f5, f6', g6, g7, -, -, -, nR⟩ := HH_up h
    have hUU : U' = U := by rw [f6, n_eq (by omega) (by omega)] at f6'; exact f6'.symm
    subst hUU
    obtain ⟨x, r, lo, hi', -, hr, -, -, -, r1, -, -⟩ := nR i (by omega)
    have r7 := eR (8 * i + 7) (by omega)
    have r3 := eR (8 * i + 3) (by omega)
    rw [show 56 + (8 * i + 7) = 56 + 8 * i + 7 by omega] at r7
    rw [show 56 + (8 * i + 3) = 56 + 8 * i + 3 by omega, r1] at r3
    -- nobody sees it, or it has leave
    have skip : ∃ A' B' c', f_K_fines_12 n (nI bf) (nI (i + 1)) (nI (nn + 1)) A = some (nI c', A') ∧ f_M_goesBy_8 m (nI (bf - U')) (nI (i + 1)) B = f_M_goesBy_47 (nI c') B' ∧ SS t A B A' B' :=
      ih (i + 1) (nn + 1) U' (by omega) (by omega) hU n m (by omega) (by omega) A B h f6 hs
    by_cases hl : B 105 (56 + 8 * i + 7) = nI 1
    · obtain ⟨A', B', c', k1, k2, k3⟩ := skip
      refine ⟨A', B', c', ?_, ?_, k3⟩
      · rw [← k1]
        simp (disch := omega) only [f_K_fines_12, f_K_fines_63, f_K_fines_84, jp_c, decide_eq_true_eq, n_lit, n_neg1, n_add, n_mul, n_sub, n_div, n_mod, n_le, n_lt, n_eq, n_cl, n_in, Nat.reduceEqDiff, Nat.reduceAdd, Nat.reduceMul, ite_true, ite_false, if_true, if_false, eq_self_iff_true, ↓reduceIte, and_self, and_true, true_and, and_false, false_and, not_true_eq_false, not_false_eq_true, if_pos, if_neg, r7, hl, jg_t]
      · rw [← k2]
        have q : f_M_isFined (nI i) B = some (nI 0, B) := by
          simp (disch := omega) only [f_M_isFined, f_M_isFined_35, f_M_useAt, jp_c, decide_eq_true_eq, n_lit, n_neg1, n_add, n_mul, n_sub, n_div, n_mod, n_le, n_lt, n_eq, n_cl, n_in, Nat.reduceEqDiff, Nat.reduceAdd, Nat.reduceMul, ite_true, ite_false, if_true, if_false, eq_self_iff_true, ↓reduceIte, and_self, and_true, true_and, and_false, false_and, not_true_eq_false, not_false_eq_true, if_pos, if_neg, hl, jg_t]
        simp (disch := omega) only [f_M_goesBy_8, jp_c, decide_eq_true_eq, n_lit, n_neg1, n_add, n_mul, n_sub, n_div, n_mod, n_le, n_lt, n_eq, n_cl, n_in, Nat.reduceEqDiff, Nat.reduceAdd, Nat.reduceMul, ite_true, ite_false, if_true, if_false, eq_self_iff_true, ↓reduceIte, and_self, and_true, true_and, and_false, false_and, not_true_eq_false, not_false_eq_true, if_pos, if_neg, g5, hs, q, Option.bind_some]
    · obtain ⟨v, v1, v2, v3⟩ := l_seer (A := A) (B := B) (r := r) hS f5 g7 (by omega) (HH_bird h) (HH_lease h) S 0 (by omega) jFu jFu (jFu_lt (by omega)) (jFu_lt (by omega))
      have v1' : f_A_seerOf (nI r) A = some v := v1
      have v2' : f_M_whoSees (nI r) B = some v := v2
      have q0 : f_M_isFined (nI i) B = f_M_isFined_35 (nI i) (nI (56 + 8 * i)) v B := by
        simp (disch := omega) only [f_M_isFined, f_M_useAt, jp_c, decide_eq_true_eq, n_lit, n_neg1, n_add, n_mul, n_sub, n_div, n_mod, n_le, n_lt, n_eq, n_cl, n_in, Nat.reduceEqDiff, Nat.reduceAdd, Nat.reduceMul, ite_true, ite_false, if_true, if_false, eq_self_iff_true, ↓reduceIte, and_self, and_true, true_and, and_false, false_and, not_true_eq_false, not_false_eq_true, if_pos, if_neg, hl, ← r3, v2', jg_t, Option.bind_some]
      rcases v3 with rfl | ⟨b, hb, rfl⟩
      · obtain ⟨A', B', c', k1, k2, k3⟩ := skip
        refine ⟨A', B', c', ?_, ?_, k3⟩
        · rw [← k1]
          simp (disch := omega) only [f_K_fines_12, f_K_fines_63, f_K_fines_84, jp_c, decide_eq_true_eq, n_lit, n_neg1, n_add, n_mul, n_sub, n_div, n_mod, n_le, n_lt, n_eq, n_cl, n_in, Nat.reduceEqDiff, Nat.reduceAdd, Nat.reduceMul, ite_true, ite_false, if_true, if_false, eq_self_iff_true, ↓reduceIte, and_self, and_true, true_and, and_false, false_and, not_true_eq_false, not_false_eq_true, if_pos, if_neg, r7, hl, r1, v1', jg_t, Option.bind_some]
        · rw [← k2]
          have q : f_M_isFined (nI i) B = some (nI 0, B) := by
            rw [q0]
            simp (disch := omega) only [f_M_isFined_35, jp_c, decide_eq_true_eq, n_lit, n_neg1, Nat.reduceEqDiff, Nat.reduceAdd, Nat.reduceMul, ite_true, ite_false, if_true, if_false, eq_self_iff_true, ↓reduceIte, and_self, and_true, true_and, and_false, false_and, not_true_eq_false, not_false_eq_true, if_pos, if_neg]
          simp (disch := omega) only [f_M_goesBy_8, jp_c, decide_eq_true_eq, n_lit, n_neg1, n_add, n_mul, n_sub, n_div, n_mod, n_le, n_lt, n_eq, n_cl, n_in, Nat.reduceEqDiff, Nat.reduceAdd, Nat.reduceMul, ite_true, ite_false, if_true, if_false, eq_self_iff_true, ↓reduceIte, and_self, and_true, true_and, and_false, false_and, not_true_eq_false, not_false_eq_true, if_pos, if_neg, g5, hs, q, Option.bind_some]
      · obtain ⟨A1, B1, m1, m2, s1, m3, m4, m5⟩ := p_fine ht h f6 (i := i) (by omega) hU' f5 hb hS
        have hs1 : ¬ f_M_isSummer B1 = nI 0 := by
          rw [← n_summer (A := A1) (B := B1) s1.2.2.1.1.1.1.2.1]
          have : f_W_isSummer A1 = f_W_isSummer A := by unfold f_W_isSummer; rw [m4]
          rw [this, n_summer (A := A) (B := B) h.1.1.1.2.1]
          exact hs
        obtain ⟨A', B', c', k1, k2, k3⟩ := ih i (nn + 1) (U' - 1) (by omega) (by omega) (by omega) n m (by omega) (by omega) A1 B1 s1.2.2.1 m3 hs1
        have hb1 : ¬ nI b = nI 4294967295 := by rw [n_eq (by omega) (by omega)]; omega
        refine ⟨A', B', c', ?_, ?_, SS_trans s1 k3⟩
        · rw [← k1]
          simp (disch := omega) only [f_K_fines_12, f_K_fines_63, f_K_fines_84, jp_c, decide_eq_true_eq, n_lit, n_neg1, n_add, n_mul, n_le, n_in, n_cl, Nat.reduceEqDiff, Nat.reduceAdd, Nat.reduceMul, ite_true, ite_false, if_true, if_false, eq_self_iff_true, ↓reduceIte, and_self, and_true, true_and, and_false, false_and, not_true_eq_false, not_false_eq_true, if_pos, if_neg, r7, hl, r1, v1', jg_t, hb1, m1, Option.bind_some]
        · rw [← k2]
          have q : f_M_isFined (nI i) B = some (nI 1, B1) := by rw [q0, m2]
          simp (disch := omega) only [f_M_goesBy_8, jp_c, decide_eq_true_eq, n_lit, n_neg1, n_add, n_mul, n_sub, n_div, n_mod, n_le, n_lt, n_eq, n_cl, n_in, Nat.reduceEqDiff, Nat.reduceAdd, Nat.reduceMul, ite_true, ite_false, if_true, if_false, eq_self_iff_true, ↓reduceIte, and_self, and_true, true_and, and_false, false_and, not_true_eq_false, not_false_eq_true, if_pos, if_neg, g5, hs, q, Option.bind_some]
          rw [show bf - U' + 1 = bf - (U' - 1) by omega]
/-- a day wears on the uses -/
theorem l_wears {t : Nat} (ht : t < 2) {bf : Nat} (hbf : bf ≤ 16) : ∀ d i nn U, i + d = U → nn + d = bf → U ≤ 16 → ∀ n m, d < n → d < m → ∀ A B, HH t A B → A 2 6 = nI U → ∃ A' B', f_K_wears_12 n (nI bf) (nI i) (nI nn) A = some A' ∧ f_M_passes_2 m (nI i) B = some B' ∧ SS t A B A' B' := by
  intro d
  induction d with
  | zero =>
    intro i nn U hi hnn hU n m hn hm A B h f6
    obtain ⟨n, rfl⟩ : ∃ k, n = k + 1 := ⟨n - 1, by omega⟩
    obtain ⟨m, rfl⟩ : ∃ k, m = k + 1 := ⟨m - 1, by omega⟩
    have g5 : B 105 5 = nI U := by rw [← h.1.1.1.2.2.2.2.2.2, f6]
    refine ⟨A, B, ?_, ?_, SS_refl h⟩
    · simp (disch := omega) only [f_K_wears_12, jp_c, decide_eq_true_eq, n_lit, n_neg1, n_add, n_mul, n_sub, n_div, n_mod, n_le, n_lt, n_eq, n_cl, n_in, Nat.reduceEqDiff, Nat.reduceAdd, Nat.reduceMul, ite_true, ite_false, if_true, if_false, eq_self_iff_true, ↓reduceIte, and_self, and_true, true_and, and_false, false_and, not_true_eq_false, not_false_eq_true, if_pos, if_neg]
    · simp (disch := omega) only [f_M_passes_2, jp_c, decide_eq_true_eq, n_lit, n_neg1, n_add, n_mul, n_sub, n_div, n_mod, n_le, n_lt, n_eq, n_cl, n_in, Nat.reduceEqDiff, Nat.reduceAdd, Nat.reduceMul, ite_true, ite_false, if_true, if_false, eq_self_iff_true, ↓reduceIte, and_self, and_true, true_and, and_false, false_and, not_true_eq_false, not_false_eq_true, if_pos, if_neg, g5]
  | succ d ih =>
    intro i nn U hi hnn hU n m hn hm A B h f6
    obtain ⟨n, rfl⟩ : ∃ k, n = k + 1 := ⟨n - 1, by omega⟩
    obtain ⟨m, rfl⟩ : ∃ k, m = k + 1 := ⟨m - 1, by omega⟩
    have g5 : B 105 5 = nI U := by rw [← h.1.1.1.2.2.2.2.2.2, f6]
    have eR := h.1.1.2.2.2
    have r6 := eR (8 * i + 6) (by omega)
    have r0 := eR (8 * i) (by omega)
    rw [show 56 + (8 * i + 6) = 56 + 8 * i + 6 by omega] at r6
    generalize hD : B 105 (56 + 8 * i + 6) - nI 1 = D
    generalize hA1 : jp_set A 5 (upd (A 5) (8 * i + 6) D) = A1
    generalize hB1 : jp_set B 105 (upd (B 105) (56 + 8 * i + 6) D) = B1
    have a : ∀ q, ¬ q = 5 → A1 q = A q := by intro q hq; rw [← hA1, st_ne hq]
    have b : ∀ q, ¬ q = 105 → B1 q = B q := by intro q hq; rw [← hB1, st_ne hq]
    have a5 : A1 5 = upd (A 5) (8 * i + 6) D := by rw [← hA1, st_same]
    have b5 : B1 105 = upd (B 105) (56 + 8 * i + 6) D := by rw [← hB1, st_same]
    have s1 : SS t A B A1 B1 := by
      refine SS_w h (fun q hq => a q ?_) (fun q hq => b q ?_) ?_ (by rw [a 2 (by decide)]) (a 6 (by decide)) (by rw [b5, ud_ne (by omega)]) (b 111 (by decide))
      · rintro rfl; exact hq (by decide)
      · rintro rfl; exact hq (by decide)
      · unfold rWW
        rw [a 2 (by decide), a 3 (by decide), a 4 (by decide), a5, b5, b 108 (by decide), b 109 (by decide), b 110 (by decide), b 104 (by decide)]
        have hW := h.1
        obtain ⟨⟨⟨e0, e1, e2, e3, e4, e5, e6⟩, eP, eB, eR⟩, nW⟩ := hW
        obtain ⟨P, S, U', hP, hS, hU', f4, f5, f6', nP, nB, nR⟩ := nW
        refine ⟨⟨⟨?_, ?_, ?_, ?_, ?_, ?_, ?_⟩, fun k hk => ?_, fun k hk => ?_, fun k hk => ?_⟩, ?_⟩
        all_goals try simp (disch := omega) only [ud_ne]
        all_goals first | assumption | skip
        · exact eP k hk
        · exact eB k hk
        · by_cases hk' : k = 8 * i + 6
          · subst hk'
            rw [ud_eq rfl, ud_eq (by omega)]
          · rw [ud_ne hk', ud_ne (by omega)]; exact eR k hk
        · refine ⟨P, S, U', hP, hS, hU', f4, f5, f6', nP, nB, fun k hk => ?_⟩
          simp (disch := omega) only [ud_ne]
          exact nR k hk
    have x1 : f_K_wears_12 (n + 1) (nI bf) (nI i) (nI nn) A = if nI 0 < D then f_K_wears_12 n (nI bf) (nI (i + 1)) (nI (nn + 1)) A1 else (f_K_closes (nI i) A1).bind fun q5 => f_K_wears_12 n (nI bf) (nI i) (nI (nn + 1)) q5 := by
      by_cases hd : nI 0 < D
      · simp (disch := omega) only [f_K_wears_12, f_K_wears_65, jp_c, decide_eq_true_eq, n_lit, n_add, n_mul, n_le, n_in, n_cl, Nat.reduceEqDiff, Nat.reduceAdd, Nat.reduceMul, ite_true, ite_false, if_true, if_false, eq_self_iff_true, ↓reduceIte, and_self, and_true, true_and, and_false, false_and, not_true_eq_false, not_false_eq_true, if_pos, if_neg, r6, hD, hA1, a5, ud_eq, jg_t, hd]
      · simp (disch := omega) only [f_K_wears_12, f_K_wears_65, jp_c, decide_eq_true_eq, n_lit, n_add, n_mul, n_le, n_in, n_cl, Nat.reduceEqDiff, Nat.reduceAdd, Nat.reduceMul, ite_true, ite_false, if_true, if_false, eq_self_iff_true, ↓reduceIte, and_self, and_true, true_and, and_false, false_and, not_true_eq_false, not_false_eq_true, if_pos, if_neg, r6, hD, hA1, a5, ud_eq, jg_t, hd]
    have b0 : B1 105 (56 + 8 * i) = B 105 (56 + 8 * i) := by rw [b5, ud_ne (by omega)]
    have x2 : f_M_passes_2 (m + 1) (nI i) B = if nI 0 < D then f_M_passes_2 m (nI (i + 1)) B1 else (f_M_notes (nI 4) (B 105 (56 + 8 * i)) (nI 0) B1).bind fun q7 => (f_M_isOver (nI i) q7).bind fun q8 => f_M_passes_2 m (nI i) q8 := by
      by_cases hd : nI 0 < D
      · have hd' : ¬ D ≤ nI 0 := Int32.not_le.mpr hd
        simp (disch := omega) only [f_M_passes_2, f_M_passes_74, f_M_useAt, jp_c, decide_eq_true_eq, n_lit, n_add, n_mul, n_le, n_in, n_cl, Nat.reduceEqDiff, Nat.reduceAdd, Nat.reduceMul, ite_true, ite_false, if_true, if_false, eq_self_iff_true, ↓reduceIte, and_self, and_true, true_and, and_false, false_and, not_true_eq_false, not_false_eq_true, if_pos, if_neg, g5, hD, hB1, b5, ud_eq, jg_t, hd, hd']
      · have hd' : D ≤ nI 0 := Int32.not_lt.mp hd
        simp (disch := omega) only [f_M_passes_2, f_M_passes_74, f_M_useAt, jp_c, decide_eq_true_eq, n_lit, n_add, n_mul, n_le, n_in, n_cl, Nat.reduceEqDiff, Nat.reduceAdd, Nat.reduceMul, ite_true, ite_false, if_true, if_false, eq_self_iff_true, ↓reduceIte, and_self, and_true, true_and, and_false, false_and, not_true_eq_false, not_false_eq_true, if_pos, if_neg, g5, hD, hB1, b5, ud_eq, ud_ne, jg_t, hd, hd']
    by_cases hd : nI 0 < D
    · obtain ⟨A', B', k1, k2, k3⟩ := ih (i + 1) (nn + 1) U (by omega) (by omega) hU n m (by omega) (by omega) A1 B1 s1.2.2.1 (by rw [a 2 (by decide), f6])
      exact ⟨A', B', by rw [x1, if_pos hd, k1], by rw [x2, if_pos hd, k2], SS_trans s1 k3⟩
    · obtain ⟨A2, B2, n1, n2, s2, n4, n5, -⟩ := p_note ht s1.2.2.1 (nI 4) (B 105 (56 + 8 * i)) (nI 0)
      obtain ⟨A3, B3, m1, m2, s3, m3, -⟩ := p_remove s2.2.2.1 (i := i) (U := U) (by rw [n5 6 (by decide), a 2 (by decide), f6]) (by omega) hU
      obtain ⟨A', B', k1, k2, k3⟩ := ih i (nn + 1) (U - 1) (by omega) (by omega) (by omega) n m (by omega) (by omega) A3 B3 s3.2.2.1 m3
      refine ⟨A', B', ?_, ?_, SS_trans s1 (SS_trans s2 (SS_trans s3 k3))⟩
      · have z : A1 5 (8 * i) = B 105 (56 + 8 * i) := by rw [a5, ud_ne (by omega), r0]
        have c : f_K_closes (nI i) A1 = some A3 := by
          simp (disch := omega) only [f_K_closes, n_lit, n_neg1, n_add, n_mul, n_sub, n_div, n_mod, n_le, n_lt, n_eq, n_cl, n_in, Nat.reduceEqDiff, Nat.reduceAdd, Nat.reduceMul, ite_true, ite_false, if_true, if_false, eq_self_iff_true, ↓reduceIte, and_self, and_true, true_and, and_false, false_and, not_true_eq_false, not_false_eq_true, if_pos, if_neg, Nat.add_zero, jg_t, z, n1, m1, Option.bind_some]
        rw [x1, if_neg hd, c, Option.bind_some, k1]
      · rw [x2, if_neg hd, n2, Option.bind_some, m2, Option.bind_some, k2]
