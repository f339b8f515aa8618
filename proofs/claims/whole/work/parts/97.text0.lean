/-- both answer to text, and alike -/
def tOK (A : jp_M) (o : Option (Int32 × Nat × jp_M)) (o' : Option (Int32 × jp_M)) : Prop := ∃ r w A' B', o = some (r, w, A') ∧ o' = some (r, B') ∧ Rel A' B' ∧ ∀ q, 104 ≤ q → A' q = A q
theorem nin_sub {q : Nat} {l l' : List Nat} (h : q ∉ l) (hs : ∀ y, y ∈ l' → y ∈ l) : q ∉ l' := fun e => h (hs q e)
theorem tx_reads (a : Int32) (B : jp_M) (h : nI 0 ≤ a ∧ a ≤ nI 3) : f_M_text a B = (f_M_readsText a (jp_set B 104 (upd (upd (upd (upd (upd (upd (B 104) 0 (nI 0)) 33 (nI 0)) 34 (nI 4294967295)) 14 (nI 0)) 27 (nI 0)) 28 (nI 0)))).bind fun q8 => (
  if jp_c .ne q8.1 (-1 : Int32) = true then (
  f_M_text_69 a (q8.1) (q8.2)) else (
  let M9 := jp_set q8.2 104 (upd (q8.2 104) 33 (q8.2 104 31))
  let M10 := jp_set M9 104 (upd (M9 104) 34 (M9 104 32))
  f_M_text_69 a (q8.1) M10)) := by
  have e : f_M_isIn a (nI 0) (nI 3) = nI 1 := by rw [n_isIn, if_pos h]
  simp (disch := omega) only [f_M_text, jp_c, decide_eq_true_eq, n_lit, n_neg1, n_eq, e, st_st, st_ap, Nat.reduceEqDiff, Nat.reduceAdd, Nat.reduceMul, ite_true, ite_false, if_true, if_false, eq_self_iff_true, ↓reduceIte, and_self, and_true, true_and, and_false, false_and, not_true_eq_false, not_false_eq_true, if_pos, if_neg]
theorem p_text0 (w : Nat) {A B : jp_M} (hR : Rel A B) : tOK A (f_C_text (nI 0) w A) (f_M_text (nI 0) B) := by
  obtain ⟨N, t, A1, B1, p, n, k, x, o1, o2, o3, o4, o5, o6, o7, o8, o9, o10, o11, o12, o13⟩ := tx_open hR (c := 0) (a := nI 0) (by omega) (Or.inl ⟨rfl, by decide, by decide, by decide⟩) w
  have hR' := hR
  obtain ⟨⟨hW, hBk, hLw, hPe, hLe, hCi, hWi, hKi, hPo, hWy, hVo⟩, hPic, hKe, hTa, hFa, hTh, hWd⟩ := hR
  generalize hA2 : jp_set A1 0 (upd (A1 0) 11 (nI 0)) = A2
  have a2 : ∀ q, ¬ q = 0 → ¬ q = 68 → A2 q = A q := fun q h0 h1 => by rw [← hA2, st_ne h0, o4 q h1]
  have a20 : ∀ i, ¬ i = 11 → A2 0 i = A 0 i := fun i hi => by rw [← hA2, st_same, ud_ne hi, o4 0 (by decide)]
  have a211 : A2 0 11 = nI 0 := by rw [← hA2, st_same, ud_eq rfl]
  have a268 : A2 68 = A1 68 := by rw [← hA2, st_ne (by decide)]
  generalize hA3 : jp_set A2 70 (upd (upd (A2 70) 0 (nI 0)) 1 (nI 0)) = A3
  have hcl : f_L_clears A2 = A3 := by
    rw [← hA3]
    simp only [f_L_clears, n_lit, st_st, st_ap, Nat.reduceEqDiff, Nat.reduceAdd, Nat.reduceMul, ite_true, ite_false, if_true, if_false, eq_self_iff_true, ↓reduceIte, and_self, and_true, true_and, and_false, false_and, not_true_eq_false, not_false_eq_true, if_pos, if_neg]
  have hLW : LW N t A2 B1 A3 B1 p n k x [] := by
    refine ⟨⟨?_, ⟨?_, ?_⟩, ⟨o9, ?_⟩, ⟨?_, ?_⟩, ⟨fun _ _ => rfl, fun _ _ => rfl, fun _ _ => ⟨rfl, rfl⟩, fun _ _ => ⟨rfl, rfl, rfl, rfl⟩⟩⟩, trivial, ?_, o10, ?_, ?_⟩
    · unfold Sy at o3 ⊢
      rw [← hA3, st_ne (show ¬ 67 = 70 by decide), st_ne (show ¬ 68 = 70 by decide), a268, ← hA2, st_ne (show ¬ 67 = 0 by decide)]
      exact o3
    · rw [← hA3, st_same, ud_eq rfl]; rfl
    · intro i hi; exact absurd hi (by simp [cC, cG])
    · intro i hi; exact absurd hi (by simp [cG])
    · intro q hq; rw [← hA3, st_ne (nin_ne hq (by decide))]
    · intro i hi; rw [← hA3, st_ne (by decide)]
    · rw [← hA3, st_same, ud_ne (by decide), ud_eq rfl]; rfl
    · simp [cC, cG]
    · simp [cG]
  have rT : f_M_readsText (nI 0) (jp_set B 104 (upd (upd (upd (upd (upd (upd (B 104) 0 (nI 0)) 33 (nI 0)) 34 (nI 4294967295)) 14 (nI 0)) 27 (nI 0)) 28 (nI 0))) = (f_M_readLaw_2 jFu (nI 0) B1).bind fun q3 => some (q3.1, q3.2) := by
    simp (disch := omega) only [f_M_readsText, f_M_readLaw, jp_c, decide_eq_true_eq, n_lit, n_eq, st_st, st_ap, o2, Option.bind_some, Nat.reduceEqDiff, Nat.reduceAdd, Nat.reduceMul, ite_true, ite_false, if_true, if_false, eq_self_iff_true, ↓reduceIte, and_self, and_true, true_and, and_false, false_and, not_true_eq_false, not_false_eq_true, if_pos, if_neg]
  have cT : f_C_text (nI 0) w A = (f_LR_reads_9 jFu (nI 0) 1000 A3).bind fun q7 => (
      if jp_c .ne q7.1 0 = true then (
      (f_L_becomes q7.2).bind fun q8 => (
      some ((q8 7 0), 1000, q8))) else (
      some ((-1 : Int32), 1000, q7.2))) := by
    simp (disch := omega) only [f_C_text, f_LR_reads, o1, hA2, hcl, jp_c, decide_eq_true_eq, n_lit, n_neg1, n_eq, Option.bind_some, Nat.add_zero, Nat.reduceEqDiff, Nat.reduceAdd, Nat.reduceMul, ite_true, ite_false, if_true, if_false, eq_self_iff_true, ↓reduceIte, and_self, and_true, true_and, and_false, false_and, not_true_eq_false, not_false_eq_true, if_pos, if_neg]
  rw [tx_reads (nI 0) B (by decide), rT, cT]
  rcases l_rlaw 16 A3 B1 p n k x [] jFu jFu rfl (show 16 < 100000 by omega) (show 16 < 100000 by omega) hLW with ⟨A', B', q1, q2, q3⟩ | ⟨A', B', p', n', k', x', R, q1, q2, q3, q4⟩
  · rw [List.length_nil] at q1 q2
    obtain ⟨f1, f2, f3, f4, f5, f6, f7⟩ := q3
    refine ⟨nI 4294967295, 1000, A', jp_set B' 104 (upd (upd (upd (B' 104) 33 (B' 104 31)) 34 (B' 104 32)) 13 (nI 0)), ?_, ?_, ?_, fun q hq => by rw [f3 q (by simp only [List.mem_cons, List.not_mem_nil, or_false, not_or]; omega), a2 q (by omega) (by omega)]⟩
    · simp (disch := omega) only [q1, jp_c, decide_eq_true_eq, n_lit, n_neg1, n_eq, Option.bind_some, Nat.reduceEqDiff, Nat.reduceAdd, Nat.reduceMul, ite_true, ite_false, if_true, if_false, eq_self_iff_true, ↓reduceIte, and_self, and_true, true_and, and_false, false_and, not_true_eq_false, not_false_eq_true, if_pos, if_neg]
    · simp (disch := omega) only [q2, f_M_text_69, jp_c, decide_eq_true_eq, n_lit, n_neg1, n_eq, st_st, st_ap, ud_ap, Option.bind_some, Nat.reduceEqDiff, Nat.reduceAdd, Nat.reduceMul, ite_true, ite_false, if_true, if_false, eq_self_iff_true, ↓reduceIte, and_self, and_true, true_and, and_false, false_and, not_true_eq_false, not_false_eq_true, if_pos, if_neg]
    · have e1 : ∀ q, q ∉ [0, 68, 70, 71, 72, 73, 74] → A' q = A q := fun q hq => by
        rw [f3 q (nin_sub hq (by decide)), a2 q (nin_ne hq (by decide)) (nin_ne hq (by decide))]
      refine Rel_tx hR' ?_ ?_ ?_ ?_ ?_ ?_ ?_ ?_ ?_ ?_ ?_
      · intro q hq; exact e1 q (nin_sub hq (by decide))
      · intro i hi; rw [f3 0 (by decide)]; exact a20 i (nin_ne hi (by decide))
      · intro q hq
        rw [st_ne (nin_ne hq (by decide)), f4 q (nin_sub hq (by decide)), o7 q (nin_ne hq (by decide))]
      · intro i hi
        rw [st_same, ud_ne (nin_ne hi (by decide)), ud_ne (nin_ne hi (by decide)), ud_ne (nin_ne hi (by decide)), f5 i (nin_sub hi (by decide)), o13 i (nin_sub hi (by decide))]
      · rw [e1 7 (by decide), e1 8 (by decide), e1 9 (by decide), e1 10 (by decide), e1 11 (by decide)]
        refine rLaw_cg (wd' := B 115) (fr' := B 116) (wh' := B 117) (to' := B 118) (op := B 119) (ar := B 120) ?_ (fun i hi => ?_) (fun i hi => ?_)
        · rw [st_ne (by decide), f4 114 (by decide), o7 114 (by decide)]; exact hLw
        · simp only [st_ap, Nat.reduceEqDiff, Nat.reduceAdd, Nat.reduceMul, ite_true, ite_false, if_true, if_false, eq_self_iff_true, ↓reduceIte, and_self, and_true, true_and, and_false, false_and, not_true_eq_false, not_false_eq_true, if_pos, if_neg]
          have := f7 i (by omega)
          rw [o7 115 (by decide), o7 116 (by decide), o7 117 (by decide), o7 118 (by decide)] at this
          exact this
        · simp only [st_ap, Nat.reduceEqDiff, Nat.reduceAdd, Nat.reduceMul, ite_true, ite_false, if_true, if_false, eq_self_iff_true, ↓reduceIte, and_self, and_true, true_and, and_false, false_and, not_true_eq_false, not_false_eq_true, if_pos, if_neg]
          have := f6 i (by omega)
          rw [o7 119 (by decide), o7 120 (by decide)] at this
          exact this
      · rw [e1 14 (by decide), e1 15 (by decide), st_same, st_ne (by decide), f4 122 (by decide), o7 122 (by decide)]
        simp (disch := decide) only [ud_ne]
        rw [f5 35 (by decide), o13 35 (by decide)]; exact hPe
      · rw [e1 1 (by decide), e1 16 (by decide), st_same, st_ne (by decide), f4 123 (by decide), o7 123 (by decide)]
        simp (disch := decide) only [ud_ne]
        rw [f5 37 (by decide), o13 37 (by decide)]; exact hLe
      · rw [e1 17 (by decide), e1 18 (by decide), st_same, st_ne (by decide), f4 124 (by decide), o7 124 (by decide)]
        simp (disch := decide) only [ud_ne]
        rw [f5 39 (by decide), o13 39 (by decide)]; exact hCi
      · rw [f3 0 (by decide), st_same, ud_eq rfl]; exact ⟨a211, rfl⟩
      · rw [st_same]
        simp (disch := decide) only [ud_ne, ud_eq]
        exact ⟨f1, f2⟩
      · left
        refine ⟨by rw [f3 0 (by decide), a20 4 (by decide)], ?_⟩
        rw [st_same]
        simp (disch := decide) only [ud_ne]
        rw [f5 3 (by decide), o13 3 (by decide)]
  · rw [List.length_nil] at q1 q2
    obtain ⟨⟨hS, hcA, hcB, ⟨xa1, xa2⟩, ⟨xb1, xb2, xb3, xb4⟩⟩, hI, h70, h28, lC, lG⟩ := q3
    have hpp := sy_p hS
    have rn : ¬ nI R.length = nI 4294967295 := by rw [n_eq (by omega) (by omega)]; omega
    generalize hB2 : jp_set B' 104 (upd (B' 104) 13 (nI 0)) = B2
    have b2 : ∀ q, ¬ q = 104 → B2 q = B' q := fun q hq => by rw [← hB2, st_ne hq]
    have b24 : ∀ i, ¬ i = 13 → B2 104 i = B' 104 i := fun i hi => by rw [← hB2, st_same, ud_ne hi]
    have b226 : B2 104 26 = nI 0 := by rw [b24 26 (by decide), xb2 26 (by decide)]; exact o8
    obtain ⟨B3, c1, c2, c3⟩ := l_tk2 q4 R.length 0 (by omega) jFu (show R.length < 100000 by omega) B2 b226
    obtain ⟨B4, d1, d2, d3, d4, d5⟩ := l_tk107 (L := R.length) (c := (cG R).length) (by omega) (cG R).length 0 (by omega) jFu (show (cG R).length < 100000 by omega) B3 (by rw [c2 104 (by decide) (by decide) (by decide) (by decide)]; exact b226) (by rw [c2 104 (by decide) (by decide) (by decide) (by decide), b24 27 (by decide)]; exact hcB.1)
    have kL := k_Lt (M := A') q4 (by omega : (cC R).length ≤ 400) h70 hcA.1
    generalize hA4 : jp_set (jp_set (jp_set (jp_set (jp_set A' 7 (upd (upd (A' 7) 0 (nI R.length)) 1 (nI (cC R).length))) 8 (va_cpy (A' 71) (A' 8) 0 0 R.length)) 9 (va_cpy (A' 72) (A' 9) 0 0 R.length)) 10 (va_cpy (A' 73) (A' 10) 0 0 R.length)) 11 (va_cpy (A' 74) (A' 11) 0 0 (cC R).length) = A4 at kL
    have a47 : A4 7 = upd (upd (A' 7) 0 (nI R.length)) 1 (nI (cC R).length) := by rw [← hA4]; simp only [st_ap, Nat.reduceEqDiff, Nat.reduceAdd, Nat.reduceMul, ite_true, ite_false, if_true, if_false, eq_self_iff_true, ↓reduceIte, and_self, and_true, true_and, and_false, false_and, not_true_eq_false, not_false_eq_true, if_pos, if_neg]
    have a48 : A4 8 = va_cpy (A' 71) (A' 8) 0 0 R.length := by rw [← hA4]; simp only [st_ap, Nat.reduceEqDiff, Nat.reduceAdd, Nat.reduceMul, ite_true, ite_false, if_true, if_false, eq_self_iff_true, ↓reduceIte, and_self, and_true, true_and, and_false, false_and, not_true_eq_false, not_false_eq_true, if_pos, if_neg]
    have a49 : A4 9 = va_cpy (A' 72) (A' 9) 0 0 R.length := by rw [← hA4]; simp only [st_ap, Nat.reduceEqDiff, Nat.reduceAdd, Nat.reduceMul, ite_true, ite_false, if_true, if_false, eq_self_iff_true, ↓reduceIte, and_self, and_true, true_and, and_false, false_and, not_true_eq_false, not_false_eq_true, if_pos, if_neg]
    have a410 : A4 10 = va_cpy (A' 73) (A' 10) 0 0 R.length := by rw [← hA4]; simp only [st_ap, Nat.reduceEqDiff, Nat.reduceAdd, Nat.reduceMul, ite_true, ite_false, if_true, if_false, eq_self_iff_true, ↓reduceIte, and_self, and_true, true_and, and_false, false_and, not_true_eq_false, not_false_eq_true, if_pos, if_neg]
    have a411 : A4 11 = va_cpy (A' 74) (A' 11) 0 0 (cC R).length := by rw [← hA4]; simp only [st_ap, Nat.reduceEqDiff, Nat.reduceAdd, Nat.reduceMul, ite_true, ite_false, if_true, if_false, eq_self_iff_true, ↓reduceIte, and_self, and_true, true_and, and_false, false_and, not_true_eq_false, not_false_eq_true, if_pos, if_neg]
    have a4f : ∀ q, q ∉ [7, 8, 9, 10, 11] → A4 q = A' q := fun q hq => by
      rw [← hA4, st_ne (nin_ne hq (by decide)), st_ne (nin_ne hq (by decide)), st_ne (nin_ne hq (by decide)), st_ne (nin_ne hq (by decide)), st_ne (nin_ne hq (by decide))]
    have b4f : ∀ q, q ∉ [104, 114, 115, 116, 117, 118, 119, 120, 121] → B4 q = B q := fun q hq => by
      rw [d2 q (nin_ne hq (by decide)) (nin_ne hq (by decide)) (nin_ne hq (by decide)), c2 q (nin_ne hq (by decide)) (nin_ne hq (by decide)) (nin_ne hq (by decide)) (nin_ne hq (by decide)), b2 q (nin_ne hq (by decide)), xb1 q (nin_sub hq (by decide)), o7 q (nin_ne hq (by decide))]
    have b44 : B4 104 = B2 104 := by rw [d2 104 (by decide) (by decide) (by decide), c2 104 (by decide) (by decide) (by decide) (by decide)]
    have b44' : ∀ i, i ∉ [0, 13, 14, 15, 16, 17, 26, 27, 28, 30, 33, 34] → B4 104 i = B 104 i := fun i hi => by
      rw [b44, b24 i (nin_ne hi (by decide)), xb2 i (nin_sub hi (by decide)), o13 i (nin_sub hi (by decide))]
    have a4e : ∀ q, q ∉ [0, 7, 8, 9, 10, 11, 68, 70, 71, 72, 73, 74] → A4 q = A q := fun q hq => by
      rw [a4f q (nin_sub hq (by decide)), xa1 q (nin_sub hq (by decide)), a2 q (nin_ne hq (by decide)) (nin_ne hq (by decide))]
    refine ⟨nI R.length, 1000, A4, B4, ?_, ?_, ?_, fun q hq => a4e q (by simp only [List.mem_cons, List.not_mem_nil, or_false, not_or]; omega)⟩
    · simp (disch := omega) only [q1, kL, jp_c, decide_eq_true_eq, n_lit, n_neg1, n_eq, Option.bind_some, a47, ud_ap, Nat.reduceEqDiff, Nat.reduceAdd, Nat.reduceMul, ite_true, ite_false, if_true, if_false, eq_self_iff_true, ↓reduceIte, and_self, and_true, true_and, and_false, false_and, not_true_eq_false, not_false_eq_true, if_pos, if_neg]
    · have e9 : f_M_takesLaw (nI R.length) B2 = some B4 := by rw [f_M_takesLaw, ← d1, ← c1]; rfl
      simp (disch := omega) only [q2, f_M_text_69, jp_c, decide_eq_true_eq, n_lit, n_neg1, rn, hB2, e9, Option.bind_some, Nat.reduceEqDiff, Nat.reduceAdd, Nat.reduceMul, ite_true, ite_false, if_true, if_false, eq_self_iff_true, ↓reduceIte, and_self, and_true, true_and, and_false, false_and, not_true_eq_false, not_false_eq_true, if_pos, if_neg]
    · refine Rel_tx hR' ?_ ?_ ?_ ?_ ?_ ?_ ?_ ?_ ?_ ?_ ?_
      · intro q hq; exact a4e q (nin_sub hq (by decide))
      · intro i hi; rw [a4f 0 (by decide), xa1 0 (by decide)]; exact a20 i (nin_ne hi (by decide))
      · intro q hq; exact b4f q (nin_sub hq (by decide))
      · intro i hi; exact b44' i (nin_sub hi (by decide))
      · have m115 : ∀ q, (q = 115 ∨ q = 116 ∨ q = 117 ∨ q = 118) → ∀ l, l < R.length → B4 q l = B' q (32 + l) := by
          intro q hq l hl
          rw [d2 q (by omega) (by omega) (by omega), c3 q hq l, if_pos ⟨Nat.zero_le _, hl⟩, b2 q (by omega)]
        obtain ⟨ps, s0, s1, s2⟩ := lw_lines (A := A') (B := B') (cd := A4 11) (op := B4 119) (ar := B4 120) (wd := A4 8) (wh := A4 9) (en := A4 10) (wd' := B4 115) (fr' := B4 116) (wh' := B4 117) (to' := B4 118) R hI
          (fun l hl => by
            rw [a48, a49, a410, cp_in hl, cp_in hl, cp_in hl]
            exact ⟨rfl, rfl, rfl, m115 115 (by omega) l hl, m115 116 (by omega) l hl, m115 117 (by omega) l hl, m115 118 (by omega) l hl⟩)
          (segC_cg (fun i hi => by rw [Nat.zero_add, a411, cp_in hi]) hcA.2)
          (fun i hi => by
            rw [Nat.zero_add, d4 i, d5 i, if_pos ⟨Nat.zero_le _, hi⟩, if_pos ⟨Nat.zero_le _, hi⟩, c2 119 (by decide) (by decide) (by decide) (by decide), c2 120 (by decide) (by decide) (by decide) (by decide), b2 119 (by decide), b2 120 (by decide)]
            exact hcB.2 i hi)
          (by omega) (by omega)
        refine ⟨R.length, ps, q4, ?_, d3, s0, by omega, ?_, s2⟩
        · rw [a47, ud_ne (by decide), ud_eq rfl]
        · rw [a47, ud_eq rfl, s1]
      · rw [a4e 14 (by decide), a4e 15 (by decide), b44' 35 (by decide), b4f 122 (by decide)]; exact hPe
      · rw [a4e 1 (by decide), a4e 16 (by decide), b44' 37 (by decide), b4f 123 (by decide)]; exact hLe
      · rw [a4e 17 (by decide), a4e 18 (by decide), b44' 39 (by decide), b4f 124 (by decide)]; exact hCi
      · rw [a4f 0 (by decide), xa1 0 (by decide), b44, ← hB2, st_same, ud_eq rfl]; exact ⟨a211, rfl⟩
      · rw [a4f 68 (by decide), xa2 7 (by decide), xa2 8 (by decide), a268, o5, o6, b44, b24 33 (by decide), b24 34 (by decide), xb2 33 (by decide), xb2 34 (by decide), o11, o12]
        exact ⟨rfl, rfl⟩
      · left
        rw [a4f 0 (by decide), xa1 0 (by decide), a20 4 (by decide), b44' 3 (by decide)]
        exact ⟨rfl, rfl⟩
