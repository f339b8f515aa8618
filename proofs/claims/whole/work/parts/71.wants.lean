theorem k_told {B : jp_M} {P : Nat} (g6 : B 104 6 = nI P) (a1 a2 a3 a4 a5 a6 : Int32) : f_M_isTold a1 a2 a3 a4 a5 a6 B = if (nI 0 ≤ a1 ∧ a1 < nI P) ∧ (nI 0 ≤ a2 ∧ a2 ≤ nI 5) ∧ (nI 0 ≤ a3 ∧ a3 ≤ nI 9) ∧ (nI 0 ≤ a4 ∧ a4 ≤ a5) ∧ (nI 0 ≤ a5 ∧ a5 ≤ nI 7) ∧ (nI 1 ≤ a6 ∧ a6 ≤ nI 30) then nI 1 else nI 0 := by
  by_cases h1 : nI 0 ≤ a1 ∧ a1 < nI P
  · by_cases h2 : nI 0 ≤ a2 ∧ a2 ≤ nI 5
    · by_cases h3 : nI 0 ≤ a3 ∧ a3 ≤ nI 9
      · by_cases h4 : nI 0 ≤ a4 ∧ a4 ≤ a5
        · by_cases h5 : nI 0 ≤ a5 ∧ a5 ≤ nI 7
          · by_cases h6 : nI 1 ≤ a6 ∧ a6 ≤ nI 30
            · simp (disch := omega) only [f_M_isTold, n_isP, n_isIn, n_it0, jp_c, decide_eq_true_eq, n_lit, n_eq, Nat.reduceEqDiff, Nat.reduceAdd, Nat.reduceMul, ite_true, ite_false, if_true, if_false, eq_self_iff_true, ↓reduceIte, and_self, and_true, true_and, and_false, false_and, not_true_eq_false, not_false_eq_true, if_pos, if_neg, g6, h1, h2, h3, h4, h5, h6]
            · simp (disch := omega) only [f_M_isTold, n_isP, n_isIn, n_it0, jp_c, decide_eq_true_eq, n_lit, n_eq, Nat.reduceEqDiff, Nat.reduceAdd, Nat.reduceMul, ite_true, ite_false, if_true, if_false, eq_self_iff_true, ↓reduceIte, and_self, and_true, true_and, and_false, false_and, not_true_eq_false, not_false_eq_true, if_pos, if_neg, g6, h1, h2, h3, h4, h5, h6]
          · simp (disch := omega) only [f_M_isTold, n_isP, n_isIn, n_it0, jp_c, decide_eq_true_eq, n_lit, n_eq, Nat.reduceEqDiff, Nat.reduceAdd, Nat.reduceMul, ite_true, ite_false, if_true, if_false, eq_self_iff_true, ↓reduceIte, and_self, and_true, true_and, and_false, false_and, not_true_eq_false, not_false_eq_true, if_pos, if_neg, g6, h1, h2, h3, h4, h5]
        · simp (disch := omega) only [f_M_isTold, n_isP, n_isIn, n_it0, jp_c, decide_eq_true_eq, n_lit, n_eq, Nat.reduceEqDiff, Nat.reduceAdd, Nat.reduceMul, ite_true, ite_false, if_true, if_false, eq_self_iff_true, ↓reduceIte, and_self, and_true, true_and, and_false, false_and, not_true_eq_false, not_false_eq_true, if_pos, if_neg, g6, h1, h2, h3, h4]
      · simp (disch := omega) only [f_M_isTold, n_isP, n_isIn, n_it0, jp_c, decide_eq_true_eq, n_lit, n_eq, Nat.reduceEqDiff, Nat.reduceAdd, Nat.reduceMul, ite_true, ite_false, if_true, if_false, eq_self_iff_true, ↓reduceIte, and_self, and_true, true_and, and_false, false_and, not_true_eq_false, not_false_eq_true, if_pos, if_neg, g6, h1, h2, h3]
    · simp (disch := omega) only [f_M_isTold, n_isP, n_isIn, n_it0, jp_c, decide_eq_true_eq, n_lit, n_eq, Nat.reduceEqDiff, Nat.reduceAdd, Nat.reduceMul, ite_true, ite_false, if_true, if_false, eq_self_iff_true, ↓reduceIte, and_self, and_true, true_and, and_false, false_and, not_true_eq_false, not_false_eq_true, if_pos, if_neg, g6, h1, h2]
  · simp (disch := omega) only [f_M_isTold, n_isP, n_isIn, n_it0, jp_c, decide_eq_true_eq, n_lit, n_eq, Nat.reduceEqDiff, Nat.reduceAdd, Nat.reduceMul, ite_true, ite_false, if_true, if_false, eq_self_iff_true, ↓reduceIte, and_self, and_true, true_and, and_false, false_and, not_true_eq_false, not_false_eq_true, if_pos, if_neg, g6, h1]
theorem k_wants {A : jp_M} {P : Nat} (f4 : A 2 4 = nI P) (a1 a2 a3 a4 a5 : Int32) : f_K_wants a1 a2 a3 a4 a5 A = if (nI 0 ≤ a1 ∧ a1 < nI P) ∧ (nI 0 ≤ a2 ∧ a2 ≤ nI 5) ∧ (nI 0 ≤ a3 ∧ a3 ≤ nI 9) ∧ ¬ a4 < nI 0 ∧ ¬ a5 < nI 1 ∧ a5 ≤ nI 30 ∧ ¬ a4 % nI 10 < a4 / nI 10 ∧ a4 % nI 10 < nI 8
    then (nI 1, jp_set A 55 (upd (upd (upd (upd (upd (upd (A 55) 1 a1) 2 a2) 3 a3) 4 (a4 / nI 10)) 5 (a4 % nI 10)) 6 a5)) else (nI 0, A) := by
  by_cases h1 : nI 0 ≤ a1 ∧ a1 < nI P
  · by_cases h2 : nI 0 ≤ a2 ∧ a2 ≤ nI 5
    · by_cases h3 : nI 0 ≤ a3 ∧ a3 ≤ nI 9
      · by_cases h4 : a4 < nI 0
        · simp (disch := omega) only [f_K_wants, n_hasP, n_within, n_it0, jp_c, decide_eq_true_eq, n_lit, n_eq, Nat.reduceEqDiff, Nat.reduceAdd, Nat.reduceMul, ite_true, ite_false, if_true, if_false, eq_self_iff_true, ↓reduceIte, and_self, and_true, true_and, and_false, false_and, not_true_eq_false, not_false_eq_true, if_pos, if_neg, f4, h1, h2, h3, h4]
        · by_cases h5 : a5 < nI 1
          · simp (disch := omega) only [f_K_wants, n_hasP, n_within, n_it0, jp_c, decide_eq_true_eq, n_lit, n_eq, Nat.reduceEqDiff, Nat.reduceAdd, Nat.reduceMul, ite_true, ite_false, if_true, if_false, eq_self_iff_true, ↓reduceIte, and_self, and_true, true_and, and_false, false_and, not_true_eq_false, not_false_eq_true, if_pos, if_neg, f4, h1, h2, h3, h4, h5]
          · by_cases h6 : a5 ≤ nI 30
            · by_cases h7 : a4 % nI 10 < a4 / nI 10
              · simp (disch := omega) only [f_K_wants, n_hasP, n_within, n_it0, jp_c, decide_eq_true_eq, n_lit, n_eq, Nat.reduceEqDiff, Nat.reduceAdd, Nat.reduceMul, ite_true, ite_false, if_true, if_false, eq_self_iff_true, ↓reduceIte, and_self, and_true, true_and, and_false, false_and, not_true_eq_false, not_false_eq_true, if_pos, if_neg, f4, h1, h2, h3, h4, h5, h6, h7]
              · by_cases h8 : a4 % nI 10 < nI 8
                · simp (disch := omega) only [f_K_wants, n_hasP, n_within, n_it0, jp_c, decide_eq_true_eq, n_lit, n_eq, Nat.reduceEqDiff, Nat.reduceAdd, Nat.reduceMul, ite_true, ite_false, if_true, if_false, eq_self_iff_true, ↓reduceIte, and_self, and_true, true_and, and_false, false_and, not_true_eq_false, not_false_eq_true, if_pos, if_neg, f4, h1, h2, h3, h4, h5, h6, h7, h8, st_st, st_ap]
                · simp (disch := omega) only [f_K_wants, n_hasP, n_within, n_it0, jp_c, decide_eq_true_eq, n_lit, n_eq, Nat.reduceEqDiff, Nat.reduceAdd, Nat.reduceMul, ite_true, ite_false, if_true, if_false, eq_self_iff_true, ↓reduceIte, and_self, and_true, true_and, and_false, false_and, not_true_eq_false, not_false_eq_true, if_pos, if_neg, f4, h1, h2, h3, h4, h5, h6, h7, h8]
            · simp (disch := omega) only [f_K_wants, n_hasP, n_within, n_it0, jp_c, decide_eq_true_eq, n_lit, n_eq, Nat.reduceEqDiff, Nat.reduceAdd, Nat.reduceMul, ite_true, ite_false, if_true, if_false, eq_self_iff_true, ↓reduceIte, and_self, and_true, true_and, and_false, false_and, not_true_eq_false, not_false_eq_true, if_pos, if_neg, f4, h1, h2, h3, h4, h5, h6]
      · simp (disch := omega) only [f_K_wants, n_hasP, n_within, n_it0, jp_c, decide_eq_true_eq, n_lit, n_eq, Nat.reduceEqDiff, Nat.reduceAdd, Nat.reduceMul, ite_true, ite_false, if_true, if_false, eq_self_iff_true, ↓reduceIte, and_self, and_true, true_and, and_false, false_and, not_true_eq_false, not_false_eq_true, if_pos, if_neg, f4, h1, h2, h3]
    · simp (disch := omega) only [f_K_wants, n_hasP, n_within, n_it0, jp_c, decide_eq_true_eq, n_lit, n_eq, Nat.reduceEqDiff, Nat.reduceAdd, Nat.reduceMul, ite_true, ite_false, if_true, if_false, eq_self_iff_true, ↓reduceIte, and_self, and_true, true_and, and_false, false_and, not_true_eq_false, not_false_eq_true, if_pos, if_neg, f4, h1, h2]
  · simp (disch := omega) only [f_K_wants, n_hasP, n_within, n_it0, jp_c, decide_eq_true_eq, n_lit, n_eq, Nat.reduceEqDiff, Nat.reduceAdd, Nat.reduceMul, ite_true, ite_false, if_true, if_false, eq_self_iff_true, ↓reduceIte, and_self, and_true, true_and, and_false, false_and, not_true_eq_false, not_false_eq_true, if_pos, if_neg, f4, h1]
/-- what is wanted stands in the class's row -/
def wnt (A : jp_M) (x k r lo hi d : Nat) : Prop := A 55 1 = nI x ∧ A 55 2 = nI k ∧ A 55 3 = nI r ∧ A 55 4 = nI lo ∧ A 55 5 = nI hi ∧ A 55 6 = nI d
theorem p_wants {A B : jp_M} {P : Nat} (f4 : A 2 4 = nI P) (g6 : B 104 6 = nI P) (hP : P ≤ 10) (a1 a2 a3 a4 a5 : Int32) :
    (f_K_wants a1 a2 a3 a4 a5 A = (nI 0, A) ∧ (a4 < nI 0 ∨ f_M_isTold a1 a2 a3 (a4 / nI 10) (a4 % nI 10) a5 B = nI 0)) ∨
    ∃ x k r lo hi d A', x < P ∧ k ≤ 5 ∧ r ≤ 9 ∧ lo ≤ hi ∧ hi ≤ 7 ∧ a1 = nI x ∧ a2 = nI k ∧ a3 = nI r ∧ a5 = nI d ∧ a4 / nI 10 = nI lo ∧ a4 % nI 10 = nI hi ∧ ¬ a4 < nI 0 ∧ f_K_wants a1 a2 a3 a4 a5 A = (nI 1, A') ∧ f_M_isTold a1 a2 a3 (a4 / nI 10) (a4 % nI 10) a5 B = nI 1 ∧ wnt A' x k r lo hi d ∧ (∀ q, ¬ q = 55 → A' q = A q) := by
  rw [k_told g6, k_wants f4]
  by_cases h4 : a4 < nI 0
  · left
    refine ⟨if_neg (fun h => h.2.2.2.1 h4), Or.inl h4⟩
  · obtain ⟨h, hh, rfl⟩ := n_of (Int32.not_lt.mp h4)
    have e1 : nI h / nI 10 = nI (h / 10) := n_div hh (by omega)
    have e2 : nI h % nI 10 = nI (h % 10) := n_mod hh (by omega)
    rw [e1, e2]
    have i1 : nI (h % 10) < nI (h / 10) ↔ h % 10 < h / 10 := n_lt (by omega) (by omega)
    have i2 : nI (h % 10) < nI 8 ↔ h % 10 < 8 := n_lt (by omega) (by omega)
    have i3 : nI 0 ≤ nI (h / 10) ↔ 0 ≤ h / 10 := n_le (by omega) (by omega)
    have i4 : nI (h / 10) ≤ nI (h % 10) ↔ h / 10 ≤ h % 10 := n_le (by omega) (by omega)
    have i5 : nI 0 ≤ nI (h % 10) ↔ 0 ≤ h % 10 := n_le (by omega) (by omega)
    have i6 : nI (h % 10) ≤ nI 7 ↔ h % 10 ≤ 7 := n_le (by omega) (by omega)
    simp only [i1, i2, i3, i4, i5, i6]
    by_cases hk : ((nI 0 ≤ a1 ∧ a1 < nI P) ∧ (nI 0 ≤ a2 ∧ a2 ≤ nI 5) ∧ (nI 0 ≤ a3 ∧ a3 ≤ nI 9)) ∧ (nI 1 ≤ a5 ∧ a5 ≤ nI 30) ∧ h / 10 ≤ h % 10 ∧ h % 10 < 8
    · right
      obtain ⟨⟨p1, p2, p3⟩, p5, p6, p7⟩ := hk
      obtain ⟨x, hx, rfl⟩ := n_rngl (by omega) p1
      obtain ⟨k, -, hk, rfl⟩ := n_rng (by omega) p2.1 (by omega) p2.2
      obtain ⟨r, -, hr, rfl⟩ := n_rng (by omega) p3.1 (by omega) p3.2
      obtain ⟨d, -, hd, rfl⟩ := n_rng (by omega) p5.1 (by omega) p5.2
      refine ⟨x, k, r, h / 10, h % 10, d, _, hx, hk, hr, p6, by omega, rfl, rfl, rfl, rfl, rfl, rfl, h4, if_pos ⟨p1, p2, p3, h4, Int32.not_lt.mpr p5.1, p5.2, by omega, p7⟩, if_pos ⟨p1, p2, p3, ⟨by omega, p6⟩, ⟨by omega, by omega⟩, p5⟩, ?_, fun q hq => st_ne hq⟩
      refine ⟨?_, ?_, ?_, ?_, ?_, ?_⟩ <;> (rw [st_same]; simp only [ud_ap, Nat.reduceEqDiff, ↓reduceIte])
    · left
      refine ⟨if_neg ?_, Or.inr (if_neg ?_)⟩
      · rintro ⟨p1, p2, p3, -, p5, p5', p6, p7⟩
        exact hk ⟨⟨p1, p2, p3⟩, ⟨Int32.not_lt.mp p5, p5'⟩, by omega, p7⟩
      · rintro ⟨p1, p2, p3, ⟨-, p6⟩, ⟨-, p7⟩, p5⟩
        exact hk ⟨⟨p1, p2, p3⟩, p5, p6, by omega⟩
theorem p_would (a1 a2 a3 a4 a5 : Int32) {A B : jp_M} (hR : Rel A B) : pOK (f_C_would a1 a2 a3 a4 a5 A) (f_M_would a1 a2 a3 a4 a5 B) := by
  have T := Rel_told (x := nI 0) hR
  generalize hB1 : jp_set B 104 (upd (B 104) 0 (nI 0)) = B1 at T
  have hT := T
  obtain ⟨⟨hW, hBk, hLw, hPe, hLe, hCi, hWi, hKi, hPo, hWy, hVo⟩, hPic, hKe, hTa, hFa, hTh, hWd⟩ := T
  have hWW : rWW A B1 := hW
  have hLL : rLL A B1 := hLw
  obtain ⟨⟨⟨e0, e1, e2, e3, e4, e5, e6⟩, eP, eB, eR⟩, nW⟩ := hW
  obtain ⟨P, S, U, hP, hS, hU, f4, f5, f6, nP, nB, nR⟩ := nW
  have g6 : B1 104 6 = nI P := by rw [← e4, f4]
  rcases p_wants f4 g6 hP a1 a2 a3 a4 a5 with ⟨w1, w2⟩ | ⟨x, k, r, lo, hi, d, A1, hx, hk, hr, hlo, hhi, rfl, rfl, rfl, rfl, q1, q2, q3, w1, w2, ⟨v1, v2, v3, v4, v5, v6⟩, w4⟩
  · have c1 : f_C_would a1 a2 a3 a4 a5 A = some (nI 4294967295, A) := by
      simp (disch := omega) only [f_C_would, w1, jp_c, decide_eq_true_eq, n_lit, n_neg1, n_add, n_mul, n_sub, n_div, n_mod, n_le, n_lt, n_eq, n_cl, n_in, Nat.reduceEqDiff, Nat.reduceAdd, Nat.reduceMul, ite_true, ite_false, if_true, if_false, eq_self_iff_true, ↓reduceIte, and_self, and_true, true_and, and_false, false_and, not_true_eq_false, not_false_eq_true, if_pos, if_neg]
    have c2 : f_M_would a1 a2 a3 a4 a5 B = some (nI 4294967295, B1) := by
      by_cases h4 : a4 < nI 0
      · simp (disch := omega) only [f_M_would, hB1, jp_c, decide_eq_true_eq, n_lit, n_neg1, Nat.reduceEqDiff, Nat.reduceAdd, Nat.reduceMul, ite_true, ite_false, if_true, if_false, eq_self_iff_true, ↓reduceIte, and_self, and_true, true_and, and_false, false_and, not_true_eq_false, not_false_eq_true, if_pos, if_neg, h4]
      · have w3 := w2.resolve_left h4
        simp (disch := omega) only [f_M_would, hB1, jp_c, decide_eq_true_eq, n_lit, n_neg1, Nat.reduceEqDiff, Nat.reduceAdd, Nat.reduceMul, ite_true, ite_false, if_true, if_false, eq_self_iff_true, ↓reduceIte, and_self, and_true, true_and, and_false, false_and, not_true_eq_false, not_false_eq_true, if_pos, if_neg, h4, w3]
    rw [c1, c2]
    exact pOK_mk rfl hT
  · have hR1 : Rel A1 B1 := Rel_scA (fun p hp => w4 p (by rintro rfl; exact hp (by decide))) hT
    have hWW1 : rWW A1 B1 := hR1.1.1
    obtain ⟨v, A', C, B', t1, t2, t3, -, t4, t5⟩ := p_tell0 (tW_of hWW1) hR1.1.2.2.1 (w := 0) (show x < 10 by omega) v1 (by omega)
    rw [v2, v3, v5, v6] at t2
    have t3' : f_M_leaveNow C = some (nI v, B') := t3
    obtain ⟨U', hu⟩ := uF_rel hWW1
    obtain ⟨b, b1, b2, -⟩ := p_fits (A := A') (B := B') (uF_cg (t4 2 (by decide) (by decide)) (t4 5 (by decide) (by decide)) (t5 105 (by decide) (by decide)) hu) hlo hhi (nI r) (by rw [t4 55 (by decide) (by decide), v3]) (by rw [t4 55 (by decide) (by decide), v4]) (by rw [t4 55 (by decide) (by decide), v5])
    have hR2 : Rel A' B' := by
      refine Rel_scA (A := A1) (fun p hp => t4 p ?_ ?_) (Rel_scB (fun p hp => t5 p ?_ ?_) (fun j hj => by rw [t5 104 (by decide) (by decide)]) hR1)
      · rintro rfl; exact hp (by decide)
      · rintro rfl; exact hp (by decide)
      · rintro rfl; exact hp (by decide)
      · rintro rfl; exact hp (by decide)
    have c1 : f_C_would (nI x) (nI k) (nI r) a4 (nI d) A = some (if b then nI v else -(nI 2) - nI v, A') := by
      cases b <;> simp (disch := omega) only [f_C_would, w1, jp_c, decide_eq_true_eq, n_lit, n_eq, Nat.reduceEqDiff, Nat.reduceAdd, Nat.reduceMul, ite_true, ite_false, if_true, if_false, eq_self_iff_true, ↓reduceIte, and_self, and_true, true_and, and_false, false_and, not_true_eq_false, not_false_eq_true, if_pos, if_neg, t1, b1, Option.bind_some, Bool.false_eq_true]
    have c2 : f_M_would (nI x) (nI k) (nI r) a4 (nI d) B = some (if b then nI v else -(nI 2) - nI v, B') := by
      cases b <;> simp (disch := omega) only [f_M_would, hB1, jp_c, decide_eq_true_eq, n_lit, n_eq, Nat.reduceEqDiff, Nat.reduceAdd, Nat.reduceMul, ite_true, ite_false, if_true, if_false, eq_self_iff_true, ↓reduceIte, and_self, and_true, true_and, and_false, false_and, not_true_eq_false, not_false_eq_true, if_pos, if_neg, q1, q2, q3, show f_M_isTold (nI x) (nI k) (nI r) (nI lo) (nI hi) (nI d) B1 = nI 1 by rw [← q1, ← q2]; exact w2, t2, t3', b2, Option.bind_some, Bool.false_eq_true]
    rw [c1, c2]
    exact pOK_mk rfl hR2
