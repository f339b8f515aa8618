theorem ln_fail {c : Nat} {A Af : jp_M} {w : Nat} (h : f_R_passesWord (nI 0) w A = some (nI 0, Af)) : f_IR_line (nI c) w A = some (nI 0, Af) := by
  simp (disch := omega) only [f_IR_line, h, jp_c, decide_eq_true_eq, n_lit, Option.bind_some, Nat.reduceEqDiff, Nat.reduceAdd, Nat.reduceMul, ite_true, ite_false, if_true, if_false, eq_self_iff_true, ↓reduceIte, and_self, and_true, true_and, and_false, false_and, not_true_eq_false, not_false_eq_true, if_pos, if_neg]
/-- a line of a lease -/
theorem l_turn {N : Nat} {t : Nat → Nat} {A0 B0 A B : jp_M} {p n k x : Nat} {F : List Nat} {L S : Nat} (h : YS 2 N t A0 B0 A B p n k x F L) (hF : F.length + 2 ≤ 112) (hSA : A0 77 5 = nI S) (hSB : B0 104 7 = nI S) (hS : S ≤ 10) :
    (∃ A' B', f_IR_line (nI 2) 1002 A = some (nI 0, A') ∧ f_M_readTurn B = some (nI 4294967295, B') ∧ Fl2 A0 B0 A' B') ∨
    (∃ A' B' p' n' k' x' v0 v1, f_IR_line (nI 2) 1002 A = some (nI 1, A') ∧ f_M_readTurn B = some (nI 0, B') ∧ YS 2 N t A0 B0 A' B' p' n' k' x' (F ++ [v0] ++ [v1]) L ∧ v0 ≤ 9 ∧ v1 < S ∧ B' 123 = upd (B 123) (10 + v0) (nI (v1 + 1))) := by
  rcases y_w h (w := 0) (by decide) (by omega) with ⟨Af, fc, fr, ff⟩ | ⟨A1, B1, p1, n1, k1, x1, c1, i1, d1, h1, b1, m1⟩
  · rw [show jlo 2 + 0 = 27 from rfl] at fr
    refine Or.inl ⟨Af, _, ?_, ?_, ff⟩
    · simp (disch := omega) only [fc, f_IR_line, jp_c, decide_eq_true_eq, n_lit, n_eq, Option.bind_some, Nat.reduceEqDiff, Nat.reduceAdd, Nat.reduceMul, ite_true, ite_false, if_true, if_false, eq_self_iff_true, ↓reduceIte, and_self, and_true, true_and, and_false, false_and, not_true_eq_false, not_false_eq_true, if_pos, if_neg]
    · have e1 := told_w (lo := nI 0) (hi := nI 9) fr
      simp (disch := omega) only [f_M_readTurn, n_lit, n_neg1, e1, jp_c, decide_eq_true_eq, Option.bind_some, Nat.reduceEqDiff, Nat.reduceAdd, Nat.reduceMul, ite_true, ite_false, if_true, if_false, eq_self_iff_true, ↓reduceIte, and_self, and_true, true_and, and_false, false_and, not_true_eq_false, not_false_eq_true, if_pos, if_neg]
  · rw [show jlo 2 + 0 = 27 from rfl] at i1
    rcases y_n h1 (by omega) (lo := 0) (hi := nI 9) (by omega) (hi_lit (by omega)) with ⟨Af, Bf, fc, fr, ff⟩ | ⟨A2, B2, p2, n2, k2, x2, v0, -, c2, d2, lo2, hi2, ten2, h2, l2, b2⟩
    · refine Or.inl ⟨Af, Bf, ?_, ?_, ff⟩
      · simp (disch := omega) only [c1, fc, f_IR_line, f_IR_line_61, f_IR_turn, jp_c, decide_eq_true_eq, n_lit, n_eq, Option.bind_some, Nat.reduceEqDiff, Nat.reduceAdd, Nat.reduceMul, ite_true, ite_false, if_true, if_false, eq_self_iff_true, ↓reduceIte, and_self, and_true, true_and, and_false, false_and, not_true_eq_false, not_false_eq_true, if_pos, if_neg]
      · have e1 := told_ok i1 d1 fr
        simp (disch := omega) only [f_M_readTurn, n_lit, n_neg1, e1, jp_c, decide_eq_true_eq, Option.bind_some, Nat.reduceEqDiff, Nat.reduceAdd, Nat.reduceMul, ite_true, ite_false, if_true, if_false, eq_self_iff_true, ↓reduceIte, and_self, and_true, true_and, and_false, false_and, not_true_eq_false, not_false_eq_true, if_pos, if_neg]
    · have t1 := told_ok i1 d1 d2
      have z2 : ¬ v0 = 4294967295 := by omega
      have a77 : A2 77 5 = nI S := by rw [h2.2.1.2.2 5 (by decide)]; exact hSA
      have b7 : B2 104 7 = nI S := by rw [h2.2.2.1.2.1 7 (by decide)]; exact hSB
      rcases y_w h2 (w := 1) (by decide) (by omega) with ⟨Af, fc, fr, ff⟩ | ⟨A3, B3, p3, n3, k3, x3, c3, i3, d3, h3, b3, m3⟩
      · rw [show jlo 2 + 1 = 28 from rfl] at fr
        refine Or.inl ⟨Af, _, ?_, ?_, ff⟩
        · simp (disch := omega) only [c1, c2, fc, f_IR_line, f_IR_line_61, f_IR_turn, jp_c, decide_eq_true_eq, n_lit, n_eq, Option.bind_some, Nat.reduceEqDiff, Nat.reduceAdd, Nat.reduceMul, ite_true, ite_false, if_true, if_false, eq_self_iff_true, ↓reduceIte, and_self, and_true, true_and, and_false, false_and, not_true_eq_false, not_false_eq_true, if_pos, if_neg]
        · have e1 := told_w (lo := nI 0) (hi := nI S - nI 1) fr
          simp (disch := omega) only [f_M_readTurn, n_lit, n_neg1, n_eq, t1, z2, b7, e1, jp_c, decide_eq_true_eq, Option.bind_some, Nat.reduceEqDiff, Nat.reduceAdd, Nat.reduceMul, ite_true, ite_false, if_true, if_false, eq_self_iff_true, ↓reduceIte, and_self, and_true, true_and, and_false, false_and, not_true_eq_false, not_false_eq_true, if_pos, if_neg]
      · rw [show jlo 2 + 1 = 28 from rfl] at i3
        have a77' : A3 77 5 = nI S := by rw [m3]; exact a77
        rcases y_n h3 (by rw [ln_s]; omega) (lo := 0) (hi := nI S - nI 1) (by omega) (hi_sub hS) with ⟨Af, Bf, fc, fr, ff⟩ | ⟨A4, B4, p4, n4, k4, x4, v1, -, c4, d4, lo4, hi4, ten4, h4, l4, b4⟩
        · refine Or.inl ⟨Af, Bf, ?_, ?_, ff⟩
          · simp (disch := omega) only [c1, c2, c3, a77', fc, f_IR_line, f_IR_line_61, f_IR_turn, jp_c, decide_eq_true_eq, n_lit, n_eq, Option.bind_some, Nat.reduceEqDiff, Nat.reduceAdd, Nat.reduceMul, ite_true, ite_false, if_true, if_false, eq_self_iff_true, ↓reduceIte, and_self, and_true, true_and, and_false, false_and, not_true_eq_false, not_false_eq_true, if_pos, if_neg]
          · have e1 := told_ok i3 d3 fr
            simp (disch := omega) only [f_M_readTurn, n_lit, n_neg1, n_eq, t1, z2, b7, e1, jp_c, decide_eq_true_eq, Option.bind_some, Nat.reduceEqDiff, Nat.reduceAdd, Nat.reduceMul, ite_true, ite_false, if_true, if_false, eq_self_iff_true, ↓reduceIte, and_self, and_true, true_and, and_false, false_and, not_true_eq_false, not_false_eq_true, if_pos, if_neg]
        · have t3 := told_ok i3 d3 d4
          have z4 : ¬ v1 = 4294967295 := by omega
          have h5 := y_st h4 (q := 123) (j := 10 + v0) (Or.inr (Or.inl ⟨rfl, by omega⟩)) (nI (v1 + 1))
          have s5 : (jp_set B4 123 (upd (B4 123) (10 + v0) (nI (v1 + 1)))) 123 = upd (B 123) (10 + v0) (nI (v1 + 1)) := by rw [st_same, b4.2.1, b3.2.1, b2.2.1, b1.2.1]
          generalize hB5 : jp_set B4 123 (upd (B4 123) (10 + v0) (nI (v1 + 1))) = B5 at h5 s5
          rcases y_s h5 with ⟨Af, fc, fr, ff⟩ | ⟨A6, B6, p6, n6, k6, x6, c6, i6, d6, h6, b6⟩
          · refine Or.inl ⟨Af, _, ?_, ?_, ff⟩
            · simp (disch := omega) only [c1, c2, c3, c4, a77', fc, f_IR_line, f_IR_line_61, f_IR_turn, jp_c, decide_eq_true_eq, n_lit, n_eq, Option.bind_some, Nat.reduceEqDiff, Nat.reduceAdd, Nat.reduceMul, ite_true, ite_false, if_true, if_false, eq_self_iff_true, ↓reduceIte, and_self, and_true, true_and, and_false, false_and, not_true_eq_false, not_false_eq_true, if_pos, if_neg]
            · have e1 := mark_w fr
              simp (disch := omega) only [f_M_readTurn, n_lit, n_neg1, n_add, n_eq, n_in, n_cl, t1, z2, b7, t3, z4, hB5, e1, jp_c, decide_eq_true_eq, jg_t, Option.bind_some, Nat.reduceEqDiff, Nat.reduceAdd, Nat.reduceMul, ite_true, ite_false, if_true, if_false, eq_self_iff_true, ↓reduceIte, and_self, and_true, true_and, and_false, false_and, not_true_eq_false, not_false_eq_true, if_pos, if_neg]
          · refine Or.inr ⟨A6, B6, p6, n6, k6, x6, v0, v1, ?_, ?_, h6, by omega, hi4, by rw [b6.2.1]; exact s5⟩
            · simp (disch := omega) only [c1, c2, c3, c4, c6, a77', f_IR_line, f_IR_line_61, f_IR_turn, jp_c, decide_eq_true_eq, n_lit, n_eq, Option.bind_some, Nat.reduceEqDiff, Nat.reduceAdd, Nat.reduceMul, ite_true, ite_false, if_true, if_false, eq_self_iff_true, ↓reduceIte, and_self, and_true, true_and, and_false, false_and, not_true_eq_false, not_false_eq_true, if_pos, if_neg]
            · have e1 := mark_ok i6 d6
              simp (disch := omega) only [f_M_readTurn, n_lit, n_neg1, n_add, n_eq, n_in, n_cl, t1, z2, b7, t3, z4, hB5, e1, jp_c, decide_eq_true_eq, jg_t, Option.bind_some, Nat.reduceEqDiff, Nat.reduceAdd, Nat.reduceMul, ite_true, ite_false, if_true, if_false, eq_self_iff_true, ↓reduceIte, and_self, and_true, true_and, and_false, false_and, not_true_eq_false, not_false_eq_true, if_pos, if_neg]
theorem y_un {N : Nat} {t : Nat → Nat} {A0 B0 A B : jp_M} {p n k x : Nat} {F : List Nat} {L a : Nat} (h : YS 3 N t A0 B0 A B p n k x F L) (ha : a < 10000) :
    (k = 2 ∧ x = a ∧ f_IR_unlike (nI a) A = (nI 0, (f_R_fails (nI 2) A).2) ∧ B 104 16 = nI 3 ∧ B 104 17 = nI a) ∨ (f_IR_unlike (nI a) A = (nI 1, A) ∧ (¬ B 104 16 = nI 3 ∨ (B 104 16 = nI 3 ∧ ¬ B 104 17 = nI a))) := by
  have hx := sy_x h.1
  have hk0 := sy_k0 h.1
  obtain ⟨hc, hN, tA, tB, hw, a1, b13, a3, a4, b15, b14, pn, nN, kp, k4, ka, kb⟩ := h.1
  by_cases hk : k = 2
  · subst hk
    have hx9 := hx.2.1 rfl
    have v6 : A 68 6 = nI x := ka.2 (by omega) (by omega)
    have v16 : B 104 16 = nI 3 := hk0.2.1.2 rfl
    have v17 : B 104 17 = nI x := by
      rcases kb with ⟨h, -⟩ | ⟨h, -⟩ | ⟨-, -, -, h⟩ | ⟨h, -⟩ | ⟨h, -⟩
      · omega
      · omega
      · exact h
      · omega
      · omega
    by_cases hxa : x = a
    · subst hxa
      refine Or.inl ⟨rfl, rfl, ?_, v16, v17⟩
      simp (disch := omega) only [f_IR_unlike, f_R_fails, jp_c, decide_eq_true_eq, n_lit, n_eq, ka.1, v6, Nat.reduceEqDiff, Nat.reduceAdd, Nat.reduceMul, ite_true, ite_false, if_true, if_false, eq_self_iff_true, ↓reduceIte, and_self, and_true, true_and, and_false, false_and, not_true_eq_false, not_false_eq_true, if_pos, if_neg]
    · refine Or.inr ⟨?_, Or.inr ⟨v16, by rw [v17, n_eq (by omega) (by omega)]; exact hxa⟩⟩
      simp (disch := omega) only [f_IR_unlike, f_IR_unlike_33, jp_c, decide_eq_true_eq, n_lit, n_eq, ka.1, v6, hxa, Nat.reduceEqDiff, Nat.reduceAdd, Nat.reduceMul, ite_true, ite_false, if_true, if_false, eq_self_iff_true, ↓reduceIte, and_self, and_true, true_and, and_false, false_and, not_true_eq_false, not_false_eq_true, if_pos, if_neg]
  · refine Or.inr ⟨?_, Or.inl (fun e => hk (hk0.2.1.1 e))⟩
    simp (disch := omega) only [f_IR_unlike, f_IR_unlike_33, jp_c, decide_eq_true_eq, n_lit, n_eq, ka.1, hk, Nat.reduceEqDiff, Nat.reduceAdd, Nat.reduceMul, ite_true, ite_false, if_true, if_false, eq_self_iff_true, ↓reduceIte, and_self, and_true, true_and, and_false, false_and, not_true_eq_false, not_false_eq_true, if_pos, if_neg]
/-- a line of cites -/
theorem l_cite {N : Nat} {t : Nat → Nat} {A0 B0 A B : jp_M} {p n k x : Nat} {F : List Nat} {L : Nat} (h : YS 3 N t A0 B0 A B p n k x F L) (hF : F.length + 2 ≤ 112) :
    (∃ A' B', f_IR_line (nI 3) 1003 A = some (nI 0, A') ∧ f_M_readCite B = some (nI 4294967295, B') ∧ Fl2 A0 B0 A' B') ∨
    (∃ A' B' p' n' k' x' v0 v1, f_IR_line (nI 3) 1003 A = some (nI 1, A') ∧ f_M_readCite B = some (nI 0, B') ∧ YS 3 N t A0 B0 A' B' p' n' k' x' (F ++ [v0] ++ [v1]) L ∧ v0 < 16 ∧ v1 < 16 ∧ B' 124 = upd (B 124) (16 + v0) (B 124 (16 + v0) ||| ((1 : Int32) <<< (nI v1 &&& 31)))) := by
  rcases y_w h (w := 0) (by decide) (by omega) with ⟨Af, fc, fr, ff⟩ | ⟨A1, B1, p1, n1, k1, x1, c1, i1, d1, h1, b1, m1⟩
  · rw [show jlo 3 + 0 = 29 from rfl] at fr
    refine Or.inl ⟨Af, _, ?_, ?_, ff⟩
    · simp (disch := omega) only [fc, f_IR_line, jp_c, decide_eq_true_eq, n_lit, n_eq, Option.bind_some, Nat.reduceEqDiff, Nat.reduceAdd, Nat.reduceMul, ite_true, ite_false, if_true, if_false, eq_self_iff_true, ↓reduceIte, and_self, and_true, true_and, and_false, false_and, not_true_eq_false, not_false_eq_true, if_pos, if_neg]
    · have e1 := told_w (lo := nI 0) (hi := nI 15) fr
      simp (disch := omega) only [f_M_readCite, n_lit, n_neg1, e1, jp_c, decide_eq_true_eq, Option.bind_some, Nat.reduceEqDiff, Nat.reduceAdd, Nat.reduceMul, ite_true, ite_false, if_true, if_false, eq_self_iff_true, ↓reduceIte, and_self, and_true, true_and, and_false, false_and, not_true_eq_false, not_false_eq_true, if_pos, if_neg]
  · rw [show jlo 3 + 0 = 29 from rfl] at i1
    rcases y_n h1 (by omega) (lo := 0) (hi := nI 15) (by omega) (hi_lit (by omega)) with ⟨Af, Bf, fc, fr, ff⟩ | ⟨A2, B2, p2, n2, k2, x2, v0, -, c2, d2, lo2, hi2, ten2, h2, l2, b2⟩
    · refine Or.inl ⟨Af, Bf, ?_, ?_, ff⟩
      · simp (disch := omega) only [c1, fc, f_IR_line, f_IR_line_61, f_IR_precedent, jp_c, decide_eq_true_eq, n_lit, n_eq, Option.bind_some, Nat.reduceEqDiff, Nat.reduceAdd, Nat.reduceMul, ite_true, ite_false, if_true, if_false, eq_self_iff_true, ↓reduceIte, and_self, and_true, true_and, and_false, false_and, not_true_eq_false, not_false_eq_true, if_pos, if_neg]
      · have e1 := told_ok i1 d1 fr
        simp (disch := omega) only [f_M_readCite, n_lit, n_neg1, e1, jp_c, decide_eq_true_eq, Option.bind_some, Nat.reduceEqDiff, Nat.reduceAdd, Nat.reduceMul, ite_true, ite_false, if_true, if_false, eq_self_iff_true, ↓reduceIte, and_self, and_true, true_and, and_false, false_and, not_true_eq_false, not_false_eq_true, if_pos, if_neg]
    · have t1 := told_ok i1 d1 d2
      have z2 : ¬ v0 = 4294967295 := by omega
      rcases y_w h2 (w := 1) (by decide) (by omega) with ⟨Af, fc, fr, ff⟩ | ⟨A3, B3, p3, n3, k3, x3, c3, i3, d3, h3, b3, m3⟩
      · rw [show jlo 3 + 1 = 30 from rfl] at fr
        refine Or.inl ⟨Af, _, ?_, ?_, ff⟩
        · simp (disch := omega) only [c1, c2, fc, f_IR_line, f_IR_line_61, f_IR_precedent, jp_c, decide_eq_true_eq, n_lit, n_eq, Option.bind_some, Nat.reduceEqDiff, Nat.reduceAdd, Nat.reduceMul, ite_true, ite_false, if_true, if_false, eq_self_iff_true, ↓reduceIte, and_self, and_true, true_and, and_false, false_and, not_true_eq_false, not_false_eq_true, if_pos, if_neg]
        · simp (disch := omega) only [f_M_readCite, n_lit, n_neg1, n_eq, t1, z2, fr, jp_c, decide_eq_true_eq, Option.bind_some, Nat.reduceEqDiff, Nat.reduceAdd, Nat.reduceMul, ite_true, ite_false, if_true, if_false, eq_self_iff_true, ↓reduceIte, and_self, and_true, true_and, and_false, false_and, not_true_eq_false, not_false_eq_true, if_pos, if_neg]
          rfl
      · rw [show jlo 3 + 1 = 30 from rfl] at i3
        have l77 : A3 77 3 = nI v0 := by rw [m3]; exact l2
        rcases y_un h3 (a := v0) (by omega) with ⟨-, -, u1, u2, u3⟩ | ⟨u1, u2⟩
        · refine Or.inl ⟨_, _, ?_, ?_, y_fl h3 (nI 2)⟩
          · simp (disch := omega) only [c1, c2, c3, l77, u1, f_IR_line, f_IR_line_61, f_IR_precedent, jp_c, decide_eq_true_eq, n_lit, n_eq, Option.bind_some, Nat.reduceEqDiff, Nat.reduceAdd, Nat.reduceMul, ite_true, ite_false, if_true, if_false, eq_self_iff_true, ↓reduceIte, and_self, and_true, true_and, and_false, false_and, not_true_eq_false, not_false_eq_true, if_pos, if_neg]
          · simp (disch := omega) only [f_M_readCite, n_lit, n_neg1, n_eq, t1, z2, i3, d3, u2, u3, jp_c, decide_eq_true_eq, Option.bind_some, Nat.reduceEqDiff, Nat.reduceAdd, Nat.reduceMul, ite_true, ite_false, if_true, if_false, eq_self_iff_true, ↓reduceIte, and_self, and_true, true_and, and_false, false_and, not_true_eq_false, not_false_eq_true, if_pos, if_neg]
            rfl
        · have rc : f_M_readCite B = f_M_readCite_58 (nI v0) B3 := by
            rcases u2 with u2 | ⟨u2, u3⟩
            · simp (disch := omega) only [f_M_readCite, n_lit, n_neg1, n_eq, t1, z2, i3, d3, u2, jp_c, decide_eq_true_eq, Option.bind_some, Nat.reduceEqDiff, Nat.reduceAdd, Nat.reduceMul, ite_true, ite_false, if_true, if_false, eq_self_iff_true, ↓reduceIte, and_self, and_true, true_and, and_false, false_and, not_true_eq_false, not_false_eq_true, if_pos, if_neg]
            · simp (disch := omega) only [f_M_readCite, n_lit, n_neg1, n_eq, t1, z2, i3, d3, u2, u3, jp_c, decide_eq_true_eq, Option.bind_some, Nat.reduceEqDiff, Nat.reduceAdd, Nat.reduceMul, ite_true, ite_false, if_true, if_false, eq_self_iff_true, ↓reduceIte, and_self, and_true, true_and, and_false, false_and, not_true_eq_false, not_false_eq_true, if_pos, if_neg]
          rw [rc]
          rcases y_n h3 (by rw [ln_s]; omega) (lo := 0) (hi := nI 15) (by omega) (hi_lit (by omega)) with ⟨Af, Bf, fc, fr, ff⟩ | ⟨A4, B4, p4, n4, k4, x4, v1, -, c4, d4, lo4, hi4, ten4, h4, l4, b4⟩
          · refine Or.inl ⟨Af, Bf, ?_, ?_, ff⟩
            · simp (disch := omega) only [c1, c2, c3, l77, u1, fc, f_IR_line, f_IR_line_61, f_IR_precedent, jp_c, decide_eq_true_eq, n_lit, n_eq, Option.bind_some, Nat.reduceEqDiff, Nat.reduceAdd, Nat.reduceMul, ite_true, ite_false, if_true, if_false, eq_self_iff_true, ↓reduceIte, and_self, and_true, true_and, and_false, false_and, not_true_eq_false, not_false_eq_true, if_pos, if_neg]
            · simp (disch := omega) only [f_M_readCite_58, n_lit, n_neg1, fr, jp_c, decide_eq_true_eq, Option.bind_some, Nat.reduceEqDiff, Nat.reduceAdd, Nat.reduceMul, ite_true, ite_false, if_true, if_false, eq_self_iff_true, ↓reduceIte, and_self, and_true, true_and, and_false, false_and, not_true_eq_false, not_false_eq_true, if_pos, if_neg]
          · have z4 : ¬ v1 = 4294967295 := by omega
            have h5 := y_st h4 (q := 124) (j := 16 + v0) (Or.inr (Or.inr ⟨rfl, by omega⟩)) (B4 124 (16 + v0) ||| ((1 : Int32) <<< (nI v1 &&& 31)))
            have s5 : (jp_set B4 124 (upd (B4 124) (16 + v0) (B4 124 (16 + v0) ||| ((1 : Int32) <<< (nI v1 &&& 31))))) 124 = upd (B 124) (16 + v0) (B 124 (16 + v0) ||| ((1 : Int32) <<< (nI v1 &&& 31))) := by rw [st_same, b4.2.2, b3.2.2, b2.2.2, b1.2.2]
            have r58 : f_M_readCite_58 (nI v0) B3 = (f_M_readMark (nI 59) (jp_set B4 124 (upd (B4 124) (16 + v0) (B4 124 (16 + v0) ||| ((1 : Int32) <<< (nI v1 &&& 31)))))).bind fun q5 => some (q5.1, q5.2) := by
              have z5 : jp_c .ne (nI v1) (nI 4294967295) = true := by simp only [jp_c, decide_eq_true_eq]; rw [n_eq (by omega) (by omega)]; exact z4
              have q1 : (-1 : Int32) = nI 4294967295 := by decide
              have q2 : (16 : Int32) + nI v0 = nI (16 + v0) := n_add 16 v0
              have q3 : jp_in (nI (16 + v0)) 32 := by rw [n_in (by omega)]; omega
              have q4 : f_M_readNumber (0 : Int32) (15 : Int32) B3 = some (nI v1, B4) := d4
              rw [f_M_readCite_58, q4, Option.bind_some]
              dsimp only
              rw [q1, if_pos z5, q2, jg_t q3, jg_t q3, n_cl (by omega)]
              rfl
            rw [r58]
            generalize jp_set B4 124 (upd (B4 124) (16 + v0) (B4 124 (16 + v0) ||| ((1 : Int32) <<< (nI v1 &&& 31)))) = B5 at h5 s5
            rcases y_s h5 with ⟨Af, fc, fr, ff⟩ | ⟨A6, B6, p6, n6, k6, x6, c6, i6, d6, h6, b6⟩
            · refine Or.inl ⟨Af, _, ?_, ?_, ff⟩
              · simp (disch := omega) only [c1, c2, c3, c4, l77, u1, fc, f_IR_line, f_IR_line_61, f_IR_precedent, jp_c, decide_eq_true_eq, n_lit, n_eq, Option.bind_some, Nat.reduceEqDiff, Nat.reduceAdd, Nat.reduceMul, ite_true, ite_false, if_true, if_false, eq_self_iff_true, ↓reduceIte, and_self, and_true, true_and, and_false, false_and, not_true_eq_false, not_false_eq_true, if_pos, if_neg]
              · rw [mark_w fr]; rfl
            · refine Or.inr ⟨A6, B6, p6, n6, k6, x6, v0, v1, ?_, ?_, h6, by omega, by omega, by rw [b6.2.2]; exact s5⟩
              · simp (disch := omega) only [c1, c2, c3, c4, c6, l77, u1, f_IR_line, f_IR_line_61, f_IR_precedent, jp_c, decide_eq_true_eq, n_lit, n_eq, Option.bind_some, Nat.reduceEqDiff, Nat.reduceAdd, Nat.reduceMul, ite_true, ite_false, if_true, if_false, eq_self_iff_true, ↓reduceIte, and_self, and_true, true_and, and_false, false_and, not_true_eq_false, not_false_eq_true, if_pos, if_neg]
              · rw [mark_ok i6 d6]; rfl
theorem y_78 {c N : Nat} {t : Nat → Nat} {A0 B0 A B : jp_M} {p n k x : Nat} {F : List Nat} {L : Nat} (h : YS c N t A0 B0 A B p n k x F L) : YS c N t A0 B0 (jp_set A 78 (upd (A 78) 0 (nI (L + 1)))) B p n k x F (L + 1) := by
  obtain ⟨hS, ⟨f1, f2, f3⟩, fb, e1, e2, e3⟩ := h
  refine ⟨?_, ⟨?_, ?_, ?_⟩, fb, ?_, ?_, ?_⟩
  · unfold Sy at hS ⊢
    simp only [st_ap, Nat.reduceEqDiff, Nat.reduceAdd, Nat.reduceMul, ite_true, ite_false, if_true, if_false, eq_self_iff_true, ↓reduceIte, and_self, and_true, true_and, and_false, false_and, not_true_eq_false, not_false_eq_true, if_pos, if_neg]; exact hS
  · intro q hq; rw [st_ne (nin_ne hq (by decide))]; exact f1 q hq
  · intro i hi; rw [st_ne (by decide)]; exact f2 i hi
  · intro i hi; rw [st_ne (by decide)]; exact f3 i hi
  · rw [st_ne (by decide)]; exact e1
  · intro i hi; rw [st_ne (by decide)]; exact e2 i hi
  · rw [st_same, ud_eq rfl]
/-- line by line -/
theorem l_loop {c N : Nat} {t : Nat → Nat} {A0 B0 : jp_M} (hc : c = 1 ∨ c = 2 ∨ c = 3) (gR : Nat → Int32 → jp_M → Option (Int32 × jp_M)) (ln : Int32 → jp_M → Option (Int32 × jp_M))
    (hg : ∀ m l M, gR (m + 1) l M = if jp_c .eq (f_M_isWord (nI (jlo c)) M) (nI 0) = true then (if jp_c .ne (M 104 16) (nI 0) = true then some ((f_M_errs (nI 1) M).1, (f_M_errs (nI 1) M).2) else some (l, M)) else (if jp_c .ne l (nI 16) = true then (ln l M).bind fun q3 => (if jp_c .ne q3.1 (nI 4294967295) = true then gR m (l + nI 1) (q3.2) else some (nI 4294967295, q3.2)) else some ((f_M_errs (nI 3) M).1, (f_M_errs (nI 3) M).2)))
    (Inv : jp_M → List Nat → Nat → Prop)
    (hline : ∀ (A B : jp_M) (p n k x : Nat) (F : List Nat) (L : Nat), YS c N t A0 B0 A B p n k x F L → Inv B F L → L < 16 →
      (∃ A' B', f_IR_line (nI c) (1000 + c) A = some (nI 0, A') ∧ ln (nI L) B = some (nI 4294967295, B') ∧ Fl2 A0 B0 A' B') ∨
      (∃ A' B' p' n' k' x' F', f_IR_line (nI c) (1000 + c) A = some (nI 1, A') ∧ ln (nI L) B = some (nI 0, B') ∧ YS c N t A0 B0 A' B' p' n' k' x' F' L ∧ Inv B' F' (L + 1))) :
    ∀ d (A B : jp_M) (p n k x : Nat) (F : List Nat) (L m mb : Nat), L + d = 16 → d < m → d < mb → YS c N t A0 B0 A B p n k x F L → Inv B F L →
      (∃ A' B', f_IR_reads_26 m (nI c) (nI L) (1000 + c) A = some (nI 0, A') ∧ gR mb (nI L) B = some (nI 4294967295, B') ∧ Fl2 A0 B0 A' B') ∨
      (∃ A' B' p' n' k' x' F' L', f_IR_reads_26 m (nI c) (nI L) (1000 + c) A = some (nI 1, A') ∧ gR mb (nI L) B = some (nI L', B') ∧ YS c N t A0 B0 A' B' p' n' k' x' F' L' ∧ Inv B' F' L' ∧ L' ≤ 16) := by
  have hlo : jlo c + 0 ≤ jhi c := by rcases hc with rfl | rfl | rfl <;> decide
  intro d
  induction d with
  | zero =>
    intro A B p n k x F L m mb hL hm hmb h hI
    obtain ⟨m, rfl⟩ : ∃ k, m = k + 1 := ⟨m - 1, by omega⟩
    obtain ⟨mb, rfl⟩ : ∃ k, mb = k + 1 := ⟨mb - 1, by omega⟩
    have hl : L = 16 := by omega
    subst hl
    have k5 : A 68 5 = nI k ∧ k ≤ 4 := by obtain ⟨hc', hN, tA, tB, hw, a1, b13, a3, a4, b15, b14, pn, nN, kp, k4, ka, kb⟩ := h.1; exact ⟨ka.1, k4⟩
    have k0 := (sy_k0 h.1).1
    have iw := sy_wA h.1 (w := 0) (by omega)
    have rw0 := sy_wB h.1 (w := 0) hlo
    rw [Nat.add_zero] at rw0
    rw [hg]
    by_cases hk0 : k = 0
    · rw [if_neg (by omega)] at rw0
      have k0' := k0.2 hk0
      refine Or.inr ⟨A, B, p, n, k, x, F, 16, ?_, ?_, h, hI, by omega⟩
      · simp (disch := omega) only [f_IR_reads_26, jp_c, decide_eq_true_eq, n_lit, n_lt, n_eq, k5.1, hk0, Nat.lt_irrefl, Nat.reduceEqDiff, Nat.reduceAdd, Nat.reduceMul, ite_true, ite_false, if_true, if_false, eq_self_iff_true, ↓reduceIte, and_self, and_true, true_and, and_false, false_and, not_true_eq_false, not_false_eq_true, if_pos, if_neg]
      · simp (disch := omega) only [rw0, k0', jp_c, decide_eq_true_eq, Nat.reduceEqDiff, Nat.reduceAdd, Nat.reduceMul, ite_true, ite_false, if_true, if_false, eq_self_iff_true, ↓reduceIte, and_self, and_true, true_and, and_false, false_and, not_true_eq_false, not_false_eq_true, if_pos, if_neg]
    · have k0' : ¬ B 104 16 = nI 0 := fun e => hk0 (k0.1 e)
      by_cases hw : k = 1 ∧ x = 0
      · rw [if_pos hw] at rw0 iw
        refine Or.inl ⟨(f_R_fails (nI 3) A).2, (f_M_errs (nI 3) B).2, ?_, ?_, y_fl h _⟩
        · simp (disch := omega) only [f_IR_reads_26, f_R_fails, jp_c, decide_eq_true_eq, n_lit, n_lt, n_eq, k5.1, hk0, iw, Nat.lt_irrefl, Nat.reduceEqDiff, Nat.reduceAdd, Nat.reduceMul, ite_true, ite_false, if_true, if_false, eq_self_iff_true, ↓reduceIte, and_self, and_true, true_and, and_false, false_and, not_true_eq_false, not_false_eq_true, if_pos, if_neg]
        · simp (disch := omega) only [rw0, jp_c, decide_eq_true_eq, n_eq, Nat.reduceEqDiff, Nat.reduceAdd, Nat.reduceMul, ite_true, ite_false, if_true, if_false, eq_self_iff_true, ↓reduceIte, and_self, and_true, true_and, and_false, false_and, not_true_eq_false, not_false_eq_true, if_pos, if_neg]
          rfl
      · rw [if_neg hw] at rw0 iw
        rcases y_w h (w := 0) hlo (by omega) with ⟨Af, fc, fr, ff⟩ | ⟨A', B', p', n', k', x', q1, q2, -⟩
        · refine Or.inl ⟨Af, _, ?_, ?_, ff⟩
          · simp (disch := omega) only [f_IR_reads_26, f_IR_reads_72, ln_fail fc, jp_c, decide_eq_true_eq, n_lit, n_lt, n_eq, k5.1, hk0, iw, Nat.lt_irrefl, Option.bind_some, Nat.reduceEqDiff, Nat.reduceAdd, Nat.reduceMul, ite_true, ite_false, if_true, if_false, eq_self_iff_true, ↓reduceIte, and_self, and_true, true_and, and_false, false_and, not_true_eq_false, not_false_eq_true, if_pos, if_neg]
          · simp (disch := omega) only [rw0, k0', jp_c, decide_eq_true_eq, n_eq, Nat.reduceEqDiff, Nat.reduceAdd, Nat.reduceMul, ite_true, ite_false, if_true, if_false, eq_self_iff_true, ↓reduceIte, and_self, and_true, true_and, and_false, false_and, not_true_eq_false, not_false_eq_true, if_pos, if_neg]
            rfl
        · rw [Nat.add_zero, rw0] at q2
          exact absurd q2 (by decide)
  | succ d ih =>
    intro A B p n k x F L m mb hL hm hmb h hI
    obtain ⟨m, rfl⟩ : ∃ k, m = k + 1 := ⟨m - 1, by omega⟩
    obtain ⟨mb, rfl⟩ : ∃ k, mb = k + 1 := ⟨mb - 1, by omega⟩
    have hl1 : ¬ 16 < L := by omega
    have hl2 : ¬ L = 16 := by omega
    have k5 : A 68 5 = nI k ∧ k ≤ 4 := by obtain ⟨hc', hN, tA, tB, hw, a1, b13, a3, a4, b15, b14, pn, nN, kp, k4, ka, kb⟩ := h.1; exact ⟨ka.1, k4⟩
    have k0 := (sy_k0 h.1).1
    have iw := sy_wA h.1 (w := 0) (by omega)
    have rw0 := sy_wB h.1 (w := 0) hlo
    rw [Nat.add_zero] at rw0
    rw [hg]
    by_cases hk0 : k = 0
    · rw [if_neg (by omega)] at rw0
      have k0' := k0.2 hk0
      refine Or.inr ⟨A, B, p, n, k, x, F, L, ?_, ?_, h, hI, by omega⟩
      · simp (disch := omega) only [f_IR_reads_26, jp_c, decide_eq_true_eq, n_lit, n_lt, n_eq, k5.1, hk0, hl1, Nat.reduceEqDiff, Nat.reduceAdd, Nat.reduceMul, ite_true, ite_false, if_true, if_false, eq_self_iff_true, ↓reduceIte, and_self, and_true, true_and, and_false, false_and, not_true_eq_false, not_false_eq_true, if_pos, if_neg]
      · simp (disch := omega) only [rw0, k0', jp_c, decide_eq_true_eq, Nat.reduceEqDiff, Nat.reduceAdd, Nat.reduceMul, ite_true, ite_false, if_true, if_false, eq_self_iff_true, ↓reduceIte, and_self, and_true, true_and, and_false, false_and, not_true_eq_false, not_false_eq_true, if_pos, if_neg]
    · have k0' : ¬ B 104 16 = nI 0 := fun e => hk0 (k0.1 e)
      by_cases hw : k = 1 ∧ x = 0
      · rw [if_pos hw] at rw0 iw
        rcases hline A B p n k x F L h hI (by omega) with ⟨A', B', q1, q2, q3⟩ | ⟨A', B', p', n', k', x', F', q1, q2, q3, q4⟩
        · refine Or.inl ⟨A', B', ?_, ?_, q3⟩
          · simp (disch := omega) only [f_IR_reads_26, f_IR_reads_72, q1, jp_c, decide_eq_true_eq, n_lit, n_lt, n_eq, k5.1, hk0, hl1, hl2, Option.bind_some, Nat.reduceEqDiff, Nat.reduceAdd, Nat.reduceMul, ite_true, ite_false, if_true, if_false, eq_self_iff_true, ↓reduceIte, and_self, and_true, true_and, and_false, false_and, not_true_eq_false, not_false_eq_true, if_pos, if_neg]
          · simp (disch := omega) only [rw0, q2, hl2, jp_c, decide_eq_true_eq, n_eq, Option.bind_some, Nat.reduceEqDiff, Nat.reduceAdd, Nat.reduceMul, ite_true, ite_false, if_true, if_false, eq_self_iff_true, ↓reduceIte, and_self, and_true, true_and, and_false, false_and, not_true_eq_false, not_false_eq_true, if_pos, if_neg]
        · have e3 := q3.2.2.2.2.2
          have r1 : f_IR_reads_26 (m + 1) (nI c) (nI L) (1000 + c) A = f_IR_reads_26 m (nI c) (nI (L + 1)) (1000 + c) (jp_set A' 78 (upd (A' 78) 0 (nI (L + 1)))) := by
            simp (disch := omega) only [f_IR_reads_26, f_IR_reads_72, q1, jp_c, decide_eq_true_eq, n_lit, n_add, n_lt, n_eq, k5.1, hk0, hl1, hl2, e3, Option.bind_some, Nat.reduceEqDiff, Nat.reduceAdd, Nat.reduceMul, ite_true, ite_false, if_true, if_false, eq_self_iff_true, ↓reduceIte, and_self, and_true, true_and, and_false, false_and, not_true_eq_false, not_false_eq_true, if_pos, if_neg]
          rw [r1]
          have r2 : (if jp_c .eq (f_M_isWord (nI (jlo c)) B) (nI 0) = true then (if jp_c .ne (B 104 16) (nI 0) = true then some ((f_M_errs (nI 1) B).1, (f_M_errs (nI 1) B).2) else some (nI L, B)) else (if jp_c .ne (nI L) (nI 16) = true then (ln (nI L) B).bind fun q3 => (if jp_c .ne q3.1 (nI 4294967295) = true then gR mb (nI L + nI 1) (q3.2) else some (nI 4294967295, q3.2)) else some ((f_M_errs (nI 3) B).1, (f_M_errs (nI 3) B).2))) = gR mb (nI (L + 1)) B' := by
            simp (disch := omega) only [rw0, q2, hl2, jp_c, decide_eq_true_eq, n_eq, n_add, Option.bind_some, Nat.reduceEqDiff, Nat.reduceAdd, Nat.reduceMul, ite_true, ite_false, if_true, if_false, eq_self_iff_true, ↓reduceIte, and_self, and_true, true_and, and_false, false_and, not_true_eq_false, not_false_eq_true, if_pos, if_neg]
          rw [r2]
          exact ih _ B' p' n' k' x' F' (L + 1) m mb (by omega) (by omega) (by omega) (y_78 q3) q4
      · rw [if_neg hw] at rw0 iw
        rcases y_w h (w := 0) hlo (by omega) with ⟨Af, fc, fr, ff⟩ | ⟨A', B', p', n', k', x', q1, q2, -⟩
        · refine Or.inl ⟨Af, _, ?_, ?_, ff⟩
          · simp (disch := omega) only [f_IR_reads_26, f_IR_reads_72, ln_fail fc, jp_c, decide_eq_true_eq, n_lit, n_lt, n_eq, k5.1, hk0, hl1, hl2, Option.bind_some, Nat.reduceEqDiff, Nat.reduceAdd, Nat.reduceMul, ite_true, ite_false, if_true, if_false, eq_self_iff_true, ↓reduceIte, and_self, and_true, true_and, and_false, false_and, not_true_eq_false, not_false_eq_true, if_pos, if_neg]
          · simp (disch := omega) only [rw0, k0', jp_c, decide_eq_true_eq, n_eq, Nat.reduceEqDiff, Nat.reduceAdd, Nat.reduceMul, ite_true, ite_false, if_true, if_false, eq_self_iff_true, ↓reduceIte, and_self, and_true, true_and, and_false, false_and, not_true_eq_false, not_false_eq_true, if_pos, if_neg]
            rfl
        · rw [Nat.add_zero, rw0] at q2
          exact absurd q2 (by decide)
