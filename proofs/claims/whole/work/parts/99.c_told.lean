theorem rPet_cg {pp n n' : Int32} {rw rw' rw2 : Nat → Int32} (h : rPet pp n n' rw rw') (e : ∀ i, i < 112 → rw2 i = rw' i) : rPet pp n n' rw rw2 := by
  obtain ⟨P, N, h1, h2, h3, h4, h5, h6, h7⟩ := h
  exact ⟨P, N, h1, h2, h3, h4, h5, fun j hj => by rw [e j (by omega)]; exact h6 j hj, h7⟩
theorem rLease_cg {n n' : Int32} {l l' l2 : Nat → Int32} (h : rLease n n' l l') (e : ∀ i, i < 10 → l2 i = l' i) : rLease n n' l l2 :=
  ⟨h.1, fun r hr => by rw [e r hr]; exact h.2 r hr⟩
theorem rCite_cg {n n' : Int32} {rw c c2 : Nat → Int32} (h : rCite n n' rw c) (e : ∀ i, i < 16 → c2 i = c i) : rCite n n' rw c2 := by
  obtain ⟨N, h1, h2, h3, h4, h5⟩ := h
  exact ⟨N, h1, h2, h3, h4, fun i hi => by rw [e i hi]; exact h5 i hi⟩
/-- what stands when the other texts are begun -/
def TB (A B A3 B1 : jp_M) : Prop := (∀ q, q ∉ [0, 68, 77, 78] → A3 q = A q) ∧ (∀ i, ¬ i = 11 → A3 0 i = A 0 i) ∧ A3 0 11 = nI 0 ∧ A3 68 7 = nI 0 ∧ A3 68 8 = nI 4294967295 ∧ A3 77 4 = A 2 4 ∧ A3 77 5 = A 2 5 ∧
  (∀ q, ¬ q = 104 → B1 q = B q) ∧ B1 104 33 = nI 0 ∧ B1 104 34 = nI 4294967295 ∧ (∀ i, i ∉ [0, 14, 15, 16, 17, 26, 27, 28, 33, 34] → B1 104 i = B 104 i)
theorem tx_c {A B : jp_M} (hR : Rel A B) {c : Nat} (hc : c = 1 ∨ c = 2 ∨ c = 3) (w : Nat) :
    ∃ (N : Nat) (t : Nat → Nat) (A3 B1 : jp_M) (p n k x : Nat), f_C_text (nI c) w A = ((f_IR_reads_26 jFu (nI c) (nI 0) (1000 + c) A3).bind fun q4 => (if jp_c .ne q4.1 (nI 0) = true then ((f_A_isTold (nI c) q4.2).bind fun q5 => (if jp_c .eq (nI c) (nI 3) = true then some (q5 78 0, 1000 + c, q5) else some (f_C_forgetKept q5 78 0, 1000 + c, f_C_forgetKept q5))) else some (nI 4294967295, 1000 + c, q4.2))) ∧
      f_M_reads (jp_set B 104 (upd (upd (upd (upd (upd (upd (upd (B 104) 0 (nI 0)) 33 (nI 0)) 34 (nI 4294967295)) 14 (nI 0)) 27 (nI 0)) 28 (nI 0)) 26 (nI 0))) = some B1 ∧ YS c N t A3 B1 A3 B1 p n k x [] 0 ∧ TB A B A3 B1 := by
  obtain ⟨N, t, A1, B1, p, n, k, x, o1, o2, o3, o4, o5, o6, o7, o8, o9, o10, o11, o12, o13⟩ := tx_open hR (c := c) (a := nI c) (by omega) (Or.inr ⟨by omega, rfl⟩) w
  generalize hA2 : jp_set A1 0 (upd (A1 0) 11 (nI 0)) = A2
  have a2 : ∀ q, ¬ q = 0 → ¬ q = 68 → A2 q = A q := fun q h0 h1 => by rw [← hA2, st_ne h0, o4 q h1]
  have a20 : ∀ i, ¬ i = 11 → A2 0 i = A 0 i := fun i hi => by rw [← hA2, st_same, ud_ne hi, o4 0 (by decide)]
  have a211 : A2 0 11 = nI 0 := by rw [← hA2, st_same, ud_eq rfl]
  have a268 : A2 68 = A1 68 := by rw [← hA2, st_ne (by decide)]
  generalize hA3 : jp_set (jp_set (jp_set A2 77 (upd (upd (A2 77) 4 (A2 2 4)) 5 (A2 2 5))) 78 (upd (A2 78) 0 (nI 0))) 77 (upd (upd (upd (A2 77) 4 (A2 2 4)) 5 (A2 2 5)) 2 (nI 0)) = A3
  have a3 : ∀ q, ¬ q = 77 → ¬ q = 78 → A3 q = A2 q := fun q h0 h1 => by rw [← hA3, st_ne h0, st_ne h1, st_ne h0]
  have a377 : A3 77 = upd (upd (upd (A2 77) 4 (A2 2 4)) 5 (A2 2 5)) 2 (nI 0) := by rw [← hA3, st_same]
  have a378 : A3 78 = upd (A2 78) 0 (nI 0) := by rw [← hA3, st_ne (by decide), st_same]
  refine ⟨N, t, A3, B1, p, n, k, x, ?_, o2, ⟨?_, ⟨fun _ _ => rfl, fun _ _ => rfl, fun _ _ => rfl⟩, ⟨fun _ _ => rfl, fun _ _ => rfl, fun _ _ => rfl, fun _ _ => rfl, fun _ _ => rfl⟩, ?_, ?_, ?_⟩, ⟨?_, ?_, ?_, ?_, ?_, ?_, ?_, o7, o11, o12, o13⟩⟩
  · have hw : f_C_within (nI c) (nI 3) = nI 1 := by rcases hc with rfl | rfl | rfl <;> decide
    have hc0 : ¬ c = 0 := by omega
    have hir : f_IR_reads (nI c) (A2 2 4) (A2 2 5) (1000 + c) A2 = f_IR_reads_26 jFu (nI c) (nI 0) (1000 + c) A3 := by
      simp only [f_IR_reads, n_lit, st_ap, st_st, hA3, Nat.reduceEqDiff, Nat.reduceAdd, Nat.reduceMul, ite_true, ite_false, if_true, if_false, eq_self_iff_true, ↓reduceIte, and_self, and_true, true_and, and_false, false_and, not_true_eq_false, not_false_eq_true, if_pos, if_neg]
    simp (disch := omega) only [f_C_text, o1, hA2, hir, hw, n_lit, n_neg1, Option.bind_some]
    rw [if_pos (show jp_c .ne (nI c) (nI 0) = true by simp only [jp_c, decide_eq_true_eq]; rw [n_eq (by omega) (by omega)]; exact hc0), if_neg (by decide)]
    rfl
  · unfold Sy at o3 ⊢
    rw [a3 67 (by decide) (by decide), a3 68 (by decide) (by decide), a268, ← hA2, st_ne (show ¬ 67 = 0 by decide)]
    exact o3
  · rw [a377, ud_eq rfl]; rfl
  · intro i hi; exact absurd hi (by simp)
  · rw [a378, ud_eq rfl]
  · intro q hq; rw [a3 q (nin_ne hq (by decide)) (nin_ne hq (by decide)), a2 q (nin_ne hq (by decide)) (nin_ne hq (by decide))]
  · intro i hi; rw [a3 0 (by decide) (by decide)]; exact a20 i hi
  · rw [a3 0 (by decide) (by decide)]; exact a211
  · rw [a3 68 (by decide) (by decide), a268]; exact o5
  · rw [a3 68 (by decide) (by decide), a268]; exact o6
  · rw [a377, ud_ne (by decide), ud_ne (by decide), ud_eq rfl, a2 2 (by decide) (by decide)]
  · rw [a377, ud_ne (by decide), ud_eq rfl, a2 2 (by decide) (by decide)]
/-- a fault -/
theorem tx_f {A B A3 B1 A' B' : jp_M} (hR : Rel A B) (hT : TB A B A3 B1) (hf : Fl2 A3 B1 A' B') : Rel A' (jp_set B' 104 (upd (upd (upd (B' 104) 33 (B' 104 31)) 34 (B' 104 32)) 13 (nI 0))) := by
  have hR' := hR
  obtain ⟨⟨hW, hBk, hLw, hPe, hLe, hCi, hWi, hKi, hPo, hWy, hVo⟩, hPic, hKe, hTa, hFa, hTh, hWd⟩ := hR
  obtain ⟨t1, t2, t3, t4, t5, t6, t7, t8, t9, t10, t11⟩ := hT
  obtain ⟨f1, f2, f3, f4, f5, f6, f7, f8⟩ := hf
  have e1 : ∀ q, q ∉ [0, 68, 77, 78, 79] → A' q = A q := fun q hq => by rw [f3 q (nin_sub hq (by decide)), t1 q (nin_sub hq (by decide))]
  have e2 : ∀ q, q ∉ [104, 122, 123, 124] → B' q = B q := fun q hq => by rw [f4 q hq, t8 q (nin_ne hq (by decide))]
  refine Rel_tx hR' ?_ ?_ ?_ ?_ ?_ ?_ ?_ ?_ ?_ ?_ ?_
  · intro q hq; exact e1 q (nin_sub hq (by decide))
  · intro i hi; rw [f3 0 (by decide)]; exact t2 i (nin_ne hi (by decide))
  · intro q hq; rw [st_ne (nin_ne hq (by decide))]; exact e2 q (nin_sub hq (by decide))
  · intro i hi
    rw [st_same, ud_ne (nin_ne hi (by decide)), ud_ne (nin_ne hi (by decide)), ud_ne (nin_ne hi (by decide)), f5 i (nin_sub hi (by decide)), t11 i (nin_sub hi (by decide))]
  · simp only [st_ap, Nat.reduceEqDiff, Nat.reduceAdd, Nat.reduceMul, ite_true, ite_false, if_true, if_false, eq_self_iff_true, ↓reduceIte, and_self, and_true, true_and, and_false, false_and, not_true_eq_false, not_false_eq_true, if_pos, if_neg]
    rw [e1 7 (by decide), e1 8 (by decide), e1 9 (by decide), e1 10 (by decide), e1 11 (by decide), e2 114 (by decide), e2 115 (by decide), e2 116 (by decide), e2 117 (by decide), e2 118 (by decide), e2 119 (by decide), e2 120 (by decide)]
    exact hLw
  · rw [e1 14 (by decide), e1 15 (by decide), st_same, st_ne (by decide)]
    simp (disch := decide) only [ud_ne]
    rw [f5 35 (by decide), t11 35 (by decide)]
    exact rPet_cg hPe (fun i hi => by rw [f6 i hi, t8 122 (by decide)])
  · rw [e1 1 (by decide), e1 16 (by decide), st_same, st_ne (by decide)]
    simp (disch := decide) only [ud_ne]
    rw [f5 37 (by decide), t11 37 (by decide)]
    exact rLease_cg hLe (fun i hi => by rw [f7 i hi, t8 123 (by decide)])
  · rw [e1 17 (by decide), e1 18 (by decide), st_same, st_ne (by decide)]
    simp (disch := decide) only [ud_ne]
    rw [f5 39 (by decide), t11 39 (by decide)]
    exact rCite_cg hCi (fun i hi => by rw [f8 i hi, t8 124 (by decide)])
  · rw [f3 0 (by decide), st_same, ud_eq rfl]; exact ⟨t3, rfl⟩
  · rw [st_same]
    simp (disch := decide) only [ud_ne, ud_eq]
    exact ⟨f1, f2⟩
  · left
    refine ⟨by rw [f3 0 (by decide), t2 4 (by decide)], ?_⟩
    rw [st_same]
    simp (disch := decide) only [ud_ne]
    rw [f5 3 (by decide), t11 3 (by decide)]
/-- both texts, read by their lines -/
theorem tx_end {A B A3 B1 : jp_M} {c w : Nat} (hR : Rel A B) (hc : c = 1 ∨ c = 2 ∨ c = 3) (hT : TB A B A3 B1) (oR : Option (Int32 × jp_M))
    (e1 : f_C_text (nI c) w A = ((f_IR_reads_26 jFu (nI c) (nI 0) (1000 + c) A3).bind fun q4 => (if jp_c .ne q4.1 (nI 0) = true then ((f_A_isTold (nI c) q4.2).bind fun q5 => (if jp_c .eq (nI c) (nI 3) = true then some (q5 78 0, 1000 + c, q5) else some (f_C_forgetKept q5 78 0, 1000 + c, f_C_forgetKept q5))) else some (nI 4294967295, 1000 + c, q4.2))))
    (e2 : f_M_readsText (nI c) (jp_set B 104 (upd (upd (upd (upd (upd (upd (B 104) 0 (nI 0)) 33 (nI 0)) 34 (nI 4294967295)) 14 (nI 0)) 27 (nI 0)) 28 (nI 0))) = oR.bind fun q => some (q.1, q.2))
    (h : (∃ A' B', f_IR_reads_26 jFu (nI c) (nI 0) (1000 + c) A3 = some (nI 0, A') ∧ oR = some (nI 4294967295, B') ∧ Fl2 A3 B1 A' B') ∨
      (∃ A' B' L A'' B'', f_IR_reads_26 jFu (nI c) (nI 0) (1000 + c) A3 = some (nI 1, A') ∧ oR = some (nI L, B') ∧ L ≤ 16 ∧ f_A_isTold (nI c) A' = some A'' ∧ A'' 78 0 = nI L ∧ f_M_takesOther (nI c) (nI L) (jp_set B' 104 (upd (B' 104) 13 (nI 0))) = some B'' ∧ (if c = 3 then Rel A'' B'' else Rel (f_C_forgetKept A'') B'') ∧ ∀ q, 104 ≤ q → A'' q = A q)) : tOK A (f_C_text (nI c) w A) (f_M_text (nI c) B) := by
  rw [e1, tx_reads (nI c) B (by rcases hc with rfl | rfl | rfl <;> decide), e2]
  rcases h with ⟨A', B', q1, q2, q3⟩ | ⟨A', B', L, A'', B'', q1, q2, q3, q4, q5, q6, q7, q8⟩
  · refine ⟨nI 4294967295, 1000 + c, A', jp_set B' 104 (upd (upd (upd (B' 104) 33 (B' 104 31)) 34 (B' 104 32)) 13 (nI 0)), ?_, ?_, tx_f hR hT q3, fun q hq => by rw [q3.2.2.1 q (by simp only [List.mem_cons, List.not_mem_nil, or_false, not_or]; omega), hT.1 q (by simp only [List.mem_cons, List.not_mem_nil, or_false, not_or]; omega)]⟩
    · simp (disch := omega) only [q1, jp_c, decide_eq_true_eq, Option.bind_some, Nat.reduceEqDiff, Nat.reduceAdd, Nat.reduceMul, ite_true, ite_false, if_true, if_false, eq_self_iff_true, ↓reduceIte, and_self, and_true, true_and, and_false, false_and, not_true_eq_false, not_false_eq_true, if_pos, if_neg]
    · simp (disch := omega) only [q2, f_M_text_69, jp_c, decide_eq_true_eq, n_lit, n_neg1, n_eq, st_st, st_ap, ud_ap, Option.bind_some, Nat.reduceEqDiff, Nat.reduceAdd, Nat.reduceMul, ite_true, ite_false, if_true, if_false, eq_self_iff_true, ↓reduceIte, and_self, and_true, true_and, and_false, false_and, not_true_eq_false, not_false_eq_true, if_pos, if_neg]
  · have rn : ¬ L = 4294967295 := by omega
    have c0 : ¬ c = 0 := by omega
    have r2 : ((oR.bind fun q => some (q.1, q.2)).bind fun q8 => (
        if jp_c .ne q8.1 (-1 : Int32) = true then (
        f_M_text_69 (nI c) (q8.1) (q8.2)) else (
        let M9 := jp_set q8.2 104 (upd (q8.2 104) 33 (q8.2 104 31))
        let M10 := jp_set M9 104 (upd (M9 104) 34 (M9 104 32))
        f_M_text_69 (nI c) (q8.1) M10))) = some (nI L, B'') := by
      simp (disch := omega) only [q2, f_M_text_69, jp_c, decide_eq_true_eq, n_lit, n_neg1, n_eq, rn, c0, q6, Option.bind_some, Nat.reduceEqDiff, Nat.reduceAdd, Nat.reduceMul, ite_true, ite_false, if_true, if_false, eq_self_iff_true, ↓reduceIte, and_self, and_true, true_and, and_false, false_and, not_true_eq_false, not_false_eq_true, if_pos, if_neg]
    by_cases h3 : c = 3
    · rw [if_pos h3] at q7
      refine ⟨nI L, 1000 + c, A'', B'', ?_, r2, q7, q8⟩
      subst h3
      simp (disch := omega) only [q1, q4, q5, jp_c, decide_eq_true_eq, n_eq, Option.bind_some, Nat.reduceEqDiff, Nat.reduceAdd, Nat.reduceMul, ite_true, ite_false, if_true, if_false, eq_self_iff_true, ↓reduceIte, and_self, and_true, true_and, and_false, false_and, not_true_eq_false, not_false_eq_true, if_pos, if_neg]
    · rw [if_neg h3] at q7
      refine ⟨nI L, 1000 + c, f_C_forgetKept A'', B'', ?_, r2, q7, fun q hq => by rw [f_C_forgetKept, st_ne (by omega)]; exact q8 q hq⟩
      have q5' : f_C_forgetKept A'' 78 0 = nI L := by rw [f_C_forgetKept, st_ne (by decide)]; exact q5
      simp (disch := omega) only [q1, q4, q5', h3, jp_c, decide_eq_true_eq, n_eq, Option.bind_some, Nat.reduceEqDiff, Nat.reduceAdd, Nat.reduceMul, ite_true, ite_false, if_true, if_false, eq_self_iff_true, ↓reduceIte, and_self, and_true, true_and, and_false, false_and, not_true_eq_false, not_false_eq_true, if_pos, if_neg]
/-! petitions -/
theorem l_to47 {n : Nat} (hn : n ≤ 16) : ∀ d i, i + d = 7 * n → ∀ m, d < m → ∀ B : jp_M, ∃ B', f_M_takesOther_47 m (nI n) (nI i) B = some B' ∧ (∀ q, ¬ q = 104 → ¬ q = 122 → B' q = B q) ∧ B' 104 = upd (upd (B 104) 35 (nI n)) 3 (nI 0) ∧ ∀ j, B' 122 j = if i ≤ j ∧ j < 7 * n then B 122 (112 + j) else B 122 j := by
  intro d
  induction d with
  | zero =>
    intro i hi m hm B
    obtain ⟨m, rfl⟩ : ∃ k, m = k + 1 := ⟨m - 1, by omega⟩
    have : 7 * n ≤ i := by omega
    refine ⟨jp_set B 104 (upd (upd (B 104) 35 (nI n)) 3 (nI 0)), ?_, fun q h1 _ => st_ne h1, st_same _ _ _, fun j => by rw [st_ne (by decide), if_neg (by omega)]⟩
    simp (disch := omega) only [f_M_takesOther_47, jp_c, decide_eq_true_eq, n_lit, n_mul, n_le, this, st_st, st_ap, Nat.reduceEqDiff, Nat.reduceAdd, Nat.reduceMul, ite_true, ite_false, if_true, if_false, eq_self_iff_true, ↓reduceIte, and_self, and_true, true_and, and_false, false_and, not_true_eq_false, not_false_eq_true, if_pos, if_neg]
  | succ d ih =>
    intro i hi m hm B
    obtain ⟨m, rfl⟩ : ∃ k, m = k + 1 := ⟨m - 1, by omega⟩
    have hc' : ¬ 7 * n ≤ i := by omega
    obtain ⟨B', b1, b2, b3, b4⟩ := ih (i + 1) (by omega) m (by omega) (jp_set B 122 (upd (B 122) i (B 122 (112 + i))))
    refine ⟨B', ?_, ?_, ?_, ?_⟩
    · rw [← b1]
      simp (disch := omega) only [f_M_takesOther_47, jp_c, decide_eq_true_eq, n_lit, n_add, n_mul, n_le, n_in, n_cl, hc', jg_t, Nat.reduceEqDiff, Nat.reduceAdd, Nat.reduceMul, ite_true, ite_false, if_true, if_false, eq_self_iff_true, ↓reduceIte, and_self, and_true, true_and, and_false, false_and, not_true_eq_false, not_false_eq_true, if_pos, if_neg]
    · intro q h1 h2; rw [b2 q h1 h2, st_ne h2]
    · rw [b3, st_ne (by decide)]
    · intro j
      rw [b4 j, st_same]
      by_cases hj : j = i
      · subst hj
        rw [if_neg (by omega), ud_eq rfl, if_pos ⟨Nat.le_refl _, by omega⟩]
      · by_cases hr : i ≤ j ∧ j < 7 * n
        · rw [if_pos (by omega), ud_ne (by omega), if_pos hr]
        · rw [if_neg (by omega), ud_ne hj, if_neg hr]
theorem gd7 {F : List Nat} {v0 v1 v2 v3 v4 v5 v6 i : Nat} : (F ++ [v0] ++ [v1] ++ [v2] ++ [v3] ++ [v4] ++ [v5] ++ [v6]).getD i 0 = if i < F.length then F.getD i 0 else [v0, v1, v2, v3, v4, v5, v6].getD (i - F.length) 0 := by
  have e : F ++ [v0] ++ [v1] ++ [v2] ++ [v3] ++ [v4] ++ [v5] ++ [v6] = F ++ [v0, v1, v2, v3, v4, v5, v6] := by simp only [List.append_assoc, List.cons_append, List.nil_append]
  rw [e, List.getD_eq_getElem?_getD]
  by_cases h : i < F.length
  · rw [if_pos h, List.getElem?_append_left h, List.getD_eq_getElem?_getD]
  · rw [if_neg h, List.getElem?_append_right (by omega), List.getD_eq_getElem?_getD]
theorem gd2 {F : List Nat} {v0 v1 i : Nat} : (F ++ [v0] ++ [v1]).getD i 0 = if i < F.length then F.getD i 0 else [v0, v1].getD (i - F.length) 0 := by
  have e : F ++ [v0] ++ [v1] = F ++ [v0, v1] := by simp only [List.append_assoc, List.cons_append, List.nil_append]
  rw [e, List.getD_eq_getElem?_getD]
  by_cases h : i < F.length
  · rw [if_pos h, List.getElem?_append_left h, List.getD_eq_getElem?_getD]
  · rw [if_neg h, List.getElem?_append_right (by omega), List.getD_eq_getElem?_getD]
def Inv1 (P : Nat) (B : jp_M) (F : List Nat) (L : Nat) : Prop := F.length = 7 * L ∧ (∀ i, i < F.length → B 122 (112 + i) = nI (F.getD i 0)) ∧ ∀ i, i < L → F.getD (7 * i + 1) 0 < P ∧ F.getD (7 * i + 3) 0 ≤ 9 ∧ F.getD (7 * i + 4) 0 ≤ F.getD (7 * i + 5) 0 ∧ F.getD (7 * i + 5) 0 ≤ 7
theorem p_text1 (w : Nat) {A B : jp_M} (hR : Rel A B) : tOK A (f_C_text (nI 1) w A) (f_M_text (nI 1) B) := by
  obtain ⟨N, t, A3, B1, p, n, k, x, e1, o2, hY, hT⟩ := tx_c hR (c := 1) (Or.inl rfl) w
  have hR' := hR
  obtain ⟨⟨hW, hBk, hLw, hPe, hLe, hCi, hWi, hKi, hPo, hWy, hVo⟩, hPic, hKe, hTa, hFa, hTh, hWd⟩ := hR
  obtain ⟨P, S, U, hP, hS, hU, g4, g5, g6, -, -, -⟩ := hW.2
  have pB : B 104 6 = nI P := by rw [← hW.1.1.2.2.2.2.1, g4]
  have hT' := hT
  obtain ⟨t1, t2, t3, t4, t5, t6, t7, t8, t9, t10, t11⟩ := hT
  have e2 : f_M_readsText (nI 1) (jp_set B 104 (upd (upd (upd (upd (upd (upd (B 104) 0 (nI 0)) 33 (nI 0)) 34 (nI 4294967295)) 14 (nI 0)) 27 (nI 0)) 28 (nI 0))) = (f_M_readPetitions B1).bind fun q => some (q.1, q.2) := by
    simp (disch := omega) only [f_M_readsText, jp_c, decide_eq_true_eq, n_lit, n_eq, st_st, st_ap, o2, Option.bind_some, Nat.reduceEqDiff, Nat.reduceAdd, Nat.reduceMul, ite_true, ite_false, if_true, if_false, eq_self_iff_true, ↓reduceIte, and_self, and_true, true_and, and_false, false_and, not_true_eq_false, not_false_eq_true, if_pos, if_neg]
  have loop := l_loop (c := 1) (N := N) (t := t) (A0 := A3) (B0 := B1) (Or.inl rfl) f_M_readPetitions_2 (fun l M => f_M_readPetition (nI 112 + nI 7 * l) M)
    (fun m l M => by simp only [f_M_readPetitions_2, n_lit, n_neg1, show jlo 1 = 17 from rfl]; rfl) (Inv1 P)
    (by
      intro A B p n k x F L h hI hL
      obtain ⟨i1, i2, i3⟩ := hI
      have el : nI 112 + nI 7 * nI L = nI (112 + 7 * L) := by rw [n_mul, n_add]
      simp only [el]
      rcases l_pet h i1 hL i2 (by rw [t6]; exact g4) (by rw [t11 6 (by decide)]; exact pB) hP with h' | ⟨A', B', p', n', k', x', v0, v1, v2, v3, v4, v5, v6, q1, q2, q3, q4, q5, q6, q7, q8⟩
      · exact Or.inl h'
      · refine Or.inr ⟨A', B', p', n', k', x', _, q1, q2, q3, ?_, q4, ?_⟩
        · simp only [ln_s, i1]; omega
        · intro i hi
          simp only [gd7, i1]
          by_cases he : i = L
          · subst he
            rw [if_neg (by omega), if_neg (by omega), if_neg (by omega), if_neg (by omega), show 7 * i + 1 - 7 * i = 1 by omega, show 7 * i + 3 - 7 * i = 3 by omega, show 7 * i + 4 - 7 * i = 4 by omega, show 7 * i + 5 - 7 * i = 5 by omega]
            exact ⟨q5, q6, q7, q8⟩
          · rw [if_pos (by omega), if_pos (by omega), if_pos (by omega), if_pos (by omega)]
            exact i3 i (by omega))
    16 A3 B1 p n k x [] 0 jFu jFu rfl (show 16 < 100000 by omega) (show 16 < 100000 by omega) hY ⟨rfl, fun i hi => absurd hi (by simp), fun i hi => absurd hi (by omega)⟩
  refine tx_end hR' (Or.inl rfl) hT' (f_M_readPetitions B1) e1 e2 ?_
  rcases loop with h | ⟨A', B', p', n', k', x', F, L, q1, q2, q3, q4, q5⟩
  · exact Or.inl h
  · right
    obtain ⟨i1, i2, i3⟩ := q4
    obtain ⟨hS', ⟨f1, f2, f3⟩, ⟨b1, b2, b3, b4, b5⟩, y1, y2, y3⟩ := q3
    obtain ⟨B'', c1, c2, c3, c4⟩ := l_to47 q5 (7 * L) 0 (by omega) jFu (show 7 * L < 100000 by omega) (jp_set B' 104 (upd (B' 104) 13 (nI 0)))
    rw [st_same] at c3
    refine ⟨A', B', L, jp_set (jp_set A' 14 (upd (A' 14) 0 (nI L))) 15 (va_cpy (A' 79) (A' 15) 0 0 112), B'', q1, q2, q5, ?_, ?_, ?_, ?_, fun q hq => by rw [st_ne (by omega), st_ne (by omega), f1 q (by simp only [List.mem_cons, List.not_mem_nil, or_false, not_or]; omega), t1 q (by simp only [List.mem_cons, List.not_mem_nil, or_false, not_or]; omega)]⟩
    · simp (disch := omega) only [f_A_isTold, f_S_becomes, jp_min, jp_c, decide_eq_true_eq, n_lit, n_lt, n_le, n_cl, st_ap, st_st, y3, jg_t, Nat.lt_irrefl, Option.bind_some, Nat.reduceEqDiff, Nat.reduceAdd, Nat.reduceMul, ite_true, ite_false, if_true, if_false, eq_self_iff_true, ↓reduceIte, and_self, and_true, true_and, and_false, false_and, not_true_eq_false, not_false_eq_true, if_pos, if_neg]
    · rw [st_ne (by decide), st_ne (by decide)]; exact y3
    · rw [← c1]
      simp (disch := omega) only [f_M_takesOther, jp_c, decide_eq_true_eq, n_lit, n_eq, Nat.reduceEqDiff, Nat.reduceAdd, Nat.reduceMul, ite_true, ite_false, if_true, if_false, eq_self_iff_true, ↓reduceIte, and_self, and_true, true_and, and_false, false_and, not_true_eq_false, not_false_eq_true, if_pos, if_neg]
    · rw [if_neg (by decide)]
      have a1 : ∀ q, q ∉ [0, 14, 15, 68, 77, 78, 79] → f_C_forgetKept (jp_set (jp_set A' 14 (upd (A' 14) 0 (nI L))) 15 (va_cpy (A' 79) (A' 15) 0 0 112)) q = A q := fun q hq => by
        rw [f_C_forgetKept, st_ne (nin_ne hq (by decide)), st_ne (nin_ne hq (by decide)), st_ne (nin_ne hq (by decide)), f1 q (nin_sub hq (by decide)), t1 q (nin_sub hq (by decide))]
      have b1' : ∀ q, q ∉ [104, 122, 123, 124] → B'' q = B q := fun q hq => by
        rw [c2 q (nin_ne hq (by decide)) (nin_ne hq (by decide)), st_ne (nin_ne hq (by decide)), b1 q hq, t8 q (nin_ne hq (by decide))]
      refine Rel_tx hR' ?_ ?_ ?_ ?_ ?_ ?_ ?_ ?_ ?_ ?_ ?_
      · intro q hq; exact a1 q (nin_sub hq (by decide))
      · intro i hi
        rw [f_C_forgetKept, st_same, ud_ne (nin_ne hi (by decide)), st_ne (by decide), st_ne (by decide), f1 0 (by decide)]
        exact t2 i (nin_ne hi (by decide))
      · intro q hq; exact b1' q (nin_sub hq (by decide))
      · intro i hi
        rw [c3, ud_ne (nin_ne hi (by decide)), ud_ne (nin_ne hi (by decide)), ud_ne (nin_ne hi (by decide)), b2 i (nin_sub hi (by decide)), t11 i (nin_sub hi (by decide))]
      · rw [a1 7 (by decide), a1 8 (by decide), a1 9 (by decide), a1 10 (by decide), a1 11 (by decide), b1' 114 (by decide), b1' 115 (by decide), b1' 116 (by decide), b1' 117 (by decide), b1' 118 (by decide), b1' 119 (by decide), b1' 120 (by decide)]
        exact hLw
      · have e14 : f_C_forgetKept (jp_set (jp_set A' 14 (upd (A' 14) 0 (nI L))) 15 (va_cpy (A' 79) (A' 15) 0 0 112)) 14 0 = nI L := by
          rw [f_C_forgetKept, st_ne (by decide), st_ne (by decide), st_same, ud_eq rfl]
        have e15 : ∀ j, j < 7 * L → f_C_forgetKept (jp_set (jp_set A' 14 (upd (A' 14) 0 (nI L))) 15 (va_cpy (A' 79) (A' 15) 0 0 112)) 15 j = nI (F.getD j 0) := by
          intro j hj
          rw [f_C_forgetKept, st_ne (by decide), st_same, cp_in (by omega)]
          exact y2 j (by omega)
        rw [e14, c3, ud_ne (by decide), ud_eq rfl]
        refine ⟨P, L, hP, q5, g4, rfl, rfl, ?_, ?_⟩
        · intro j hj
          rw [e15 j hj, c4 j, if_pos ⟨Nat.zero_le _, hj⟩, st_ne (by decide), i2 j (by omega)]
        · intro i hi
          obtain ⟨j1, j2, j3, j4⟩ := i3 i hi
          exact ⟨_, _, _, _, j1, j2, j3, j4, e15 _ (by omega), e15 _ (by omega), e15 _ (by omega), e15 _ (by omega)⟩
      · rw [a1 1 (by decide), a1 16 (by decide), c3]
        simp (disch := decide) only [ud_ne]
        rw [b2 37 (by decide), t11 37 (by decide), c2 123 (by decide) (by decide), st_ne (by decide)]
        exact rLease_cg hLe (fun i hi => by rw [b4 i hi, t8 123 (by decide)])
      · rw [a1 17 (by decide), a1 18 (by decide), c3]
        simp (disch := decide) only [ud_ne]
        rw [b2 39 (by decide), t11 39 (by decide), c2 124 (by decide) (by decide), st_ne (by decide)]
        exact rCite_cg hCi (fun i hi => by rw [b5 i hi, t8 124 (by decide)])
      · refine ⟨?_, ?_⟩
        · rw [f_C_forgetKept, st_same, ud_ne (by decide), st_ne (by decide), st_ne (by decide), f1 0 (by decide)]; exact t3
        · rw [c3]; simp (disch := decide) only [ud_ne, ud_eq]
      · rw [c3]
        simp (disch := decide) only [ud_ne]
        rw [f_C_forgetKept, st_ne (by decide), st_ne (by decide), st_ne (by decide), f2 7 (by decide), f2 8 (by decide), t4, t5, b2 33 (by decide), b2 34 (by decide), t9, t10]
        exact ⟨rfl, rfl⟩
      · right
        refine ⟨?_, ?_⟩
        · rw [f_C_forgetKept, st_same, ud_eq rfl]; rfl
        · rw [c3, ud_eq rfl]
