theorem ty_num {s s' : List Nat} {E : List (Nat × Int32)} {v : Nat} (hs : s.length ≤ 28) (hv : v < 10000) (h : jtyp E ((if v = 0 then 0 else 1) :: s) s') : jtyp ((0, nI v) :: E) s s' := by
  rw [jtyp]; exact ⟨hs, Or.inl ⟨rfl, v, hv, rfl, h⟩⟩
theorem ty_fact {s s' : List Nat} {E : List (Nat × Int32)} {v : Nat} (hs : s.length ≤ 28) (hv : v < 10) (h : jtyp E (0 :: s) s') : jtyp ((1, nI v) :: E) s s' := by
  rw [jtyp]; exact ⟨hs, Or.inr (Or.inl ⟨rfl, v, hv, rfl, h⟩)⟩
theorem ty_bin {k : Nat} {w : Int32} {x y : Nat} {s s' : List Nat} {E : List (Nat × Int32)} (hs : s.length ≤ 26) (hk : 2 ≤ k) (hk' : k ≤ 4) (hx : x < 2) (hy : y < 2) (h : jtyp E (0 :: s) s') : jtyp ((k, w) :: E) (y :: x :: s) s' := by
  rw [jtyp]; exact ⟨by simp only [List.length_cons]; omega, Or.inr (Or.inr (Or.inl ⟨hk, hk', x, y, s, rfl, hx, hy, h⟩))⟩
theorem ty_div {w : Int32} {x : Nat} {s s' : List Nat} {E : List (Nat × Int32)} (hs : s.length ≤ 26) (hx : x < 2) (h : jtyp E (0 :: s) s') : jtyp ((5, w) :: E) (1 :: x :: s) s' := by
  rw [jtyp]; exact ⟨by simp only [List.length_cons]; omega, Or.inr (Or.inr (Or.inr (Or.inl ⟨rfl, x, s, rfl, hx, h⟩)))⟩
theorem ty_cmp {k : Nat} {w : Int32} {x y : Nat} {s s' : List Nat} {E : List (Nat × Int32)} (hs : s.length ≤ 26) (hk : 6 ≤ k) (hk' : k ≤ 8) (hx : x < 2) (hy : y < 2) (h : jtyp E (2 :: s) s') : jtyp ((k, w) :: E) (y :: x :: s) s' := by
  rw [jtyp]; exact ⟨by simp only [List.length_cons]; omega, Or.inr (Or.inr (Or.inr (Or.inr (Or.inl ⟨hk, hk', x, y, s, rfl, hx, hy, h⟩))))⟩
theorem ty_not {w : Int32} {s s' : List Nat} {E : List (Nat × Int32)} (hs : s.length ≤ 27) (h : jtyp E (2 :: s) s') : jtyp ((9, w) :: E) (2 :: s) s' := by
  rw [jtyp]; exact ⟨by simp only [List.length_cons]; omega, Or.inr (Or.inr (Or.inr (Or.inr (Or.inr (Or.inl ⟨rfl, s, rfl, h⟩)))))⟩
theorem ty_join {k : Nat} {w : Int32} {s s' : List Nat} {E : List (Nat × Int32)} (hs : s.length ≤ 26) (hk : k = 10 ∨ k = 11) (h : jtyp E (2 :: s) s') : jtyp ((k, w) :: E) (2 :: 2 :: s) s' := by
  rw [jtyp]; exact ⟨by simp only [List.length_cons]; omega, Or.inr (Or.inr (Or.inr (Or.inr (Or.inr (Or.inr ⟨hk, s, rfl, h⟩)))))⟩
theorem ty_app : ∀ {E1 E2 : List (Nat × Int32)} {s s1 s2 : List Nat}, jtyp E1 s s1 → jtyp E2 s1 s2 → jtyp (E1 ++ E2) s s2
  | [], E2, s, s1, s2, h1, h2 => by rw [jtyp] at h1; subst h1; exact h2
  | (k, v) :: E1, E2, s, s1, s2, h1, h2 => by
    rw [jtyp] at h1
    rw [List.cons_append, jtyp]
    obtain ⟨h0, h1⟩ := h1
    refine ⟨h0, ?_⟩
    rcases h1 with ⟨a, n, b, e, h⟩ | ⟨a, n, b, e, h⟩ | ⟨a, a', x, y, s0, e, b, b', h⟩ | ⟨a, x, s0, e, b, h⟩ | ⟨a, a', x, y, s0, e, b, b', h⟩ | ⟨a, s0, e, h⟩ | ⟨a, s0, e, h⟩
    · exact Or.inl ⟨a, n, b, e, ty_app h h2⟩
    · exact Or.inr (Or.inl ⟨a, n, b, e, ty_app h h2⟩)
    · exact Or.inr (Or.inr (Or.inl ⟨a, a', x, y, s0, e, b, b', ty_app h h2⟩))
    · exact Or.inr (Or.inr (Or.inr (Or.inl ⟨a, x, s0, e, b, ty_app h h2⟩)))
    · exact Or.inr (Or.inr (Or.inr (Or.inr (Or.inl ⟨a, a', x, y, s0, e, b, b', ty_app h h2⟩))))
    · exact Or.inr (Or.inr (Or.inr (Or.inr (Or.inr (Or.inl ⟨a, s0, e, ty_app h h2⟩)))))
    · exact Or.inr (Or.inr (Or.inr (Or.inr (Or.inr (Or.inr ⟨a, s0, e, ty_app h h2⟩)))))
theorem je_len (o : Nat × Int32) : 1 ≤ (jenc o).length := by
  unfold jenc; split <;> simp
theorem fm_len : ∀ E : List (Nat × Int32), E.length ≤ (E.flatMap jenc).length
  | [] => Nat.le_refl _
  | o :: E => by
    have h1 := je_len o
    have h2 := fm_len E
    rw [List.flatMap_cons, List.length_append, List.length_cons]; omega
/-- both parse on: they fail alike, or go on alike with the codes E more -/
def RS (N : Nat) (t : Nat → Nat) (A0 B0 A B : jp_M) (p : Nat) (C : List Int32) (G : List (Nat × Int32)) (P : List (Nat × Int32) → Prop) (D : Nat) (o o' : Option (Int32 × jp_M)) : Prop :=
  (∃ A' B', o = some (nI 0, A') ∧ o' = some (nI 4294967295, B') ∧ Fl A0 B0 A' B') ∨
  (∃ A' B' p' n' k' x' E, o = some (nI 1, A') ∧ o' = some (nI 0, B') ∧ xLS N t A0 B0 A' B' p' n' k' x' (C ++ E.flatMap jenc) (G ++ E) ∧ P E ∧ (E.flatMap jenc).length + p ≤ p' + D ∧ kpL A A' B B' ∧ kpO B B')
theorem RS_app {N : Nat} {t : Nat → Nat} {A0 B0 A B A1 B1 : jp_M} {p p1 : Nat} {C C1 : List Int32} {G G1 : List (Nat × Int32)} {P P' : List (Nat × Int32) → Prop} {D D' : Nat} {o o' : Option (Int32 × jp_M)} (E0 : List (Nat × Int32)) (hC : C1 = C ++ E0.flatMap jenc) (hG : G1 = G ++ E0) (hP : ∀ E, P' E → P (E0 ++ E)) (hp : (E0.flatMap jenc).length + p + D' ≤ p1 + D) (k1 : kpL A A1 B B1) (k2 : kpO B B1) (h : RS N t A0 B0 A1 B1 p1 C1 G1 P' D' o o') : RS N t A0 B0 A B p C G P D o o' := by
  subst hC; subst hG
  rcases h with h | ⟨A', B', p', n', k', x', E, h1, h2, h3, h4, h5, h6, h7⟩
  · exact Or.inl h
  · refine Or.inr ⟨A', B', p', n', k', x', E0 ++ E, h1, h2, ?_, hP E h4, ?_, kpL_t k1 h6, kpO_t k2 h7⟩
    · rw [List.flatMap_append, ← List.append_assoc, ← List.append_assoc]; exact h3
    · rw [List.flatMap_append, List.length_append]; omega
/-- the reference's token in THE LAW -/
theorem sy_B0 {N : Nat} {t : Nat → Nat} {A B : jp_M} {p n k x : Nat} (h : Sy 0 N t A B p n k x) : (k = 0 ∧ B 104 16 = nI 0) ∨ (k = 1 ∧ B 104 16 = nI 2 ∧ x ≤ 16 ∧ B 104 17 = nI x) ∨ (k = 2 ∧ B 104 16 = nI 3 ∧ x < 10000 ∧ B 104 17 = nI x) ∨ (k = 3 ∧ B 104 16 = nI 4 ∧ B 104 17 = nI x ∧ x ≤ 62) ∨ (k = 4 ∧ B 104 16 = nI 1) ∨ (k = 4 ∧ B 104 16 = nI 2 ∧ ∃ y, 17 ≤ y ∧ y ≤ 30 ∧ B 104 17 = nI y) := by
  have hx := sy_x h
  obtain ⟨hc, hN, tA, tB, hw, a1, b13, a3, a4, b15, b14, pn, nN, kp, k4, ka, kb⟩ := h
  have e1 : jlo 0 = 0 := rfl
  have e2 : jhi 0 = 16 := rfl
  rcases kb with h | ⟨rfl, h1, h2, h3⟩ | h | ⟨rfl, h1, h2, h3⟩ | ⟨rfl, h1 | ⟨h1, y, y1, y2, y3⟩⟩
  · exact Or.inl h
  · rw [e1, e2] at h2; rw [e1, Nat.zero_add] at h3
    exact Or.inr (Or.inl ⟨rfl, h1, by omega, h3⟩)
  · exact Or.inr (Or.inr (Or.inl h))
  · exact Or.inr (Or.inr (Or.inr (Or.inl ⟨rfl, h1, h3, hx.2.2 rfl⟩)))
  · exact Or.inr (Or.inr (Or.inr (Or.inr (Or.inl ⟨rfl, h1⟩))))
  · rw [e1, e2] at y2
    exact Or.inr (Or.inr (Or.inr (Or.inr (Or.inr ⟨rfl, h1, y, by omega, y1, y3⟩))))
section
variable {N : Nat} {t : Nat → Nat} {A B : jp_M} {p n k x : Nat}
theorem sy_v (h : Sy 0 N t A B p n k x) (h1 : 1 ≤ k) (h3 : k ≤ 3) : A 68 6 = nI x := by
  obtain ⟨hc, hN, tA, tB, hw, a1, b13, a3, a4, b15, b14, pn, nN, kp, k4, ka, kb⟩ := h
  exact ka.2 h1 h3
theorem sy_k (h : Sy 0 N t A B p n k x) : A 68 5 = nI k ∧ k ≤ 4 := by
  obtain ⟨hc, hN, tA, tB, hw, a1, b13, a3, a4, b15, b14, pn, nN, kp, k4, ka, kb⟩ := h
  exact ⟨ka.1, k4⟩
theorem sy_p (h : Sy 0 N t A B p n k x) : p ≤ n ∧ n ≤ N ∧ N ≤ 400 ∧ (¬ k = 0 → p < n) := by
  obtain ⟨hc, hN, tA, tB, hw, a1, b13, a3, a4, b15, b14, pn, nN, kp, k4, ka, kb⟩ := h
  exact ⟨pn, nN, hN, fun h => kp.1.resolve_left h⟩
def uOK (a k x : Nat) : Prop := (k = 2 ∧ ¬ (a = 47 ∧ x = 0)) ∨ (k = 1 ∧ 7 ≤ x ∧ ¬ a = 47)
def uC (k x : Nat) : Nat := if k = 2 then x else 10000 + x - 7
def uE (k x : Nat) : Nat × Int32 := (if k = 2 then 0 else 1, nI (if k = 2 then x else x - 7))
theorem u_cls (h : Sy 0 N t A B p n k x) {a : Nat} (hok : uOK a k x) : f_LR_unit (nI (if a = 47 then 1 else 0)) A = (nI (uC k x), A) := by
  have h5 := (sy_k h).1
  have hx := sy_x h
  rcases hok with ⟨rfl, h1⟩ | ⟨rfl, h1, h2⟩
  · have h6 := sy_v h (by omega) (by omega)
    have := hx.2.1 rfl
    by_cases ha : a = 47
    · have hx0 : ¬ x = 0 := fun e => h1 ⟨ha, e⟩
      simp (disch := omega) only [f_LR_unit, uC, jp_c, decide_eq_true_eq, n_lit, n_eq, h5, h6, ha, hx0, Nat.reduceEqDiff, Nat.reduceAdd, Nat.reduceMul, ite_true, ite_false, if_true, if_false, eq_self_iff_true, ↓reduceIte, and_self, and_true, true_and, and_false, false_and, not_true_eq_false, not_false_eq_true, if_pos, if_neg]
    · simp (disch := omega) only [f_LR_unit, uC, jp_c, decide_eq_true_eq, n_lit, n_eq, h5, h6, ha, Nat.reduceEqDiff, Nat.reduceAdd, Nat.reduceMul, ite_true, ite_false, if_true, if_false, eq_self_iff_true, ↓reduceIte, and_self, and_true, true_and, and_false, false_and, not_true_eq_false, not_false_eq_true, if_pos, if_neg]
  · have h6 := sy_v h (by omega) (by omega)
    have := hx.1 rfl
    have h7 : ¬ x < 7 := by omega
    simp (disch := omega) only [f_LR_unit, uC, jp_c, decide_eq_true_eq, n_lit, n_add, n_sub, n_eq, n_lt, h5, h6, h2, h7, Nat.reduceEqDiff, Nat.reduceAdd, Nat.reduceMul, ite_true, ite_false, if_true, if_false, eq_self_iff_true, ↓reduceIte, and_self, and_true, true_and, and_false, false_and, not_true_eq_false, not_false_eq_true, if_pos, if_neg]
theorem u_cls_f (h : Sy 0 N t A B p n k x) {a : Nat} (hok : ¬ uOK a k x) : f_LR_unit (nI (if a = 47 then 1 else 0)) A = (nI 4294967295, (f_R_fails (nI (if k = 2 then 2 else 1)) A).2) := by
  have h5 := sy_k h
  have hx := sy_x h
  unfold uOK at hok
  by_cases h2 : k = 2
  · subst h2
    have h6 := sy_v h (by omega) (by omega)
    obtain ⟨rfl, rfl⟩ : a = 47 ∧ x = 0 := by
      apply Classical.byContradiction
      intro h'; exact hok (Or.inl ⟨rfl, h'⟩)
    simp (disch := omega) only [f_LR_unit, jp_c, decide_eq_true_eq, n_lit, n_neg1, n_eq, h5.1, h6, Nat.reduceEqDiff, Nat.reduceAdd, Nat.reduceMul, ite_true, ite_false, if_true, if_false, eq_self_iff_true, ↓reduceIte, and_self, and_true, true_and, and_false, false_and, not_true_eq_false, not_false_eq_true, if_pos, if_neg]
  · by_cases h47 : a = 47
    · simp (disch := omega) only [f_LR_unit, f_LR_unit_86, jp_c, decide_eq_true_eq, n_lit, n_neg1, n_eq, h5.1, h2, h47, Nat.reduceEqDiff, Nat.reduceAdd, Nat.reduceMul, ite_true, ite_false, if_true, if_false, eq_self_iff_true, ↓reduceIte, and_self, and_true, true_and, and_false, false_and, not_true_eq_false, not_false_eq_true, if_pos, if_neg]
    · by_cases h1 : k = 1
      · subst h1
        have h6 := sy_v h (by omega) (by omega)
        have := hx.1 rfl
        have h7 : x < 7 := by
          apply Classical.byContradiction
          intro h'; exact hok (Or.inr ⟨rfl, by omega, h47⟩)
        simp (disch := omega) only [f_LR_unit, f_LR_unit_86, jp_c, decide_eq_true_eq, n_lit, n_neg1, n_eq, n_lt, h5.1, h6, h47, h7, Nat.reduceEqDiff, Nat.reduceAdd, Nat.reduceMul, ite_true, ite_false, if_true, if_false, eq_self_iff_true, ↓reduceIte, and_self, and_true, true_and, and_false, false_and, not_true_eq_false, not_false_eq_true, if_pos, if_neg]
      · simp (disch := omega) only [f_LR_unit, f_LR_unit_86, jp_c, decide_eq_true_eq, n_lit, n_neg1, n_eq, h5.1, h1, h2, h47, Nat.reduceEqDiff, Nat.reduceAdd, Nat.reduceMul, ite_true, ite_false, if_true, if_false, eq_self_iff_true, ↓reduceIte, and_self, and_true, true_and, and_false, false_and, not_true_eq_false, not_false_eq_true, if_pos, if_neg]
theorem m_ask {y : Nat} (h : y < 100) : f_M_canAsk (nI y) = if 7 ≤ y ∧ y ≤ 16 then nI 1 else nI 0 := by
  rw [f_M_canAsk, n_isIn]
  simp (disch := omega) only [n_lit, n_le]
theorem u_ref (h : Sy 0 N t A B p n k x) (hok : k = 2 ∨ (k = 1 ∧ 7 ≤ x)) : f_M_readUnit B = (f_M_emits (nI (uE k x).1) (uE k x).2 B).bind fun q1 => (f_M_reads q1).bind fun q2 => some (nI 0, q2) := by
  rcases sy_B0 h with ⟨rfl, h1⟩ | ⟨rfl, h1, h2, h3⟩ | ⟨rfl, h1, h2, h3⟩ | ⟨rfl, h1, -⟩ | ⟨rfl, h1⟩ | ⟨rfl, h1, -⟩
  · omega
  · have h4 : 7 ≤ x := by omega
    have h5 := m_ask (y := x) (by omega)
    rw [if_pos ⟨h4, h2⟩] at h5
    simp (disch := omega) only [f_M_readUnit, f_M_readUnit_24, f_M_readUnit_43, f_M_readUnit_53, f_M_readUnit_71, uE, jp_c, decide_eq_true_eq, n_lit, n_sub, n_eq, h1, h3, h5, Nat.reduceEqDiff, Nat.reduceAdd, Nat.reduceMul, ite_true, ite_false, if_true, if_false, eq_self_iff_true, ↓reduceIte, and_self, and_true, true_and, and_false, false_and, not_true_eq_false, not_false_eq_true, if_pos, if_neg]
  · simp (disch := omega) only [f_M_readUnit, f_M_readUnit_23, f_M_readUnit_24, f_M_readUnit_43, f_M_readUnit_53, f_M_readUnit_71, uE, jp_c, decide_eq_true_eq, n_lit, n_sub, n_eq, h1, h3, Nat.reduceEqDiff, Nat.reduceAdd, Nat.reduceMul, ite_true, ite_false, if_true, if_false, eq_self_iff_true, ↓reduceIte, and_self, and_true, true_and, and_false, false_and, not_true_eq_false, not_false_eq_true, if_pos, if_neg]
  · omega
  · omega
  · omega
theorem u_ref_f (h : Sy 0 N t A B p n k x) (hok : ¬ (k = 2 ∨ (k = 1 ∧ 7 ≤ x))) : f_M_readUnit B = some (nI 4294967295, (f_M_errs (nI 1) B).2) := by
  rcases sy_B0 h with ⟨rfl, h1⟩ | ⟨rfl, h1, h2, h3⟩ | ⟨rfl, h1, h2, h3⟩ | ⟨rfl, h1, -⟩ | ⟨rfl, h1⟩ | ⟨rfl, h1, y, y1, y2, y3⟩
  · simp (disch := omega) only [f_M_readUnit, f_M_readUnit_23, f_M_readUnit_24, f_M_errs, jp_c, decide_eq_true_eq, n_lit, n_neg1, n_eq, h1, Nat.reduceEqDiff, Nat.reduceAdd, Nat.reduceMul, ite_true, ite_false, if_true, if_false, eq_self_iff_true, ↓reduceIte, and_self, and_true, true_and, and_false, false_and, not_true_eq_false, not_false_eq_true, if_pos, if_neg]
  · have h5 := m_ask (y := x) (by omega)
    rw [if_neg (by omega)] at h5
    simp (disch := omega) only [f_M_readUnit, f_M_readUnit_23, f_M_readUnit_24, f_M_errs, jp_c, decide_eq_true_eq, n_lit, n_neg1, n_eq, h1, h3, h5, Nat.reduceEqDiff, Nat.reduceAdd, Nat.reduceMul, ite_true, ite_false, if_true, if_false, eq_self_iff_true, ↓reduceIte, and_self, and_true, true_and, and_false, false_and, not_true_eq_false, not_false_eq_true, if_pos, if_neg]
  · omega
  · simp (disch := omega) only [f_M_readUnit, f_M_readUnit_23, f_M_readUnit_24, f_M_errs, jp_c, decide_eq_true_eq, n_lit, n_neg1, n_eq, h1, Nat.reduceEqDiff, Nat.reduceAdd, Nat.reduceMul, ite_true, ite_false, if_true, if_false, eq_self_iff_true, ↓reduceIte, and_self, and_true, true_and, and_false, false_and, not_true_eq_false, not_false_eq_true, if_pos, if_neg]
  · simp (disch := omega) only [f_M_readUnit, f_M_readUnit_23, f_M_readUnit_24, f_M_errs, jp_c, decide_eq_true_eq, n_lit, n_neg1, n_eq, h1, Nat.reduceEqDiff, Nat.reduceAdd, Nat.reduceMul, ite_true, ite_false, if_true, if_false, eq_self_iff_true, ↓reduceIte, and_self, and_true, true_and, and_false, false_and, not_true_eq_false, not_false_eq_true, if_pos, if_neg]
  · have h5 := m_ask (y := y) (by omega)
    rw [if_neg (by omega)] at h5
    simp (disch := omega) only [f_M_readUnit, f_M_readUnit_23, f_M_readUnit_24, f_M_errs, jp_c, decide_eq_true_eq, n_lit, n_neg1, n_eq, h1, y3, h5, Nat.reduceEqDiff, Nat.reduceAdd, Nat.reduceMul, ite_true, ite_false, if_true, if_false, eq_self_iff_true, ↓reduceIte, and_self, and_true, true_and, and_false, false_and, not_true_eq_false, not_false_eq_true, if_pos, if_neg]
end
/-- the reference in a product, behind the sign a -/
def pR (j a : Nat) (B : jp_M) : Option (Int32 × jp_M) :=
  if a = 0 then (f_M_readUnit B).bind fun q1 => (if jp_c .ne q1.1 (-1 : Int32) = true then f_M_readProduct_10 j (q1.2) else some ((-1 : Int32), q1.2))
  else if a = 42 then f_M_readProduct_74 (f_M_readProduct_10 j) (nI 1) B
  else if jp_c .eq (B 104 16) (3 : Int32) = true then f_M_readProduct_57 (f_M_readProduct_10 j) (nI 0) B else some ((f_M_errs (1 : Int32) B).1, (f_M_errs (1 : Int32) B).2)
def sK (m b : Nat) (q : Int32 × jp_M) : Option (Int32 × jp_M) :=
  if jp_c .ne q.1 (-1 : Int32) = true then (if b = 0 then f_M_readSum_10 m q.2 else (f_M_emits (nI (if b = 43 then 2 else 3)) (nI 0) q.2).bind fun q3 => f_M_readSum_10 m q3) else some ((-1 : Int32), q.2)
def opa (a : Nat) : List (Nat × Int32) := if a = 0 then [] else if a = 42 then [(4, nI 0)] else [(5, nI 0)]
def opb (b : Nat) : List (Nat × Int32) := if b = 0 then [] else if b = 43 then [(2, nI 0)] else [(3, nI 0)]
def da (a : Nat) : Nat := if a = 0 then 0 else 1
def st1 (a x : Nat) (s : List Nat) : List Nat := if a = 0 then s else x :: s
theorem uE_len {k x : Nat} (hk : k = 1 ∨ k = 2) : jenc (uE k x) = [nI (uC k x)] ∨ (k = 1 ∧ x < 7) := by
  rcases hk with rfl | rfl
  · by_cases h : x < 7
    · exact Or.inr ⟨rfl, h⟩
    · left
      show [nI 10000 + nI (x - 7)] = [nI (10000 + x - 7)]
      rw [n_add]; congr 2; omega
  · left; rfl
theorem ty_u {a k x x1 : Nat} {S : List Nat} (hok : uOK a k x) (hx : (k = 1 → x ≤ 16) ∧ (k = 2 → x < 10000)) (ha : a = 0 ∨ a = 42 ∨ a = 47) (h1 : x1 < 2) (hS : S.length ≤ 26) :
    ∃ z, z < 2 ∧ ∀ E' s', jtyp E' (z :: S) s' → jtyp ((uE k x :: opa a) ++ E') (st1 a x1 S) s' := by
  rcases hok with ⟨rfl, h2⟩ | ⟨rfl, h2, h3⟩
  · have hx := hx.2 rfl
    rw [show uE 2 x = (0, nI x) from rfl]
    rcases ha with rfl | rfl | rfl
    · refine ⟨if x = 0 then 0 else 1, by split <;> omega, fun E' s' h => ty_num (by simp only [st1]; simp; omega) hx (by simpa [opa, st1] using h)⟩
    · refine ⟨0, by omega, fun E' s' h => ?_⟩
      refine ty_num (by simp [st1]; omega) hx ?_
      show jtyp ((4, nI 0) :: E') (_ :: x1 :: S) s'
      exact ty_bin hS (by omega) (by omega) h1 (by split <;> omega) h
    · refine ⟨0, by omega, fun E' s' h => ?_⟩
      refine ty_num (by simp [st1]; omega) hx ?_
      rw [if_neg (fun e => h2 ⟨rfl, e⟩)]
      show jtyp ((5, nI 0) :: E') (_ :: x1 :: S) s'
      exact ty_div hS h1 h
  · have hx := hx.1 rfl
    rw [show uE 1 x = (1, nI (x - 7)) from rfl]
    rcases ha with rfl | rfl | rfl
    · refine ⟨0, by omega, fun E' s' h => ty_fact (by simp [st1]; omega) (by omega) (by simpa [opa, st1] using h)⟩
    · refine ⟨0, by omega, fun E' s' h => ?_⟩
      refine ty_fact (by simp [st1]; omega) (by omega) ?_
      show jtyp ((4, nI 0) :: E') (_ :: x1 :: S) s'
      exact ty_bin hS (by omega) (by omega) h1 (by omega) h
    · exact absurd rfl h3
theorem ty_b {b z x2 : Nat} {s : List Nat} (hb : b = 0 ∨ b = 43 ∨ b = 45) (hz : z < 2) (h2 : x2 < 2) (hs : s.length ≤ 26) : ∃ z', z' < 2 ∧ ∀ E' s', jtyp E' (z' :: s) s' → jtyp (opb b ++ E') (z :: st1 b x2 s) s' := by
  rcases hb with rfl | rfl | rfl
  · exact ⟨z, hz, fun E' s' h => h⟩
  · exact ⟨0, by omega, fun E' s' h => ty_bin hs (by omega) (by omega) h2 hz h⟩
  · exact ⟨0, by omega, fun E' s' h => ty_bin hs (by omega) (by omega) h2 hz h⟩
theorem st1_len {a x : Nat} {s : List Nat} : (st1 a x s).length ≤ s.length + 1 := by
  unfold st1; split <;> simp
section
variable {N : Nat} {t : Nat → Nat} {A0 B0 : jp_M}
/-- the sign of a product is laid behind its part -/
theorem l_opa {A B : jp_M} {p n k x a : Nat} {C : List Int32} {G : List (Nat × Int32)} (h : xLS N t A0 B0 A B p n k x C G) (ha : a = 0 ∨ a = 42 ∨ a = 47) (hC : C.length + da a ≤ 400) (hG : G.length + da a ≤ 400) :
    ∃ A' B', xLS N t A0 B0 A' B' p n k x (C ++ (opa a).flatMap jenc) (G ++ opa a) ∧ kpL A A' B B' ∧ kpO B B' ∧
    (∀ (c6 : Int32 → Int32 → Int32 → Nat → jp_M → Option (Int32 × jp_M)) (l2 l3 : Int32), (if jp_c .eq (nI a) (0 : Int32) = true then f_LR_sum_70 c6 l2 l3 1000 A else (f_L_adds ((20000 : Int32) + nI a) A).bind fun q4 => f_LR_sum_70 c6 l2 l3 1000 q4) = f_LR_sum_70 c6 l2 l3 1000 A') ∧
    (∀ (c6 : jp_M → Option (Int32 × jp_M)), (if a = 0 then c6 B else if a = 42 then f_M_readProduct_94 c6 (nI 4) B else f_M_readProduct_94 c6 (nI 5) B) = c6 B') := by
  rcases ha with rfl | rfl | rfl
  · refine ⟨A, B, by simpa [opa] using h, kpL_r A B, kpO_r B, fun c6 l2 l3 => ?_, fun c6 => rfl⟩
    simp only [jp_c, decide_eq_true_eq, n_lit, Nat.reduceEqDiff, Nat.reduceAdd, Nat.reduceMul, ite_true, ite_false, if_true, if_false, eq_self_iff_true, ↓reduceIte, and_self, and_true, true_and, and_false, false_and, not_true_eq_false, not_false_eq_true, if_pos, if_neg]
  · obtain ⟨A', a1, a2, a3⟩ := ls_add h hC (v := 20042) (by omega)
    obtain ⟨B', b1, b2, b3, b4⟩ := ls_emit a2 hG (o := 4) (v := nI 0)
    refine ⟨A', B', b2, kpL_t a3 b3, b4, fun c6 l2 l3 => ?_, fun c6 => ?_⟩
    · simp (disch := omega) only [jp_c, decide_eq_true_eq, n_lit, n_add, n_eq, Nat.reduceAdd, a1, Option.bind_some, Nat.reduceEqDiff, Nat.reduceAdd, Nat.reduceMul, ite_true, ite_false, if_true, if_false, eq_self_iff_true, ↓reduceIte, and_self, and_true, true_and, and_false, false_and, not_true_eq_false, not_false_eq_true, if_pos, if_neg]
    · simp only [f_M_readProduct_94, n_lit, b1, Option.bind_some, Nat.reduceEqDiff, Nat.reduceAdd, Nat.reduceMul, ite_true, ite_false, if_true, if_false, eq_self_iff_true, ↓reduceIte, and_self, and_true, true_and, and_false, false_and, not_true_eq_false, not_false_eq_true, if_pos, if_neg]
  · obtain ⟨A', a1, a2, a3⟩ := ls_add h hC (v := 20047) (by omega)
    obtain ⟨B', b1, b2, b3, b4⟩ := ls_emit a2 hG (o := 5) (v := nI 0)
    refine ⟨A', B', b2, kpL_t a3 b3, b4, fun c6 l2 l3 => ?_, fun c6 => ?_⟩
    · simp (disch := omega) only [jp_c, decide_eq_true_eq, n_lit, n_add, n_eq, Nat.reduceAdd, a1, Option.bind_some, Nat.reduceEqDiff, Nat.reduceAdd, Nat.reduceMul, ite_true, ite_false, if_true, if_false, eq_self_iff_true, ↓reduceIte, and_self, and_true, true_and, and_false, false_and, not_true_eq_false, not_false_eq_true, if_pos, if_neg]
    · simp only [f_M_readProduct_94, n_lit, b1, Option.bind_some, Nat.reduceEqDiff, Nat.reduceAdd, Nat.reduceMul, ite_true, ite_false, if_true, if_false, eq_self_iff_true, ↓reduceIte, and_self, and_true, true_and, and_false, false_and, not_true_eq_false, not_false_eq_true, if_pos, if_neg]
theorem l_opb {A B : jp_M} {p n k x b : Nat} {C : List Int32} {G : List (Nat × Int32)} (h : xLS N t A0 B0 A B p n k x C G) (hb : b = 0 ∨ b = 43 ∨ b = 45) (hC : C.length + da b ≤ 400) (hG : G.length + da b ≤ 400) :
    ∃ A' B', xLS N t A0 B0 A' B' p n k x (C ++ (opb b).flatMap jenc) (G ++ opb b) ∧ kpL A A' B B' ∧ kpO B B' ∧
    (∀ (c6 : Int32 → Int32 → Int32 → Nat → jp_M → Option (Int32 × jp_M)) (l3 : Int32), f_LR_sum_105 c6 (nI b) l3 (nI 0) 1000 A = f_LR_sum_126 c6 (nI 0) l3 1000 A') ∧
    (∀ m, sK m b (nI 0, B) = f_M_readSum_10 m B') := by
  rcases hb with rfl | rfl | rfl
  · refine ⟨A, B, by simpa [opb] using h, kpL_r A B, kpO_r B, fun c6 l3 => ?_, fun m => ?_⟩
    · simp only [f_LR_sum_105, jp_c, decide_eq_true_eq, n_lit, Nat.reduceEqDiff, Nat.reduceAdd, Nat.reduceMul, ite_true, ite_false, if_true, if_false, eq_self_iff_true, ↓reduceIte, and_self, and_true, true_and, and_false, false_and, not_true_eq_false, not_false_eq_true, if_pos, if_neg]
    · simp (disch := omega) only [sK, jp_c, decide_eq_true_eq, n_lit, n_neg1, n_eq, Nat.reduceEqDiff, Nat.reduceAdd, Nat.reduceMul, ite_true, ite_false, if_true, if_false, eq_self_iff_true, ↓reduceIte, and_self, and_true, true_and, and_false, false_and, not_true_eq_false, not_false_eq_true, if_pos, if_neg]
  · obtain ⟨A', a1, a2, a3⟩ := ls_add h hC (v := 20043) (by omega)
    obtain ⟨B', b1, b2, b3, b4⟩ := ls_emit a2 hG (o := 2) (v := nI 0)
    refine ⟨A', B', b2, kpL_t a3 b3, b4, fun c6 l3 => ?_, fun m => ?_⟩
    · simp (disch := omega) only [f_LR_sum_105, jp_c, decide_eq_true_eq, n_lit, n_add, n_eq, Nat.reduceAdd, a1, Option.bind_some, Nat.reduceEqDiff, Nat.reduceAdd, Nat.reduceMul, ite_true, ite_false, if_true, if_false, eq_self_iff_true, ↓reduceIte, and_self, and_true, true_and, and_false, false_and, not_true_eq_false, not_false_eq_true, if_pos, if_neg]
    · simp (disch := omega) only [sK, jp_c, decide_eq_true_eq, n_lit, n_neg1, n_eq, b1, Option.bind_some, Nat.reduceEqDiff, Nat.reduceAdd, Nat.reduceMul, ite_true, ite_false, if_true, if_false, eq_self_iff_true, ↓reduceIte, and_self, and_true, true_and, and_false, false_and, not_true_eq_false, not_false_eq_true, if_pos, if_neg]
  · obtain ⟨A', a1, a2, a3⟩ := ls_add h hC (v := 20045) (by omega)
    obtain ⟨B', b1, b2, b3, b4⟩ := ls_emit a2 hG (o := 3) (v := nI 0)
    refine ⟨A', B', b2, kpL_t a3 b3, b4, fun c6 l3 => ?_, fun m => ?_⟩
    · simp (disch := omega) only [f_LR_sum_105, jp_c, decide_eq_true_eq, n_lit, n_add, n_eq, Nat.reduceAdd, a1, Option.bind_some, Nat.reduceEqDiff, Nat.reduceAdd, Nat.reduceMul, ite_true, ite_false, if_true, if_false, eq_self_iff_true, ↓reduceIte, and_self, and_true, true_and, and_false, false_and, not_true_eq_false, not_false_eq_true, if_pos, if_neg]
    · simp (disch := omega) only [sK, jp_c, decide_eq_true_eq, n_lit, n_neg1, n_eq, b1, Option.bind_some, Nat.reduceEqDiff, Nat.reduceAdd, Nat.reduceMul, ite_true, ite_false, if_true, if_false, eq_self_iff_true, ↓reduceIte, and_self, and_true, true_and, and_false, false_and, not_true_eq_false, not_false_eq_true, if_pos, if_neg]
theorem opa_len (a : Nat) : ((opa a).flatMap jenc).length = da a ∧ (opa a).length = da a := by
  unfold opa da; split <;> (try split) <;> exact ⟨rfl, rfl⟩
theorem opb_len (b : Nat) : ((opb b).flatMap jenc).length = da b ∧ (opb b).length = da b := by
  unfold opb da; split <;> (try split) <;> exact ⟨rfl, rfl⟩
theorem l_sumE : ∀ d (p n k x : Nat) (A B : jp_M) (C : List Int32) (G : List (Nat × Int32)) (a b i fn j m : Nat), N < p + d → xLS N t A0 B0 A B p n k x C G → (a = 0 ∨ a = 42 ∨ a = 47) → (b = 0 ∨ b = 43 ∨ b = 45) → i < p → C.length + (da a + da b) ≤ p → G.length + (da a + da b) ≤ p → 400 < fn + p → 400 < j + p → 400 < m + p →
    RS N t A0 B0 A B p C G (fun E => ∀ s x1 x2, x1 < 2 → x2 < 2 → s.length ≤ 24 → ∃ y, y < 2 ∧ jtyp E (st1 a x1 (st1 b x2 s)) (y :: s)) (da a + da b) (f_LR_sum_6 fn (nI a) (nI b) (nI i) 1000 A) ((pR j a B).bind (sK m b)) := by
  intro d
  induction d with
  | zero =>
    intro p n k x A B C G a b i fn j m hd h
    have := sy_p h.1
    omega
  | succ d ih =>
    intro p n k x A B C G a b i fn j m hd h ha hb hi hC hG hfn hj hm
    have hp := sy_p h.1
    have hx := sy_x h.1
    obtain ⟨fn, rfl⟩ : ∃ k, fn = k + 1 := ⟨fn - 1, by omega⟩
    obtain ⟨j, rfl⟩ : ∃ k, j = k + 1 := ⟨j - 1, by omega⟩
    obtain ⟨m, rfl⟩ : ∃ k, m = k + 1 := ⟨m - 1, by omega⟩
    have hi4 : ¬ 400 ≤ i := by omega
    have s6 : f_LR_sum_6 (fn + 1) (nI a) (nI b) (nI i) 1000 A = f_LR_sum_25 (f_LR_sum_6 fn) (nI a) (nI b) (nI i) (nI (if a = 47 then 1 else 0)) 1000 A := by
      by_cases h47 : a = 47
      · simp (disch := omega) only [f_LR_sum_6, jp_c, decide_eq_true_eq, n_lit, n_le, n_eq, hi4, h47, Nat.reduceEqDiff, Nat.reduceAdd, Nat.reduceMul, ite_true, ite_false, if_true, if_false, eq_self_iff_true, ↓reduceIte, and_self, and_true, true_and, and_false, false_and, not_true_eq_false, not_false_eq_true, if_pos, if_neg]
      · simp (disch := omega) only [f_LR_sum_6, jp_c, decide_eq_true_eq, n_lit, n_le, n_eq, hi4, h47, Nat.reduceEqDiff, Nat.reduceAdd, Nat.reduceMul, ite_true, ite_false, if_true, if_false, eq_self_iff_true, ↓reduceIte, and_self, and_true, true_and, and_false, false_and, not_true_eq_false, not_false_eq_true, if_pos, if_neg]
    rw [s6]
    have a9 : a < 100 := by omega
    by_cases hok : uOK a k x
    · have hok' : k = 2 ∨ (k = 1 ∧ 7 ≤ x) := by unfold uOK at hok; omega
      have hpn : p < n := hp.2.2.2 (by omega)
      have ht16 : k = 1 → x ≤ 16 := by
        intro hk
        rcases sy_B0 h.1 with h | h | h | h | h | h <;> omega
      have je : jenc (uE k x) = [nI (uC k x)] := (uE_len (by omega)).resolve_right (by omega)
      have uc : uC k x < 32768 := by unfold uC; split <;> omega
      have uc1 : ¬ uC k x = 4294967295 := by omega
      obtain ⟨A1, a1, a2, a3⟩ := ls_add h (by omega) uc
      obtain ⟨B1, b1, b2, b3, b4⟩ := ls_emit a2 (by omega) (o := (uE k x).1) (v := (uE k x).2)
      obtain ⟨A2, B2, p2, n2, k2, x2, c1, c2, c3, c4, c5, c6⟩ := ls_adv b2
      have hla := opa_len a
      have hlb := opb_len b
      obtain ⟨A3, B3, e1, e2, e3, e4, e5⟩ := l_opa c3 ha (by rw [List.length_append, List.length_singleton]; omega) (by rw [List.length_append, List.length_singleton]; omega)
      have hp2 := sy_p e1.1
      have kL : kpL A A3 B B3 := kpL_t a3 (kpL_t b3 (kpL_t c5 e2))
      have kO : kpO B B3 := kpO_t b4 (kpO_t c6 e3)
      have s25 : f_LR_sum_25 (f_LR_sum_6 fn) (nI a) (nI b) (nI i) (nI (if a = 47 then 1 else 0)) 1000 A = f_LR_sum_70 (f_LR_sum_6 fn) (nI b) (nI i) 1000 A3 := by
        rw [← e4]
        simp (disch := omega) only [f_LR_sum_25, u_cls h.1 hok, jp_c, decide_eq_true_eq, n_lit, n_neg1, n_eq, uc1, a1, c1, Option.bind_some, Nat.reduceEqDiff, Nat.reduceAdd, Nat.reduceMul, ite_true, ite_false, if_true, if_false, eq_self_iff_true, ↓reduceIte, and_self, and_true, true_and, and_false, false_and, not_true_eq_false, not_false_eq_true, if_pos, if_neg]
      have sR : pR (j + 1) a B = f_M_readProduct_10 (j + 1) B3 := by
        rw [← e5 (f_M_readProduct_10 (j + 1))]
        have u1 := u_ref h.1 hok'
        rw [b1, Option.bind_some, c2, Option.bind_some] at u1
        rcases ha with rfl | rfl | rfl
        · simp (disch := omega) only [pR, u1, Option.bind_some, jp_c, decide_eq_true_eq, n_lit, n_neg1, n_eq, Nat.reduceEqDiff, Nat.reduceAdd, Nat.reduceMul, ite_true, ite_false, if_true, if_false, eq_self_iff_true, ↓reduceIte, and_self, and_true, true_and, and_false, false_and, not_true_eq_false, not_false_eq_true, if_pos, if_neg]
        · simp (disch := omega) only [pR, f_M_readProduct_74, u1, Option.bind_some, jp_c, decide_eq_true_eq, n_lit, n_neg1, n_eq, Nat.reduceEqDiff, Nat.reduceAdd, Nat.reduceMul, ite_true, ite_false, if_true, if_false, eq_self_iff_true, ↓reduceIte, and_self, and_true, true_and, and_false, false_and, not_true_eq_false, not_false_eq_true, if_pos, if_neg]
        · have hk2 : k = 2 ∧ ¬ x = 0 := by unfold uOK at hok; omega
          obtain ⟨rfl, hx0⟩ := hk2
          have hx9 := hx.2.1 rfl
          rcases sy_B0 h.1 with h' | h' | ⟨-, t1, t2, t3⟩ | h' | h' | h'
          · omega
          · omega
          · simp (disch := omega) only [pR, f_M_readProduct_57, f_M_readProduct_74, t1, t3, hx0, u1, Option.bind_some, jp_c, decide_eq_true_eq, n_lit, n_neg1, n_eq, Nat.reduceEqDiff, Nat.reduceAdd, Nat.reduceMul, ite_true, ite_false, if_true, if_false, eq_self_iff_true, ↓reduceIte, and_self, and_true, true_and, and_false, false_and, not_true_eq_false, not_false_eq_true, if_pos, if_neg]
          · omega
          · omega
          · omega
      rw [s25, sR]
      have lC : ((C ++ [nI (uC k x)] ++ (opa a).flatMap jenc)) = C ++ (uE k x :: opa a).flatMap jenc := by rw [List.flatMap_cons, je, List.append_assoc]
      have lG : G ++ [((uE k x).1, (uE k x).2)] ++ opa a = G ++ (uE k x :: opa a) := by rw [List.append_assoc]; rfl
      have lE : ((uE k x :: opa a).flatMap jenc).length = 1 + da a ∧ (uE k x :: opa a).length = 1 + da a := by
        refine ⟨?_, ?_⟩
        · rw [List.flatMap_cons, je, List.length_append, hla.1]; rfl
        · rw [List.length_cons, hla.2]; omega
      rw [lC, lG] at e1
      by_cases hm3 : k2 = 3 ∧ (x2 = 42 ∨ x2 = 47)
      · obtain ⟨rfl, hx2⟩ := hm3
        have hp3 := hp2.2.2.2 (by omega)
        obtain ⟨A4, B4, p4, n4, k4, x4, g1, g2, g3, g4, g5, g6⟩ := ls_adv e1
        have v6 := sy_v e1.1 (by omega) (by omega)
        have i42 := sy_sA e1.1 (w := 42) (by omega)
        have i47 := sy_sA e1.1 (w := 47) (by omega)
        have r42 := sy_sB e1.1 (w := 42) (by omega)
        have r47 := sy_sB e1.1 (w := 47) (by omega)
        have hp4 := sy_p g3.1
        have c70 : f_LR_sum_70 (f_LR_sum_6 fn) (nI b) (nI i) 1000 A3 = f_LR_sum_6 fn (nI x2) (nI b) (nI (i + 1)) 1000 A4 := by
          rcases hx2 with rfl | rfl
          · simp (disch := omega) only [f_LR_sum_70, f_LR_sum_94, f_LR_sum_105, f_LR_sum_168, jp_c, decide_eq_true_eq, n_lit, n_add, n_eq, i42, v6, g1, Option.bind_some, Nat.reduceEqDiff, Nat.reduceAdd, Nat.reduceMul, ite_true, ite_false, if_true, if_false, eq_self_iff_true, ↓reduceIte, and_self, and_true, true_and, and_false, false_and, not_true_eq_false, not_false_eq_true, if_pos, if_neg]
          · simp (disch := omega) only [f_LR_sum_70, f_LR_sum_94, f_LR_sum_105, f_LR_sum_168, jp_c, decide_eq_true_eq, n_lit, n_add, n_eq, i42, i47, v6, g1, Option.bind_some, Nat.reduceEqDiff, Nat.reduceAdd, Nat.reduceMul, ite_true, ite_false, if_true, if_false, eq_self_iff_true, ↓reduceIte, and_self, and_true, true_and, and_false, false_and, not_true_eq_false, not_false_eq_true, if_pos, if_neg]
        have c10 : f_M_readProduct_10 (j + 1) B3 = pR j x2 B4 := by
          rcases hx2 with rfl | rfl
          · simp (disch := omega) only [f_M_readProduct_10, f_M_readProduct_28, f_M_readProduct_57, pR, jp_c, decide_eq_true_eq, n_lit, n_eq, r42, g2, Option.bind_some, Nat.reduceEqDiff, Nat.reduceAdd, Nat.reduceMul, ite_true, ite_false, if_true, if_false, eq_self_iff_true, ↓reduceIte, and_self, and_true, true_and, and_false, false_and, not_true_eq_false, not_false_eq_true, if_pos, if_neg]
          · simp (disch := omega) only [f_M_readProduct_10, f_M_readProduct_28, pR, jp_c, decide_eq_true_eq, n_lit, n_eq, r42, r47, g2, Option.bind_some, Nat.reduceEqDiff, Nat.reduceAdd, Nat.reduceMul, ite_true, ite_false, if_true, if_false, eq_self_iff_true, ↓reduceIte, and_self, and_true, true_and, and_false, false_and, not_true_eq_false, not_false_eq_true, if_pos, if_neg]
            rfl
        rw [c70, c10]
        have dx : da x2 = 1 := by rcases hx2 with rfl | rfl <;> rfl
        refine RS_app (uE k x :: opa a) rfl rfl ?_ ?_ (kpL_t kL g5) (kpO_t kO g6) (ih p4 n4 k4 x4 A4 B4 _ _ x2 b (i + 1) fn j (m + 1) (by omega) g3 (Or.inr hx2) hb (by omega) ?_ ?_ (by omega) (by omega) (by omega))
        · intro E hE s y1 y2 h1 h2 hs
          obtain ⟨z, z1, z2⟩ := ty_u (S := st1 b y2 s) hok ⟨ht16, hx.2.1⟩ ha h1 (by have := st1_len (a := b) (x := y2) (s := s); omega)
          obtain ⟨y, w1, w2⟩ := hE s z y2 z1 h2 hs
          refine ⟨y, w1, z2 _ _ ?_⟩
          have : st1 x2 z (st1 b y2 s) = z :: st1 b y2 s := by rw [st1, if_neg (by omega)]
          rw [← this]; exact w2
        · rw [lE.1, dx]; omega
        · rw [List.length_append, lE.1, dx]; omega
        · rw [List.length_append, lE.2, dx]; omega
      · have h42 : ¬ (k2 = 3 ∧ x2 = 42) := fun e => hm3 ⟨e.1, Or.inl e.2⟩
        have h47 : ¬ (k2 = 3 ∧ x2 = 47) := fun e => hm3 ⟨e.1, Or.inr e.2⟩
        have i42 := sy_sA e1.1 (w := 42) (by omega)
        have i47 := sy_sA e1.1 (w := 47) (by omega)
        have r42 := sy_sB e1.1 (w := 42) (by omega)
        have r47 := sy_sB e1.1 (w := 47) (by omega)
        rw [if_neg h42] at i42 r42
        rw [if_neg h47] at i47 r47
        obtain ⟨A5, B5, f1, f2, f3, f4, f5⟩ := l_opb e1 hb (by rw [List.length_append, lE.1]; omega) (by rw [List.length_append, lE.2]; omega)
        have c70 : f_LR_sum_70 (f_LR_sum_6 fn) (nI b) (nI i) 1000 A3 = f_LR_sum_126 (f_LR_sum_6 fn) (nI 0) (nI i) 1000 A5 := by
          rw [← f4]
          simp (disch := omega) only [f_LR_sum_70, jp_c, decide_eq_true_eq, n_lit, n_eq, i42, i47, Nat.reduceEqDiff, Nat.reduceAdd, Nat.reduceMul, ite_true, ite_false, if_true, if_false, eq_self_iff_true, ↓reduceIte, and_self, and_true, true_and, and_false, false_and, not_true_eq_false, not_false_eq_true, if_pos, if_neg]
        have c10 : (f_M_readProduct_10 (j + 1) B3).bind (sK (m + 1) b) = f_M_readSum_10 (m + 1) B5 := by
          rw [← f5]
          simp (disch := omega) only [f_M_readProduct_10, jp_c, decide_eq_true_eq, n_lit, n_eq, r42, r47, Option.bind_some, Nat.reduceEqDiff, Nat.reduceAdd, Nat.reduceMul, ite_true, ite_false, if_true, if_false, eq_self_iff_true, ↓reduceIte, and_self, and_true, true_and, and_false, false_and, not_true_eq_false, not_false_eq_true, if_pos, if_neg]
        rw [c70, c10]
        have lC2 : C ++ (uE k x :: opa a).flatMap jenc ++ (opb b).flatMap jenc = C ++ ((uE k x :: opa a) ++ opb b).flatMap jenc := by rw [List.append_assoc, ← List.flatMap_append]
        have lG2 : G ++ (uE k x :: opa a) ++ opb b = G ++ ((uE k x :: opa a) ++ opb b) := List.append_assoc _ _ _
        have lE2 : (((uE k x :: opa a) ++ opb b).flatMap jenc).length = 1 + da a + da b ∧ ((uE k x :: opa a) ++ opb b).length = 1 + da a + da b := by
          refine ⟨?_, ?_⟩
          · rw [List.flatMap_append, List.length_append, lE.1, hlb.1]
          · rw [List.length_append, lE.2, hlb.2]
        rw [lC2, lG2] at f1
        have kL5 := kpL_t kL f2
        have kO5 := kpO_t kO f3
        have ty : ∀ s y1 y2, y1 < 2 → y2 < 2 → s.length ≤ 24 → ∃ z', z' < 2 ∧ ∀ E' s', jtyp E' (z' :: s) s' → jtyp (((uE k x :: opa a) ++ opb b) ++ E') (st1 a y1 (st1 b y2 s)) s' := by
          intro s y1 y2 h1 h2 hs
          obtain ⟨z, z1, z2⟩ := ty_u (S := st1 b y2 s) hok ⟨ht16, hx.2.1⟩ ha h1 (by have := st1_len (a := b) (x := y2) (s := s); omega)
          obtain ⟨z', w1, w2⟩ := ty_b (s := s) hb z1 h2 (by omega)
          refine ⟨z', w1, fun E' s' hE => ?_⟩
          rw [List.append_assoc]
          exact z2 _ _ (w2 _ _ hE)
        have i43 := sy_sA f1.1 (w := 43) (by omega)
        have i45 := sy_sA f1.1 (w := 45) (by omega)
        have r43 := sy_sB f1.1 (w := 43) (by omega)
        have r45 := sy_sB f1.1 (w := 45) (by omega)
        by_cases hp3 : k2 = 3 ∧ (x2 = 43 ∨ x2 = 45)
        · obtain ⟨rfl, hx2⟩ := hp3
          have hp3 := hp2.2.2.2 (by omega)
          obtain ⟨A4, B4, p4, n4, k4, x4, g1, g2, g3, g4, g5, g6⟩ := ls_adv f1
          have v6 := sy_v f1.1 (by omega) (by omega)
          have v17 : B5 104 17 = nI x2 := by
            rcases sy_B0 f1.1 with h' | h' | h' | ⟨-, t1, t2, t3⟩ | h' | h'
            · omega
            · omega
            · omega
            · exact t2
            · omega
            · omega
          have hp4 := sy_p g3.1
          have c126 : f_LR_sum_126 (f_LR_sum_6 fn) (nI 0) (nI i) 1000 A5 = f_LR_sum_6 fn (nI 0) (nI x2) (nI (i + 1)) 1000 A4 := by
            rcases hx2 with rfl | rfl
            · simp (disch := omega) only [f_LR_sum_126, f_LR_sum_150, f_LR_sum_161, f_LR_sum_168, jp_c, decide_eq_true_eq, n_lit, n_add, n_eq, i43, v6, g1, Option.bind_some, Nat.reduceEqDiff, Nat.reduceAdd, Nat.reduceMul, ite_true, ite_false, if_true, if_false, eq_self_iff_true, ↓reduceIte, and_self, and_true, true_and, and_false, false_and, not_true_eq_false, not_false_eq_true, if_pos, if_neg]
            · simp (disch := omega) only [f_LR_sum_126, f_LR_sum_150, f_LR_sum_161, f_LR_sum_168, jp_c, decide_eq_true_eq, n_lit, n_add, n_eq, i43, i45, v6, g1, Option.bind_some, Nat.reduceEqDiff, Nat.reduceAdd, Nat.reduceMul, ite_true, ite_false, if_true, if_false, eq_self_iff_true, ↓reduceIte, and_self, and_true, true_and, and_false, false_and, not_true_eq_false, not_false_eq_true, if_pos, if_neg]
          have cR : f_M_readSum_10 (m + 1) B5 = (pR jFu 0 B4).bind (sK m x2) := by
            have e0 : pR jFu 0 B4 = f_M_readProduct B4 := by simp only [pR, f_M_readProduct, Nat.reduceEqDiff, Nat.reduceAdd, Nat.reduceMul, ite_true, ite_false, if_true, if_false, eq_self_iff_true, ↓reduceIte, and_self, and_true, true_and, and_false, false_and, not_true_eq_false, not_false_eq_true, if_pos, if_neg]
            rw [e0]
            rcases hx2 with rfl | rfl
            · simp (disch := omega) only [f_M_readSum_10, f_M_readSum_28, f_M_readSum_42, jp_c, decide_eq_true_eq, n_lit, n_eq, r43, v17, g2, Option.bind_some, Nat.reduceEqDiff, Nat.reduceAdd, Nat.reduceMul, ite_true, ite_false, if_true, if_false, eq_self_iff_true, ↓reduceIte, and_self, and_true, true_and, and_false, false_and, not_true_eq_false, not_false_eq_true, if_pos, if_neg]
              congr 1
            · simp (disch := omega) only [f_M_readSum_10, f_M_readSum_28, f_M_readSum_42, jp_c, decide_eq_true_eq, n_lit, n_eq, r43, r45, v17, g2, Option.bind_some, Nat.reduceEqDiff, Nat.reduceAdd, Nat.reduceMul, ite_true, ite_false, if_true, if_false, eq_self_iff_true, ↓reduceIte, and_self, and_true, true_and, and_false, false_and, not_true_eq_false, not_false_eq_true, if_pos, if_neg]
              congr 1
          rw [c126, cR]
          have dx : da x2 = 1 := by rcases hx2 with rfl | rfl <;> rfl
          have d0 : da 0 = 0 := rfl
          refine RS_app ((uE k x :: opa a) ++ opb b) rfl rfl ?_ ?_ (kpL_t kL5 g5) (kpO_t kO5 g6) (ih p4 n4 k4 x4 A4 B4 _ _ 0 x2 (i + 1) fn jFu m (by omega) g3 (Or.inl rfl) (Or.inr hx2) (by omega) ?_ ?_ (by omega) (show 400 < 100000 + p4 by omega) (by omega))
          · intro E hE s y1 y2 h1 h2 hs
            obtain ⟨z', w1, w2⟩ := ty s y1 y2 h1 h2 hs
            obtain ⟨y, w3, w4⟩ := hE s 0 z' (by omega) w1 hs
            refine ⟨y, w3, w2 _ _ ?_⟩
            have : st1 0 0 (st1 x2 z' s) = z' :: s := by rw [st1, if_pos rfl, st1, if_neg (by omega)]
            rw [← this]; exact w4
          · rw [lE2.1, dx, d0]; omega
          · rw [List.length_append, lE2.1, dx, d0]; omega
          · rw [List.length_append, lE2.2, dx, d0]; omega
        · have h43 : ¬ (k2 = 3 ∧ x2 = 43) := fun e => hp3 ⟨e.1, Or.inl e.2⟩
          have h45 : ¬ (k2 = 3 ∧ x2 = 45) := fun e => hp3 ⟨e.1, Or.inr e.2⟩
          rw [if_neg h43] at i43 r43
          rw [if_neg h45] at i45 r45
          refine Or.inr ⟨A5, B5, p2, n2, k2, x2, (uE k x :: opa a) ++ opb b, ?_, ?_, f1, ?_, ?_, kL5, kO5⟩
          · simp (disch := omega) only [f_LR_sum_126, f_LR_sum_161, jp_c, decide_eq_true_eq, n_lit, n_eq, i43, i45, Nat.reduceEqDiff, Nat.reduceAdd, Nat.reduceMul, ite_true, ite_false, if_true, if_false, eq_self_iff_true, ↓reduceIte, and_self, and_true, true_and, and_false, false_and, not_true_eq_false, not_false_eq_true, if_pos, if_neg]
          · simp (disch := omega) only [f_M_readSum_10, jp_c, decide_eq_true_eq, n_lit, n_eq, r43, r45, Nat.reduceEqDiff, Nat.reduceAdd, Nat.reduceMul, ite_true, ite_false, if_true, if_false, eq_self_iff_true, ↓reduceIte, and_self, and_true, true_and, and_false, false_and, not_true_eq_false, not_false_eq_true, if_pos, if_neg]
          · intro s y1 y2 h1 h2 hs
            obtain ⟨z', w1, w2⟩ := ty s y1 y2 h1 h2 hs
            refine ⟨z', w1, ?_⟩
            have := w2 [] (z' :: s) (by rw [jtyp])
            rw [List.append_nil] at this
            exact this
          · rw [lE2.1]; omega
    · -- a fault
      have uf := u_cls_f h.1 hok
      left
      by_cases h2 : k = 2
      · subst h2
        obtain ⟨rfl, rfl⟩ : a = 47 ∧ x = 0 := by
          apply Classical.byContradiction
          intro h'; exact hok (Or.inl ⟨rfl, h'⟩)
        simp only [Nat.reduceEqDiff, Nat.reduceAdd, Nat.reduceMul, ite_true, ite_false, if_true, if_false, eq_self_iff_true, ↓reduceIte, and_self, and_true, true_and, and_false, false_and, not_true_eq_false, not_false_eq_true, if_pos, if_neg] at uf
        refine ⟨(f_R_fails (nI 2) A).2, (f_M_errs (nI 2) B).2, ?_, ?_, ls_fl h _⟩
        · simp (disch := omega) only [f_LR_sum_25, uf, jp_c, decide_eq_true_eq, n_lit, n_neg1, n_eq, Nat.reduceEqDiff, Nat.reduceAdd, Nat.reduceMul, ite_true, ite_false, if_true, if_false, eq_self_iff_true, ↓reduceIte, and_self, and_true, true_and, and_false, false_and, not_true_eq_false, not_false_eq_true, if_pos, if_neg]
        · rcases sy_B0 h.1 with h' | h' | ⟨-, t1, t2, t3⟩ | h' | h' | h'
          · omega
          · omega
          · simp (disch := omega) only [pR, sK, f_M_readProduct_57, f_M_errs, t1, t3, Option.bind_some, jp_c, decide_eq_true_eq, n_lit, n_neg1, n_eq, Nat.reduceEqDiff, Nat.reduceAdd, Nat.reduceMul, ite_true, ite_false, if_true, if_false, eq_self_iff_true, ↓reduceIte, and_self, and_true, true_and, and_false, false_and, not_true_eq_false, not_false_eq_true, if_pos, if_neg]
          · omega
          · omega
          · omega
      · refine ⟨(f_R_fails (nI 1) A).2, (f_M_errs (nI 1) B).2, ?_, ?_, ls_fl h _⟩
        · rw [if_neg h2] at uf
          simp (disch := omega) only [f_LR_sum_25, uf, jp_c, decide_eq_true_eq, n_lit, n_neg1, n_eq, Nat.reduceEqDiff, Nat.reduceAdd, Nat.reduceMul, ite_true, ite_false, if_true, if_false, eq_self_iff_true, ↓reduceIte, and_self, and_true, true_and, and_false, false_and, not_true_eq_false, not_false_eq_true, if_pos, if_neg]
        · rcases ha with rfl | rfl | rfl
          · have u1 := u_ref_f h.1 (by unfold uOK at hok; omega)
            simp (disch := omega) only [pR, sK, u1, Option.bind_some, jp_c, decide_eq_true_eq, n_lit, n_neg1, n_eq, Nat.reduceEqDiff, Nat.reduceAdd, Nat.reduceMul, ite_true, ite_false, if_true, if_false, eq_self_iff_true, ↓reduceIte, and_self, and_true, true_and, and_false, false_and, not_true_eq_false, not_false_eq_true, if_pos, if_neg]
          · have u1 := u_ref_f h.1 (by unfold uOK at hok; omega)
            simp (disch := omega) only [pR, sK, f_M_readProduct_74, u1, Option.bind_some, jp_c, decide_eq_true_eq, n_lit, n_neg1, n_eq, Nat.reduceEqDiff, Nat.reduceAdd, Nat.reduceMul, ite_true, ite_false, if_true, if_false, eq_self_iff_true, ↓reduceIte, and_self, and_true, true_and, and_false, false_and, not_true_eq_false, not_false_eq_true, if_pos, if_neg]
          · have t1 : ¬ B 104 16 = nI 3 := fun e => h2 ((sy_k0 h.1).2.1.1 e)
            simp (disch := omega) only [pR, sK, f_M_errs, t1, Option.bind_some, jp_c, decide_eq_true_eq, n_lit, n_neg1, n_eq, Nat.reduceEqDiff, Nat.reduceAdd, Nat.reduceMul, ite_true, ite_false, if_true, if_false, eq_self_iff_true, ↓reduceIte, and_self, and_true, true_and, and_false, false_and, not_true_eq_false, not_false_eq_true, if_pos, if_neg]
/-- E -/
theorem p_sum {p n k x : Nat} {A B : jp_M} {C : List Int32} {G : List (Nat × Int32)} (h : xLS N t A0 B0 A B p n k x C G) (hp : 1 ≤ p) (hC : C.length ≤ p) (hG : G.length ≤ p) :
    RS N t A0 B0 A B p C G (fun E => ∀ s, s.length ≤ 24 → ∃ y, y < 2 ∧ jtyp E s (y :: s)) 0 (f_LR_sum 1000 A) (f_M_readSum B) := by
  have h1 := l_sumE (N - p + 1) p n k x A B C G 0 0 0 jFu jFu jFu (by omega) h (Or.inl rfl) (Or.inl rfl) hp hC hG (show 400 < 100000 + p by omega) (show 400 < 100000 + p by omega) (show 400 < 100000 + p by omega)
  have e2 : (pR jFu 0 B).bind (sK jFu 0) = f_M_readSum B := by
    have e0 : pR jFu 0 B = f_M_readProduct B := by simp only [pR, f_M_readProduct, Nat.reduceEqDiff, Nat.reduceAdd, Nat.reduceMul, ite_true, ite_false, if_true, if_false, eq_self_iff_true, ↓reduceIte, and_self, and_true, true_and, and_false, false_and, not_true_eq_false, not_false_eq_true, if_pos, if_neg]
    rw [e0, f_M_readSum]
    congr 1
  rw [e2] at h1
  exact RS_app [] (by simp) (by simp) (fun E hE s hs => hE s 0 0 (by omega) (by omega) hs) (by simp [da]) (kpL_r A B) (kpO_r B) h1
end
