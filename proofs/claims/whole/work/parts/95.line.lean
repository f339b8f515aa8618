/-! lines of THE LAW, the latest first -/
def cG : List (Nat × List (Nat × Int32) × List (Nat × Int32)) → List (Nat × Int32)
  | [] => []
  | l :: R => cG R ++ (l.2.1 ++ l.2.2)
def cC (R : List (Nat × List (Nat × Int32) × List (Nat × Int32))) : List Int32 := (cG R).flatMap jenc
theorem cC_cons (w : Nat) (E D : List (Nat × Int32)) (R : List (Nat × List (Nat × Int32) × List (Nat × Int32))) : cC ((w, E, D) :: R) = cC R ++ E.flatMap jenc ++ D.flatMap jenc := by
  rw [cC, cG, List.flatMap_append, List.flatMap_append, ← List.append_assoc]; rfl
theorem cG_cons (w : Nat) (E D : List (Nat × Int32)) (R : List (Nat × List (Nat × Int32) × List (Nat × Int32))) : cG ((w, E, D) :: R) = cG R ++ E ++ D := by
  rw [cG, ← List.append_assoc]
def lnI (A B : jp_M) : List (Nat × List (Nat × Int32) × List (Nat × Int32)) → Prop
  | [] => True
  | l :: R => lnI A B R ∧ l.1 ≤ 2 ∧ jbit l.2.1 l.2.2 ∧ A 71 R.length = nI l.1 ∧ B 115 (32 + R.length) = nI l.1 ∧ B 116 (32 + R.length) = nI (cG R).length ∧ B 117 (32 + R.length) = nI ((cG R).length + l.2.1.length) ∧ B 118 (32 + R.length) = nI ((cG R).length + l.2.1.length + l.2.2.length) ∧
    A 72 R.length = nI ((cC R).length + (l.2.1.flatMap jenc).length) ∧ A 73 R.length = nI ((cC R).length + (l.2.1.flatMap jenc).length + (l.2.2.flatMap jenc).length)
theorem lnI_cg {A B A' B' : jp_M} : ∀ {R : List (Nat × List (Nat × Int32) × List (Nat × Int32))}, (∀ i, i < R.length → A' 71 i = A 71 i ∧ A' 72 i = A 72 i ∧ A' 73 i = A 73 i ∧ B' 115 (32 + i) = B 115 (32 + i) ∧ B' 116 (32 + i) = B 116 (32 + i) ∧ B' 117 (32 + i) = B 117 (32 + i) ∧ B' 118 (32 + i) = B 118 (32 + i)) → lnI A B R → lnI A' B' R
  | [], _, _ => trivial
  | l :: R, h, hI => by
    obtain ⟨h1, h2, h3, h4, h5, h6, h7, h8, h9, h10⟩ := hI
    obtain ⟨e1, e2, e3, e4, e5, e6, e7⟩ := h R.length (by rw [List.length_cons]; omega)
    exact ⟨lnI_cg (fun i hi => h i (by rw [List.length_cons]; omega)) h1, h2, h3, by rw [e1]; exact h4, by rw [e4]; exact h5, by rw [e5]; exact h6, by rw [e6]; exact h7, by rw [e7]; exact h8, by rw [e2]; exact h9, by rw [e3]; exact h10⟩
section
variable {N : Nat} {t : Nat → Nat} {A0 B0 A B : jp_M} {p n k x : Nat} {C : List Int32} {G : List (Nat × Int32)}
theorem LS_wA (h : xLS N t A0 B0 A B p n k x C G) {q : Nat} (hq : q = 71 ∨ q = 72 ∨ q = 73) (f : Nat → Int32) : xLS N t A0 B0 (jp_set A q f) B p n k x C G := by
  obtain ⟨hS, hA, hB, fA, fB⟩ := h
  have e : ∀ r, ¬ r = 71 → ¬ r = 72 → ¬ r = 73 → jp_set A q f r = A r := fun r h1 h2 h3 => st_ne (by omega)
  refine ⟨?_, ⟨?_, ?_⟩, hB, ⟨?_, ?_⟩, fB⟩
  · unfold Sy at hS ⊢
    rw [e 67 (by decide) (by decide) (by decide), e 68 (by decide) (by decide) (by decide)]
    exact hS
  · rw [e 70 (by decide) (by decide) (by decide)]; exact hA.1
  · rw [e 74 (by decide) (by decide) (by decide)]; exact hA.2
  · intro r hr; rw [e r (nin_ne hr (by decide)) (nin_ne hr (by decide)) (nin_ne hr (by decide))]; exact fA.1 r hr
  · intro i hi; rw [e 68 (by decide) (by decide) (by decide)]; exact fA.2 i hi
theorem LS_w70 (h : xLS N t A0 B0 A B p n k x C G) (v : Int32) : xLS N t A0 B0 (jp_set A 70 (upd (A 70) 0 v)) B p n k x C G := by
  obtain ⟨hS, hA, hB, fA, fB⟩ := h
  refine ⟨?_, ⟨?_, ?_⟩, hB, ⟨?_, ?_⟩, fB⟩
  · unfold Sy at hS ⊢
    simp only [st_ap, Nat.reduceEqDiff, Nat.reduceAdd, Nat.reduceMul, ite_true, ite_false, if_true, if_false, eq_self_iff_true, ↓reduceIte, and_self, and_true, true_and, and_false, false_and, not_true_eq_false, not_false_eq_true, if_pos, if_neg]; exact hS
  · rw [st_same, ud_ne (by decide)]; exact hA.1
  · rw [st_ne (by decide)]; exact hA.2
  · intro r hr; rw [st_ne (nin_ne hr (by decide))]; exact fA.1 r hr
  · intro i hi; rw [st_ne (by decide)]; exact fA.2 i hi
theorem LS_wB (h : xLS N t A0 B0 A B p n k x C G) {q : Nat} (hq : q = 115 ∨ q = 116 ∨ q = 117 ∨ q = 118) {j : Nat} (hj : 32 ≤ j) (v : Int32) : xLS N t A0 B0 A (jp_set B q (upd (B q) j v)) p n k x C G := by
  obtain ⟨hS, hA, hB, fA, fB⟩ := h
  have e : ∀ r, ¬ r = 115 → ¬ r = 116 → ¬ r = 117 → ¬ r = 118 → jp_set B q (upd (B q) j v) r = B r := fun r h1 h2 h3 h4 => st_ne (by omega)
  have e2 : ∀ r i, i < 32 → jp_set B q (upd (B q) j v) r i = B r i := by
    intro r i hi
    rw [st_ap]
    split
    · next he => rw [he, ud_ne (by omega)]
    · rfl
  refine ⟨?_, hA, ⟨?_, ?_⟩, fA, ⟨?_, ?_, ?_, ?_⟩⟩
  · unfold Sy at hS ⊢
    rw [e 112 (by decide) (by decide) (by decide) (by decide), e 113 (by decide) (by decide) (by decide) (by decide), e 104 (by decide) (by decide) (by decide) (by decide)]
    exact hS
  · rw [e 104 (by decide) (by decide) (by decide) (by decide)]; exact hB.1
  · rw [e 119 (by decide) (by decide) (by decide) (by decide), e 120 (by decide) (by decide) (by decide) (by decide)]; exact hB.2
  · intro r hr; rw [e r (nin_ne hr (by decide)) (nin_ne hr (by decide)) (nin_ne hr (by decide)) (nin_ne hr (by decide))]; exact fB.1 r hr
  · intro i hi; rw [e 104 (by decide) (by decide) (by decide) (by decide)]; exact fB.2.1 i hi
  · intro i hi; rw [e 119 (by decide) (by decide) (by decide) (by decide), e 120 (by decide) (by decide) (by decide) (by decide)]; exact fB.2.2.1 i hi
  · intro i hi; rw [e2 115 i hi, e2 116 i hi, e2 117 i hi, e2 118 i hi]; exact fB.2.2.2 i hi
theorem m_lw (h : Sy 0 N t A B p n k x) : f_M_isLineWord B = if k = 1 ∧ x ≤ 2 then nI 1 else nI 0 := by
  have hz : ∀ y, y < 100 → f_M_isIn (nI y) (nI 0) (nI 2) = if y ≤ 2 then nI 1 else nI 0 := by
    intro y hy
    rw [n_isIn]
    simp (disch := omega) only [n_le, Nat.zero_le, true_and]
  rcases sy_B0 h with ⟨rfl, h1⟩ | ⟨rfl, h1, h2, h3⟩ | ⟨rfl, h1, h2, h3⟩ | ⟨rfl, h1, -⟩ | ⟨rfl, h1⟩ | ⟨rfl, h1, y, y1, y2, y3⟩
  · simp (disch := omega) only [f_M_isLineWord, jp_c, decide_eq_true_eq, n_lit, n_eq, h1, Nat.reduceEqDiff, Nat.reduceAdd, Nat.reduceMul, ite_true, ite_false, if_true, if_false, eq_self_iff_true, ↓reduceIte, and_self, and_true, true_and, and_false, false_and, not_true_eq_false, not_false_eq_true, if_pos, if_neg]
  · have h4 := hz x (by omega)
    by_cases h5 : x ≤ 2
    · rw [if_pos h5] at h4
      simp (disch := omega) only [f_M_isLineWord, jp_c, decide_eq_true_eq, n_lit, n_eq, h1, h3, h4, h5, Nat.reduceEqDiff, Nat.reduceAdd, Nat.reduceMul, ite_true, ite_false, if_true, if_false, eq_self_iff_true, ↓reduceIte, and_self, and_true, true_and, and_false, false_and, not_true_eq_false, not_false_eq_true, if_pos, if_neg]
    · rw [if_neg h5] at h4
      simp (disch := omega) only [f_M_isLineWord, jp_c, decide_eq_true_eq, n_lit, n_eq, h1, h3, h4, h5, Nat.reduceEqDiff, Nat.reduceAdd, Nat.reduceMul, ite_true, ite_false, if_true, if_false, eq_self_iff_true, ↓reduceIte, and_self, and_true, true_and, and_false, false_and, not_true_eq_false, not_false_eq_true, if_pos, if_neg]
  · simp (disch := omega) only [f_M_isLineWord, jp_c, decide_eq_true_eq, n_lit, n_eq, h1, Nat.reduceEqDiff, Nat.reduceAdd, Nat.reduceMul, ite_true, ite_false, if_true, if_false, eq_self_iff_true, ↓reduceIte, and_self, and_true, true_and, and_false, false_and, not_true_eq_false, not_false_eq_true, if_pos, if_neg]
  · simp (disch := omega) only [f_M_isLineWord, jp_c, decide_eq_true_eq, n_lit, n_eq, h1, Nat.reduceEqDiff, Nat.reduceAdd, Nat.reduceMul, ite_true, ite_false, if_true, if_false, eq_self_iff_true, ↓reduceIte, and_self, and_true, true_and, and_false, false_and, not_true_eq_false, not_false_eq_true, if_pos, if_neg]
  · simp (disch := omega) only [f_M_isLineWord, jp_c, decide_eq_true_eq, n_lit, n_eq, h1, Nat.reduceEqDiff, Nat.reduceAdd, Nat.reduceMul, ite_true, ite_false, if_true, if_false, eq_self_iff_true, ↓reduceIte, and_self, and_true, true_and, and_false, false_and, not_true_eq_false, not_false_eq_true, if_pos, if_neg]
  · have h4 := hz y (by omega)
    rw [if_neg (by omega)] at h4
    simp (disch := omega) only [f_M_isLineWord, jp_c, decide_eq_true_eq, n_lit, n_eq, h1, y3, h4, Nat.reduceEqDiff, Nat.reduceAdd, Nat.reduceMul, ite_true, ite_false, if_true, if_false, eq_self_iff_true, ↓reduceIte, and_self, and_true, true_and, and_false, false_and, not_true_eq_false, not_false_eq_true, if_pos, if_neg]
end
def LW (N : Nat) (t : Nat → Nat) (A0 B0 A B : jp_M) (p n k x : Nat) (R : List (Nat × List (Nat × Int32) × List (Nat × Int32))) : Prop :=
  xLS N t A0 B0 A B p n k x (cC R) (cG R) ∧ lnI A B R ∧ A 70 0 = nI R.length ∧ B 104 28 = nI 0 ∧ (cC R).length ≤ p ∧ (cG R).length ≤ p
section
variable {N : Nat} {t : Nat → Nat} {A0 B0 : jp_M}
/-- a line -/
theorem l_line {A B : jp_M} {p n x : Nat} {R : List (Nat × List (Nat × Int32) × List (Nat × Int32))} (h : LW N t A0 B0 A B p n 1 x R) (hx : x ≤ 2) (hR : R.length < 16) (c2 : Int32 → jp_M → Option (Int32 × jp_M)) (m' : Nat) (hc : f_M_readLaw_2 m' = c2) :
    (∃ A' B', f_LR_line 1000 A = some (nI 0, A') ∧ f_M_readLaw_2 (m' + 1) (nI R.length) B = some (nI 4294967295, B') ∧ Fl A0 B0 A' B') ∨
    (∃ A' B' p' n' k' x' E D, f_LR_line 1000 A = some (nI 1, A') ∧ f_M_readLaw_2 (m' + 1) (nI R.length) B = f_M_readLaw_2 m' (nI (R.length + 1)) B' ∧ LW N t A0 B0 A' B' p' n' k' x' ((x, E, D) :: R)) := by
  obtain ⟨hL, hI, h70, h28, hC, hG⟩ := h
  have hp := sy_p hL.1
  have hpn := hp.2.2.2 (by omega)
  have v6 := sy_v hL.1 (by omega) (by omega)
  have k5 := (sy_k hL.1).1
  have v17 : B 104 17 = nI x := by
    rcases sy_B0 hL.1 with h' | ⟨-, t1, t2, t3⟩ | h' | h' | h' | h'
    · omega
    · exact t3
    · omega
    · omega
    · omega
    · omega
  have lw := m_lw hL.1
  rw [if_pos ⟨rfl, hx⟩] at lw
  generalize hl : R.length = l at hR h70
  have L1 := LS_wB (LS_wA hL (q := 71) (Or.inl rfl) (upd (A 71) l (nI x))) (q := 115) (Or.inl rfl) (j := 32 + l) (by omega) (nI x)
  generalize hA1 : jp_set A 71 (upd (A 71) l (nI x)) = A1 at L1
  generalize hB1 : jp_set B 115 (upd (B 115) (32 + l) (nI x)) = B1 at L1
  obtain ⟨A2, B2, p2, n2, k2, x2, g1, g2, g3, g4, g5, g6⟩ := ls_adv L1
  have b27 := g3.2.2.1.1
  have L3 := LS_wB g3 (q := 116) (Or.inr (Or.inl rfl)) (j := 32 + l) (by omega) (nI (cG R).length)
  generalize hB3 : jp_set B2 116 (upd (B2 116) (32 + l) (nI (cG R).length)) = B3 at L3
  have hl16 : l < 16 := hR
  have hle : ¬ 16 ≤ l := by omega
  have hl16' : ¬ l = 16 := by omega
  have hp2 := sy_p g3.1
  -- the class and the reference, up to the sum
  have cA : f_LR_line 1000 A = (f_LR_sum 1000 A2).bind fun q4 => (
      if jp_c .ne q4.1 0 = true then (
      jg (jp_in (nI l) 16) (
      let M5 := jp_set q4.2 72 (upd (q4.2 72) (Int32.toNatClampNeg (nI l)) (q4.2 70 1))
      if jp_c .eq (f_R_isWord (3 : Int32) M5) 0 = true then (
      f_LR_line_130 (nI l) 1000 M5) else (
      (f_R_advances 1000 M5).bind fun q8 => (
      (f_LR_condition (f_LR_opened 10) (0 : Int32) 1000 q8).bind fun q9 => (
      if jp_c .ne q9.1 0 = true then (
      f_LR_line_130 (nI l) 1000 (q9.2)) else (
      some ((0 : Int32), q9.2))))))) else (
      some ((0 : Int32), q4.2))) := by
    simp (disch := omega) only [f_LR_line, jp_c, decide_eq_true_eq, n_lit, n_eq, n_le, n_lt, n_in, n_cl, k5, v6, h70, hx, hR, hA1, g1, Option.bind_some, jg_t, jg_T, Nat.reduceEqDiff, Nat.reduceAdd, Nat.reduceMul, ite_true, ite_false, if_true, if_false, eq_self_iff_true, ↓reduceIte, and_self, and_true, true_and, and_false, false_and, not_true_eq_false, not_false_eq_true, if_pos, if_neg]
    rfl
  have cB : f_M_readLaw_2 (m' + 1) (nI l) B = (f_M_readSum B3).bind fun q8 => (
      if jp_c .ne q8.1 (-1 : Int32) = true then (
      jg (jp_in ((32 : Int32) + nI l) 48) (
      let M9 := jp_set q8.2 117 (upd (q8.2 117) (Int32.toNatClampNeg ((32 : Int32) + nI l)) (q8.2 104 27))
      if jp_c .eq (f_M_isWord (3 : Int32) M9) 0 = true then (
      f_M_readLaw_92 (f_M_readLaw_2 m' ) (nI l) ((32 : Int32) + nI l) M9) else (
      (f_M_reads M9).bind fun q12 => (
      (f_M_readAny q12).bind fun q13 => (
      if jp_c .ne q13.1 (-1 : Int32) = true then (
      f_M_readLaw_92 (f_M_readLaw_2 m' ) (nI l) ((32 : Int32) + nI l) (q13.2)) else (
      some ((-1 : Int32), q13.2))))))) else (
      some ((-1 : Int32), q8.2))) := by
    simp (disch := omega) only [f_M_readLaw_2, jp_c, decide_eq_true_eq, n_lit, n_add, n_eq, n_in, n_cl, lw, v17, hl16', hB1, g2, b27, hB3, Option.bind_some, jg_t, Nat.reduceEqDiff, Nat.reduceAdd, Nat.reduceMul, ite_true, ite_false, if_true, if_false, eq_self_iff_true, ↓reduceIte, and_self, and_true, true_and, and_false, false_and, not_true_eq_false, not_false_eq_true, if_pos, if_neg]
  rw [cA, cB]
  rcases p_sum L3 (by omega) (by omega) (by omega) with ⟨A4, B4, s1, s2, s3⟩ | ⟨A4, B4, p4, n4, k4, x4, E, s1, s2, s3, s4, s5, s6, s7⟩
  · refine Or.inl ⟨A4, B4, ?_, ?_, s3⟩
    · simp (disch := omega) only [jp_c, decide_eq_true_eq, n_lit, n_eq, s1, Option.bind_some, Nat.reduceEqDiff, Nat.reduceAdd, Nat.reduceMul, ite_true, ite_false, if_true, if_false, eq_self_iff_true, ↓reduceIte, and_self, and_true, true_and, and_false, false_and, not_true_eq_false, not_false_eq_true, if_pos, if_neg]
    · simp (disch := omega) only [jp_c, decide_eq_true_eq, n_lit, n_neg1, n_eq, s2, Option.bind_some, Nat.reduceEqDiff, Nat.reduceAdd, Nat.reduceMul, ite_true, ite_false, if_true, if_false, eq_self_iff_true, ↓reduceIte, and_self, and_true, true_and, and_false, false_and, not_true_eq_false, not_false_eq_true, if_pos, if_neg]
  · have a70 := s3.2.1.1
    have b27' := s3.2.2.1.1
    have L5 := LS_wB (LS_wA s3 (q := 72) (Or.inr (Or.inl rfl)) (upd (A4 72) l (nI (cC R ++ E.flatMap jenc).length))) (q := 117) (Or.inr (Or.inr (Or.inl rfl))) (j := 32 + l) (by omega) (nI (cG R ++ E).length)
    generalize hA5 : jp_set A4 72 (upd (A4 72) l (nI (cC R ++ E.flatMap jenc).length)) = A5 at L5
    generalize hB5 : jp_set B4 117 (upd (B4 117) (32 + l) (nI (cG R ++ E).length)) = B5 at L5
    have w3 := sy_wA L5.1 (w := 3) (by omega)
    have m3 := sy_wB L5.1 (w := 3) (by decide)
    rw [show jlo 0 + 3 = 3 from rfl] at m3
    have hp4 := sy_p L5.1
    have fE := fm_len E
    have fG : (cG R).length ≤ (cC R).length := fm_len (cG R)
    have lC1 : (cC R ++ E.flatMap jenc).length = (cC R).length + (E.flatMap jenc).length := List.length_append
    have lG1 : (cG R ++ E).length = (cG R).length + E.length := List.length_append
    have b28 : B5 104 28 = nI 0 := by
      rw [← hB5, st_ne (by decide), s7.1, ← hB3, st_ne (by decide), g6.1, ← hB1, st_ne (by decide)]; exact h28
    have jE : ∃ y, y < 2 ∧ jtyp E [] [y] := s4 [] (by simp)
    -- the end of a line
    have fin : ∀ (A7 B7 : jp_M) (p7 n7 k7 x7 : Nat) (D : List (Nat × Int32)), xLS N t A0 B0 A7 B7 p7 n7 k7 x7 (cC R ++ E.flatMap jenc ++ D.flatMap jenc) (cG R ++ E ++ D) → B7 104 28 = nI 0 → (D = [] ∨ jtyp D [] [2]) → (cC R).length + (E.flatMap jenc).length + (D.flatMap jenc).length ≤ p7 → kpL A5 A7 B5 B7 →
        (∃ A' B', f_LR_line_130 (nI l) 1000 A7 = some (nI 0, A') ∧ f_M_readLaw_92 (f_M_readLaw_2 m') (nI l) (nI (32 + l)) B7 = some (nI 4294967295, B') ∧ Fl A0 B0 A' B') ∨
        (∃ A' B' p' n' k' x' E D, f_LR_line_130 (nI l) 1000 A7 = some (nI 1, A') ∧ f_M_readLaw_92 (f_M_readLaw_2 m') (nI l) (nI (32 + l)) B7 = f_M_readLaw_2 m' (nI (l + 1)) B' ∧ LW N t A0 B0 A' B' p' n' k' x' ((x, E, D) :: R)) := by
      intro A7 B7 p7 n7 k7 x7 D h7 h728 hD hlen kp7
      have c70 := h7.2.1.1
      have d27 := h7.2.2.1.1
      have a700 : A7 70 0 = nI l := by
        rw [kp7.2.2.2.1, ← hA5, st_ne (by decide), s6.2.2.2.1, g5.2.2.2.1, ← hA1, st_ne (by decide)]; exact h70
      have L8 := LS_w70 (LS_wB (LS_wA h7 (q := 73) (Or.inr (Or.inr rfl)) (upd (A7 73) l (nI (cC R ++ E.flatMap jenc ++ D.flatMap jenc).length))) (q := 118) (Or.inr (Or.inr (Or.inr rfl))) (j := 32 + l) (by omega) (nI (cG R ++ E ++ D).length)) (nI (l + 1))
      rw [st_ne (show ¬ 70 = 73 by decide)] at L8
      generalize hA8 : jp_set (jp_set A7 73 (upd (A7 73) l (nI (cC R ++ E.flatMap jenc ++ D.flatMap jenc).length))) 70 (upd (A7 70) 0 (nI (l + 1))) = A8 at L8
      generalize hB8 : jp_set B7 118 (upd (B7 118) (32 + l) (nI (cG R ++ E ++ D).length)) = B8 at L8
      have i59 := sy_sA L8.1 (w := 59) (by omega)
      have r59 := sy_sB L8.1 (w := 59) (by omega)
      have c130 : f_LR_line_130 (nI l) 1000 A7 = (f_R_passesSign (nI 59) 1000 A8).bind fun q4 => some (q4.1, q4.2) := by
        simp (disch := omega) only [f_LR_line_130, jp_c, decide_eq_true_eq, n_lit, n_add, n_in, n_cl, c70, a700, st_ap, hA8, jg_t, Nat.reduceEqDiff, Nat.reduceAdd, Nat.reduceMul, ite_true, ite_false, if_true, if_false, eq_self_iff_true, ↓reduceIte, and_self, and_true, true_and, and_false, false_and, not_true_eq_false, not_false_eq_true, if_pos, if_neg]
      have c92 : f_M_readLaw_92 (f_M_readLaw_2 m') (nI l) (nI (32 + l)) B7 = if jp_c .ne (f_M_isSign (nI 59) B8) (nI 0) = true then (f_M_reads B8).bind fun q4 => f_M_readLaw_2 m' (nI (l + 1)) q4 else some ((f_M_errs (nI 1) B8).1, (f_M_errs (nI 1) B8).2) := by
        simp (disch := omega) only [f_M_readLaw_92, n_lit, n_add, n_in, n_cl, d27, hB8, jg_t]
      rw [c130, c92]
      by_cases h59 : k7 = 3 ∧ x7 = 59
      · rw [if_pos h59] at i59 r59
        obtain ⟨A9, B9, p9, n9, k9, x9, y1, y2, y3, y4, y5, y6⟩ := ls_adv L8
        have hp8 := sy_p L8.1
        have hpn8 := hp8.2.2.2 (by omega)
        have hp9 := sy_p y3.1
        have fD := fm_len D
        refine Or.inr ⟨A9, B9, p9, n9, k9, x9, E, D, ?_, ?_, ?_, ?_, ?_, ?_, ?_, ?_⟩
        · simp (disch := omega) only [f_R_passesSign, jp_c, decide_eq_true_eq, n_lit, n_eq, i59, y1, Option.bind_some, Nat.reduceEqDiff, Nat.reduceAdd, Nat.reduceMul, ite_true, ite_false, if_true, if_false, eq_self_iff_true, ↓reduceIte, and_self, and_true, true_and, and_false, false_and, not_true_eq_false, not_false_eq_true, if_pos, if_neg]
        · simp (disch := omega) only [jp_c, decide_eq_true_eq, n_lit, n_eq, r59, y2, Option.bind_some, Nat.reduceEqDiff, Nat.reduceAdd, Nat.reduceMul, ite_true, ite_false, if_true, if_false, eq_self_iff_true, ↓reduceIte, and_self, and_true, true_and, and_false, false_and, not_true_eq_false, not_false_eq_true, if_pos, if_neg]
        · rw [cC_cons, cG_cons]; exact y3
        · -- the lines so far
          have a71 : A9 71 = upd (A 71) l (nI x) := by
            rw [y5.1, ← hA8, st_ne (by decide), st_ne (by decide), kp7.1, ← hA5, st_ne (by decide), s6.1, g5.1, ← hA1, st_same]
          have a72 : A9 72 = upd (A 72) l (nI ((cC R).length + (E.flatMap jenc).length)) := by
            rw [y5.2.1, ← hA8, st_ne (by decide), st_ne (by decide), kp7.2.1, ← hA5, st_same, s6.2.1, g5.2.1, ← hA1, st_ne (by decide), lC1]
          have a73 : A9 73 = upd (A 73) l (nI ((cC R).length + (E.flatMap jenc).length + (D.flatMap jenc).length)) := by
            rw [y5.2.2.1, ← hA8, st_ne (by decide), st_same, kp7.2.2.1, ← hA5, st_ne (by decide), s6.2.2.1, g5.2.2.1, ← hA1, st_ne (by decide), List.length_append, lC1]
          have b115 : B9 115 = upd (B 115) (32 + l) (nI x) := by
            rw [y5.2.2.2.2.1, ← hB8, st_ne (by decide), kp7.2.2.2.2.1, ← hB5, st_ne (by decide), s6.2.2.2.2.1, ← hB3, st_ne (by decide), g5.2.2.2.2.1, ← hB1, st_same]
          have b116 : B9 116 = upd (B 116) (32 + l) (nI (cG R).length) := by
            rw [y5.2.2.2.2.2.1, ← hB8, st_ne (by decide), kp7.2.2.2.2.2.1, ← hB5, st_ne (by decide), s6.2.2.2.2.2.1, ← hB3, st_same, g5.2.2.2.2.2.1, ← hB1, st_ne (by decide)]
          have b117 : B9 117 = upd (B 117) (32 + l) (nI ((cG R).length + E.length)) := by
            rw [y5.2.2.2.2.2.2.1, ← hB8, st_ne (by decide), kp7.2.2.2.2.2.2.1, ← hB5, st_same, s6.2.2.2.2.2.2.1, ← hB3, st_ne (by decide), g5.2.2.2.2.2.2.1, ← hB1, st_ne (by decide), lG1]
          have b118 : B9 118 = upd (B 118) (32 + l) (nI ((cG R).length + E.length + D.length)) := by
            rw [y5.2.2.2.2.2.2.2, ← hB8, st_same, kp7.2.2.2.2.2.2.2, ← hB5, st_ne (by decide), s6.2.2.2.2.2.2.2, ← hB3, st_ne (by decide), g5.2.2.2.2.2.2.2, ← hB1, st_ne (by decide), List.length_append, lG1]
          refine ⟨lnI_cg (fun i hi => ?_) hI, hx, ⟨jE, hD⟩, ?_, ?_, ?_, ?_, ?_, ?_, ?_⟩
          · rw [a71, a72, a73, b115, b116, b117, b118, ud_ne (by omega), ud_ne (by omega), ud_ne (by omega), ud_ne (by omega), ud_ne (by omega), ud_ne (by omega), ud_ne (by omega)]
            exact ⟨rfl, rfl, rfl, rfl, rfl, rfl, rfl⟩
          · rw [hl, a71, ud_eq rfl]
          · rw [hl, b115, ud_eq rfl]
          · rw [hl, b116, ud_eq rfl]
          · rw [hl, b117, ud_eq rfl]
          · rw [hl, b118, ud_eq rfl]
          · rw [hl, a72, ud_eq rfl]
          · rw [hl, a73, ud_eq rfl]
        · rw [y5.2.2.2.1, ← hA8, st_same, ud_eq rfl, List.length_cons, hl]
        · rw [y6.1, ← hB8, st_ne (by decide)]; exact h728
        · rw [cC_cons, List.length_append, lC1]; omega
        · rw [cG_cons, List.length_append, lG1]; omega
      · rw [if_neg h59] at i59 r59
        refine Or.inl ⟨(f_R_fails (nI 1) A8).2, (f_M_errs (nI 1) B8).2, ?_, ?_, ls_fl L8 _⟩
        · simp (disch := omega) only [f_R_passesSign, f_R_fails, jp_c, decide_eq_true_eq, n_lit, n_eq, i59, Option.bind_some, Nat.reduceEqDiff, Nat.reduceAdd, Nat.reduceMul, ite_true, ite_false, if_true, if_false, eq_self_iff_true, ↓reduceIte, and_self, and_true, true_and, and_false, false_and, not_true_eq_false, not_false_eq_true, if_pos, if_neg]
        · simp (disch := omega) only [f_M_errs, jp_c, decide_eq_true_eq, n_lit, n_neg1, n_eq, r59, Nat.reduceEqDiff, Nat.reduceAdd, Nat.reduceMul, ite_true, ite_false, if_true, if_false, eq_self_iff_true, ↓reduceIte, and_self, and_true, true_and, and_false, false_and, not_true_eq_false, not_false_eq_true, if_pos, if_neg]
    by_cases hw : k4 = 1 ∧ x4 = 3
    · rw [if_pos hw] at w3 m3
      have hpn4 := hp4.2.2.2 (by omega)
      obtain ⟨A6, B6, p6, n6, k6, x6, z1, z2, z3, z4, z5, z6⟩ := ls_adv L5
      have hp6 := sy_p z3.1
      rcases p_cond z3 (by rw [z6.1]; exact b28) (by omega) (by omega) (by omega) with ⟨A7, B7, u1, u2, u3⟩ | ⟨A7, B7, p7, n7, k7, x7, D, u1, u2, u3, u4, u5, u6, u7⟩
      · refine Or.inl ⟨A7, B7, ?_, ?_, u3⟩
        · simp (disch := omega) only [jp_c, decide_eq_true_eq, n_lit, n_eq, n_in, n_cl, s1, a70, hA5, w3, z1, u1, Option.bind_some, jg_t, Nat.reduceEqDiff, Nat.reduceAdd, Nat.reduceMul, ite_true, ite_false, if_true, if_false, eq_self_iff_true, ↓reduceIte, and_self, and_true, true_and, and_false, false_and, not_true_eq_false, not_false_eq_true, if_pos, if_neg]
        · simp (disch := omega) only [jp_c, decide_eq_true_eq, n_lit, n_neg1, n_add, n_eq, n_in, n_cl, s2, b27', hB5, m3, z2, u2, Option.bind_some, jg_t, Nat.reduceEqDiff, Nat.reduceAdd, Nat.reduceMul, ite_true, ite_false, if_true, if_false, eq_self_iff_true, ↓reduceIte, and_self, and_true, true_and, and_false, false_and, not_true_eq_false, not_false_eq_true, if_pos, if_neg]
      · have f1 := fin A7 B7 p7 n7 k7 x7 D u3 u4 (Or.inr u5) (by omega) (kpL_t z5 u7)
        rcases f1 with ⟨A', B', q1, q2, q3⟩ | ⟨A', B', p', n', k', x', E', D', q1, q2, q3⟩
        · refine Or.inl ⟨A', B', ?_, ?_, q3⟩
          · rw [← q1]
            simp (disch := omega) only [jp_c, decide_eq_true_eq, n_lit, n_eq, n_in, n_cl, s1, a70, hA5, w3, z1, u1, Option.bind_some, jg_t, Nat.reduceEqDiff, Nat.reduceAdd, Nat.reduceMul, ite_true, ite_false, if_true, if_false, eq_self_iff_true, ↓reduceIte, and_self, and_true, true_and, and_false, false_and, not_true_eq_false, not_false_eq_true, if_pos, if_neg]
          · rw [← q2]
            simp (disch := omega) only [jp_c, decide_eq_true_eq, n_lit, n_neg1, n_add, n_eq, n_in, n_cl, s2, b27', hB5, m3, z2, u2, Option.bind_some, jg_t, Nat.reduceEqDiff, Nat.reduceAdd, Nat.reduceMul, ite_true, ite_false, if_true, if_false, eq_self_iff_true, ↓reduceIte, and_self, and_true, true_and, and_false, false_and, not_true_eq_false, not_false_eq_true, if_pos, if_neg]
        · refine Or.inr ⟨A', B', p', n', k', x', E', D', ?_, ?_, q3⟩
          · rw [← q1]
            simp (disch := omega) only [jp_c, decide_eq_true_eq, n_lit, n_eq, n_in, n_cl, s1, a70, hA5, w3, z1, u1, Option.bind_some, jg_t, Nat.reduceEqDiff, Nat.reduceAdd, Nat.reduceMul, ite_true, ite_false, if_true, if_false, eq_self_iff_true, ↓reduceIte, and_self, and_true, true_and, and_false, false_and, not_true_eq_false, not_false_eq_true, if_pos, if_neg]
          · rw [← q2]
            simp (disch := omega) only [jp_c, decide_eq_true_eq, n_lit, n_neg1, n_add, n_eq, n_in, n_cl, s2, b27', hB5, m3, z2, u2, Option.bind_some, jg_t, Nat.reduceEqDiff, Nat.reduceAdd, Nat.reduceMul, ite_true, ite_false, if_true, if_false, eq_self_iff_true, ↓reduceIte, and_self, and_true, true_and, and_false, false_and, not_true_eq_false, not_false_eq_true, if_pos, if_neg]
    · rw [if_neg hw] at w3 m3
      have f1 := fin A5 B5 p4 n4 k4 x4 [] (by simpa using L5) b28 (Or.inl rfl) (by rw [List.flatMap_nil, List.length_nil]; omega) (kpL_r A5 B5)
      rcases f1 with ⟨A', B', q1, q2, q3⟩ | ⟨A', B', p', n', k', x', E', D', q1, q2, q3⟩
      · refine Or.inl ⟨A', B', ?_, ?_, q3⟩
        · rw [← q1]
          simp (disch := omega) only [jp_c, decide_eq_true_eq, n_lit, n_eq, n_in, n_cl, s1, a70, hA5, w3, Option.bind_some, jg_t, Nat.reduceEqDiff, Nat.reduceAdd, Nat.reduceMul, ite_true, ite_false, if_true, if_false, eq_self_iff_true, ↓reduceIte, and_self, and_true, true_and, and_false, false_and, not_true_eq_false, not_false_eq_true, if_pos, if_neg]
        · rw [← q2]
          simp (disch := omega) only [jp_c, decide_eq_true_eq, n_lit, n_neg1, n_add, n_eq, n_in, n_cl, s2, b27', hB5, m3, Option.bind_some, jg_t, Nat.reduceEqDiff, Nat.reduceAdd, Nat.reduceMul, ite_true, ite_false, if_true, if_false, eq_self_iff_true, ↓reduceIte, and_self, and_true, true_and, and_false, false_and, not_true_eq_false, not_false_eq_true, if_pos, if_neg]
      · refine Or.inr ⟨A', B', p', n', k', x', E', D', ?_, ?_, q3⟩
        · rw [← q1]
          simp (disch := omega) only [jp_c, decide_eq_true_eq, n_lit, n_eq, n_in, n_cl, s1, a70, hA5, w3, Option.bind_some, jg_t, Nat.reduceEqDiff, Nat.reduceAdd, Nat.reduceMul, ite_true, ite_false, if_true, if_false, eq_self_iff_true, ↓reduceIte, and_self, and_true, true_and, and_false, false_and, not_true_eq_false, not_false_eq_true, if_pos, if_neg]
        · rw [← q2]
          simp (disch := omega) only [jp_c, decide_eq_true_eq, n_lit, n_neg1, n_add, n_eq, n_in, n_cl, s2, b27', hB5, m3, Option.bind_some, jg_t, Nat.reduceEqDiff, Nat.reduceAdd, Nat.reduceMul, ite_true, ite_false, if_true, if_false, eq_self_iff_true, ↓reduceIte, and_self, and_true, true_and, and_false, false_and, not_true_eq_false, not_false_eq_true, if_pos, if_neg]
theorem l_rlaw : ∀ d (A B : jp_M) (p n k x : Nat) (R : List (Nat × List (Nat × Int32) × List (Nat × Int32))) (m mb : Nat), R.length + d = 16 → d < m → d < mb → LW N t A0 B0 A B p n k x R →
    (∃ A' B', f_LR_reads_9 m (nI R.length) 1000 A = some (nI 0, A') ∧ f_M_readLaw_2 mb (nI R.length) B = some (nI 4294967295, B') ∧ Fl A0 B0 A' B') ∨
    (∃ A' B' p' n' k' x' R', f_LR_reads_9 m (nI R.length) 1000 A = some (nI 1, A') ∧ f_M_readLaw_2 mb (nI R.length) B = some (nI R'.length, B') ∧ LW N t A0 B0 A' B' p' n' k' x' R' ∧ R'.length ≤ 16) := by
  intro d
  induction d with
  | zero =>
    intro A B p n k x R m mb hR hm hmb h
    obtain ⟨m, rfl⟩ : ∃ k, m = k + 1 := ⟨m - 1, by omega⟩
    obtain ⟨mb, rfl⟩ : ∃ k, mb = k + 1 := ⟨mb - 1, by omega⟩
    have k5 := (sy_k h.1.1).1
    have lw := m_lw h.1.1
    have k0 := (sy_k0 h.1.1).1
    have hl : R.length = 16 := by omega
    have h70 := h.2.2.1
    rw [hl] at h70
    rw [hl]
    by_cases hk0 : k = 0
    · subst hk0
      refine Or.inr ⟨A, B, p, n, 0, x, R, ?_, ?_, h, by omega⟩
      · simp (disch := omega) only [f_LR_reads_9, jp_c, decide_eq_true_eq, n_lit, n_lt, n_eq, k5, Nat.lt_irrefl, Nat.reduceEqDiff, Nat.reduceAdd, Nat.reduceMul, ite_true, ite_false, if_true, if_false, eq_self_iff_true, ↓reduceIte, and_self, and_true, true_and, and_false, false_and, not_true_eq_false, not_false_eq_true, if_pos, if_neg]
      · rw [if_neg (by omega)] at lw
        have k0' := k0.2 rfl
        simp (disch := omega) only [f_M_readLaw_2, jp_c, decide_eq_true_eq, n_lit, n_eq, lw, k0', hl, Nat.reduceEqDiff, Nat.reduceAdd, Nat.reduceMul, ite_true, ite_false, if_true, if_false, eq_self_iff_true, ↓reduceIte, and_self, and_true, true_and, and_false, false_and, not_true_eq_false, not_false_eq_true, if_pos, if_neg]
    · have k0' : ¬ B 104 16 = nI 0 := fun e => hk0 (k0.1 e)
      by_cases hw : k = 1 ∧ x ≤ 2
      · rw [if_pos hw] at lw
        obtain ⟨rfl, hx⟩ := hw
        have v6 := sy_v h.1.1 (by omega) (by omega)
        refine Or.inl ⟨(f_R_fails (nI 3) A).2, (f_M_errs (nI 3) B).2, ?_, ?_, ls_fl h.1 _⟩
        · simp (disch := omega) only [f_LR_reads_9, f_LR_line, f_R_fails, jp_c, decide_eq_true_eq, n_lit, n_lt, n_le, n_eq, k5, v6, hx, h70, Nat.lt_irrefl, Option.bind_some, Nat.reduceEqDiff, Nat.reduceAdd, Nat.reduceMul, ite_true, ite_false, if_true, if_false, eq_self_iff_true, ↓reduceIte, and_self, and_true, true_and, and_false, false_and, not_true_eq_false, not_false_eq_true, if_pos, if_neg]
        · simp (disch := omega) only [f_M_readLaw_2, f_M_errs, jp_c, decide_eq_true_eq, n_lit, n_neg1, n_eq, lw, Nat.reduceEqDiff, Nat.reduceAdd, Nat.reduceMul, ite_true, ite_false, if_true, if_false, eq_self_iff_true, ↓reduceIte, and_self, and_true, true_and, and_false, false_and, not_true_eq_false, not_false_eq_true, if_pos, if_neg]
      · rw [if_neg hw] at lw
        refine Or.inl ⟨(f_R_fails (nI 1) A).2, (f_M_errs (nI 1) B).2, ?_, ?_, ls_fl h.1 _⟩
        · by_cases hk1 : k = 1
          · subst hk1
            have v6 := sy_v h.1.1 (by omega) (by omega)
            have hx : ¬ x ≤ 2 := fun e => hw ⟨rfl, e⟩
            have hx30 := (sy_x h.1.1).1 rfl
            simp (disch := omega) only [f_LR_reads_9, f_LR_line, f_LR_line_22, f_R_fails, jp_c, decide_eq_true_eq, n_lit, n_lt, n_le, n_eq, k5, v6, hx, Nat.lt_irrefl, Option.bind_some, Nat.reduceEqDiff, Nat.reduceAdd, Nat.reduceMul, ite_true, ite_false, if_true, if_false, eq_self_iff_true, ↓reduceIte, and_self, and_true, true_and, and_false, false_and, not_true_eq_false, not_false_eq_true, if_pos, if_neg]
          · have k4 := (sy_k h.1.1).2
            simp (disch := omega) only [f_LR_reads_9, f_LR_line, f_LR_line_22, f_R_fails, jp_c, decide_eq_true_eq, n_lit, n_lt, n_le, n_eq, k5, hk0, hk1, Nat.lt_irrefl, Option.bind_some, Nat.reduceEqDiff, Nat.reduceAdd, Nat.reduceMul, ite_true, ite_false, if_true, if_false, eq_self_iff_true, ↓reduceIte, and_self, and_true, true_and, and_false, false_and, not_true_eq_false, not_false_eq_true, if_pos, if_neg]
        · simp (disch := omega) only [f_M_readLaw_2, f_M_errs, jp_c, decide_eq_true_eq, n_lit, n_neg1, n_eq, lw, k0', Nat.reduceEqDiff, Nat.reduceAdd, Nat.reduceMul, ite_true, ite_false, if_true, if_false, eq_self_iff_true, ↓reduceIte, and_self, and_true, true_and, and_false, false_and, not_true_eq_false, not_false_eq_true, if_pos, if_neg]
  | succ d ih =>
    intro A B p n k x R m mb hR hm hmb h
    obtain ⟨m, rfl⟩ : ∃ k, m = k + 1 := ⟨m - 1, by omega⟩
    obtain ⟨mb, rfl⟩ : ∃ k, mb = k + 1 := ⟨mb - 1, by omega⟩
    have k5 := (sy_k h.1.1).1
    have k4 := (sy_k h.1.1).2
    have lw := m_lw h.1.1
    have k0 := (sy_k0 h.1.1).1
    have hl : ¬ 16 < R.length := by omega
    by_cases hk0 : k = 0
    · subst hk0
      refine Or.inr ⟨A, B, p, n, 0, x, R, ?_, ?_, h, by omega⟩
      · simp (disch := omega) only [f_LR_reads_9, jp_c, decide_eq_true_eq, n_lit, n_lt, n_eq, k5, hl, Nat.reduceEqDiff, Nat.reduceAdd, Nat.reduceMul, ite_true, ite_false, if_true, if_false, eq_self_iff_true, ↓reduceIte, and_self, and_true, true_and, and_false, false_and, not_true_eq_false, not_false_eq_true, if_pos, if_neg]
      · rw [if_neg (by omega)] at lw
        have k0' := k0.2 rfl
        simp (disch := omega) only [f_M_readLaw_2, jp_c, decide_eq_true_eq, n_lit, n_eq, lw, k0', Nat.reduceEqDiff, Nat.reduceAdd, Nat.reduceMul, ite_true, ite_false, if_true, if_false, eq_self_iff_true, ↓reduceIte, and_self, and_true, true_and, and_false, false_and, not_true_eq_false, not_false_eq_true, if_pos, if_neg]
    · have k0' : ¬ B 104 16 = nI 0 := fun e => hk0 (k0.1 e)
      by_cases hw : k = 1 ∧ x ≤ 2
      · obtain ⟨rfl, hx⟩ := hw
        rcases l_line h hx (by omega) _ mb rfl with ⟨A', B', q1, q2, q3⟩ | ⟨A', B', p', n', k', x', E, D, q1, q2, q3⟩
        · refine Or.inl ⟨A', B', ?_, q2, q3⟩
          simp (disch := omega) only [f_LR_reads_9, jp_c, decide_eq_true_eq, n_lit, n_lt, n_eq, k5, hl, q1, Option.bind_some, Nat.reduceEqDiff, Nat.reduceAdd, Nat.reduceMul, ite_true, ite_false, if_true, if_false, eq_self_iff_true, ↓reduceIte, and_self, and_true, true_and, and_false, false_and, not_true_eq_false, not_false_eq_true, if_pos, if_neg]
        · have hlr : ((x, E, D) :: R).length = R.length + 1 := List.length_cons
          have r1 : f_LR_reads_9 (m + 1) (nI R.length) 1000 A = f_LR_reads_9 m (nI ((x, E, D) :: R).length) 1000 A' := by
            rw [hlr]
            simp (disch := omega) only [f_LR_reads_9, jp_c, decide_eq_true_eq, n_lit, n_add, n_lt, n_eq, k5, hl, q1, Option.bind_some, Nat.reduceEqDiff, Nat.reduceAdd, Nat.reduceMul, ite_true, ite_false, if_true, if_false, eq_self_iff_true, ↓reduceIte, and_self, and_true, true_and, and_false, false_and, not_true_eq_false, not_false_eq_true, if_pos, if_neg]
          rw [r1, q2, ← hlr]
          exact ih A' B' p' n' k' x' _ m mb (by rw [hlr]; omega) (by omega) (by omega) q3
      · rw [if_neg hw] at lw
        refine Or.inl ⟨(f_R_fails (nI 1) A).2, (f_M_errs (nI 1) B).2, ?_, ?_, ls_fl h.1 _⟩
        · by_cases hk1 : k = 1
          · subst hk1
            have v6 := sy_v h.1.1 (by omega) (by omega)
            have hx : ¬ x ≤ 2 := fun e => hw ⟨rfl, e⟩
            have hx30 := (sy_x h.1.1).1 rfl
            simp (disch := omega) only [f_LR_reads_9, f_LR_line, f_LR_line_22, f_R_fails, jp_c, decide_eq_true_eq, n_lit, n_lt, n_le, n_eq, k5, v6, hx, hl, Option.bind_some, Nat.reduceEqDiff, Nat.reduceAdd, Nat.reduceMul, ite_true, ite_false, if_true, if_false, eq_self_iff_true, ↓reduceIte, and_self, and_true, true_and, and_false, false_and, not_true_eq_false, not_false_eq_true, if_pos, if_neg]
          · simp (disch := omega) only [f_LR_reads_9, f_LR_line, f_LR_line_22, f_R_fails, jp_c, decide_eq_true_eq, n_lit, n_lt, n_le, n_eq, k5, hk0, hk1, hl, Option.bind_some, Nat.reduceEqDiff, Nat.reduceAdd, Nat.reduceMul, ite_true, ite_false, if_true, if_false, eq_self_iff_true, ↓reduceIte, and_self, and_true, true_and, and_false, false_and, not_true_eq_false, not_false_eq_true, if_pos, if_neg]
        · simp (disch := omega) only [f_M_readLaw_2, f_M_errs, jp_c, decide_eq_true_eq, n_lit, n_neg1, n_eq, lw, k0', Nat.reduceEqDiff, Nat.reduceAdd, Nat.reduceMul, ite_true, ite_false, if_true, if_false, eq_self_iff_true, ↓reduceIte, and_self, and_true, true_and, and_false, false_and, not_true_eq_false, not_false_eq_true, if_pos, if_neg]
end
