theorem rW_cg2 {a p b r g t h e a' p' b' r' g' t' h' e' : Nat → Int32} {pp ss : Int32} (ha : ∀ i, i < 7 → a' i = a i) (hp : ∀ i, i < 50 → p' i = p i) (hb : ∀ i, i < 30 → b' i = b i) (hr : ∀ i, i < 128 → r' i = r i)
    (hg : ∀ i, ¬ i = 2 → i < 184 → g' i = g i) (ht : ∀ i, i < 10 → t' i = t i) (hh : ∀ i, i < 10 → h' i = h i) (he : ∀ i, i < 10 → e' i = e i) (hw : rW a p b r g t h e pp ss) : rW a' p' b' r' g' t' h' e' pp ss := by
  have h1 : rW a p b r (fun i => if i = 2 then g' 2 else g i) t h e pp ss := by
    obtain ⟨⟨⟨e0, e1, e2, e3, e4, e5, e6⟩, eP, eB, eR⟩, nW⟩ := hw
    refine ⟨⟨⟨e0, e1, e2, e3, e4, e5, e6⟩, fun i hi => ?_, fun i hi => ?_, fun i hi => ?_⟩, nW⟩
    · simp (disch := omega) only [if_neg]; exact eP i hi
    · simp (disch := omega) only [if_neg]; exact eB i hi
    · simp (disch := omega) only [if_neg]; exact eR i hi
  refine rW_cg ha hp hb hr (fun i hi => ?_) ht hh he h1
  by_cases h : i = 2
  · subst h; rw [if_pos rfl]
  · rw [if_neg h, hg i h hi]
/-- the class and the reference while days go by; t is 1 in thought -/
def HH (t : Nat) (A B : jp_M) : Prop := rWW A B ∧ rLL A B ∧ (A 54 3 = nI t ∧ B 104 5 = nI t) ∧ (∃ L, L ≤ 150 ∧ A 2 7 = nI L) ∧ (t = 0 → rBook (A 2 7) (B 105 2) (A 6) (B 111)) ∧ rLease (A 1 5) (B 104 37) (A 16) (B 123) ∧ rPet (A 2 4) (A 14 0) (B 104 35) (A 15) (B 122)
def fA : List Nat := [2, 3, 4, 5, 6, 12, 13, 55]
def fB : List Nat := [105, 111, 125, 126]
/-- a step from A, B to A', B' -/
def SS (t : Nat) (A B A' B' : jp_M) : Prop := (∀ q, q ∉ fA → A' q = A q) ∧ (∀ q, q ∉ fB → B' q = B q) ∧ HH t A' B' ∧ (∃ L L', L ≤ L' ∧ L' ≤ 150 ∧ A 2 7 = nI L ∧ A' 2 7 = nI L' ∧ ∀ j, j < 4 * L → A' 6 j = A 6 j) ∧ (t = 1 → B' 111 = B 111)
theorem SS_refl {t : Nat} {A B : jp_M} (h : HH t A B) : SS t A B A B := by
  obtain ⟨L, hL, e⟩ := h.2.2.2.1
  exact ⟨fun _ _ => rfl, fun _ _ => rfl, h, ⟨L, L, Nat.le_refl _, hL, e, e, fun _ _ => rfl⟩, fun _ => rfl⟩
theorem SS_trans {t : Nat} {A B A1 B1 A2 B2 : jp_M} (h1 : SS t A B A1 B1) (h2 : SS t A1 B1 A2 B2) : SS t A B A2 B2 := by
  obtain ⟨a1, a2, a3, ⟨L, L', l1, l2, l3, l4, l5⟩, a5⟩ := h1
  obtain ⟨b1, b2, b3, ⟨K, K', k1, k2, k3, k4, k5⟩, b5⟩ := h2
  have hK : L' = K := by rw [l4, n_eq (by omega) (by omega)] at k3; exact k3
  subst hK
  refine ⟨fun q hq => by rw [b1 q hq, a1 q hq], fun q hq => by rw [b2 q hq, a2 q hq], b3, ⟨L, K', by omega, k2, l3, k4, fun j hj => by rw [k5 j (by omega), l5 j hj]⟩, fun h => by rw [b5 h, a5 h]⟩
/-- what has not to do with the world and the book -/
theorem HH_mk {t : Nat} {A B A' B' : jp_M} (h : HH t A B) (fa : ∀ q, q ∉ fA → A' q = A q) (fb : ∀ q, q ∉ fB → B' q = B q) (hW : rWW A' B') (hL : ∃ L, L ≤ 150 ∧ A' 2 7 = nI L) (hb : t = 0 → rBook (A' 2 7) (B' 105 2) (A' 6) (B' 111)) : HH t A' B' := by
  obtain ⟨h1, h2, h3, h4, h5, h6, h7⟩ := h
  refine ⟨hW, ?_, ?_, hL, hb, ?_, ?_⟩
  · unfold rLL
    simp (disch := decide) only [fa, fb]; exact h2
  · simp (disch := decide) only [fa, fb]; exact h3
  · simp (disch := decide) only [fa, fb]; exact h6
  · have q1 := hW.1.1.2.2.2.2.1
    have q2 := h1.1.1.2.2.2.2.1
    rw [q1]
    simp (disch := decide) only [fa, fb]
    rw [← q2]; exact h7
/-- a step that leaves the book -/
theorem SS_w {t : Nat} {A B A' B' : jp_M} (h : HH t A B) (fa : ∀ q, q ∉ fA → A' q = A q) (fb : ∀ q, q ∉ fB → B' q = B q) (hW : rWW A' B') (b1 : A' 2 7 = A 2 7) (b2 : A' 6 = A 6) (b3 : B' 105 2 = B 105 2) (b4 : B' 111 = B 111) : SS t A B A' B' := by
  obtain ⟨L, hL, e⟩ := h.2.2.2.1
  refine ⟨fa, fb, HH_mk h fa fb hW ⟨L, hL, by rw [b1, e]⟩ (fun ht => ?_), ⟨L, L, Nat.le_refl _, hL, e, by rw [b1, e], fun j _ => by rw [b2]⟩, fun _ => b4⟩
  rw [b1, b2, b3, b4]; exact h.2.2.2.2.1 ht
/-- a line in the book -/
theorem p_note {t : Nat} (ht : t < 2) {A B : jp_M} (h : HH t A B) (w x m : Int32) : ∃ A' B', f_A_writes w x m A = some A' ∧ f_M_notes w x m B = some B' ∧ SS t A B A' B' ∧ (∀ q, ¬ q = 2 → ¬ q = 6 → A' q = A q) ∧ (∀ i, ¬ i = 7 → A' 2 i = A 2 i) ∧ (∀ q, ¬ q = 105 → ¬ q = 111 → B' q = B q) ∧ (∀ i, ¬ i = 2 → B' 105 i = B 105 i) := by
  have h' := h
  obtain ⟨hW, hL, hT, ⟨L, hL0, l1⟩, hbk, -⟩ := h
  have day := hW.1.1.2.1
  -- the class
  have cC : ∃ A', f_A_writes w x m A = some A' ∧ (∀ q, ¬ q = 2 → ¬ q = 6 → A' q = A q) ∧ (∀ i, ¬ i = 7 → A' 2 i = A 2 i) ∧ A' 2 7 = nI (min 150 (L + 1)) ∧ (∀ j, j < 4 * L → A' 6 j = A 6 j) ∧ (L < 150 → A' 6 (4 * L) = A 2 1 ∧ A' 6 (4 * L + 1) = w ∧ A' 6 (4 * L + 2) = x ∧ A' 6 (4 * L + 3) = m) := by
    by_cases hl : L < 150
    · refine ⟨jp_set (jp_set A 6 (upd (upd (upd (upd (A 6) (4 * L) (A 2 1)) (4 * L + 1) w) (4 * L + 2) x) (4 * L + 3) m)) 2 (upd (A 2) 7 (nI (L + 1))), ?_, ?_, ?_, ?_, ?_, ?_⟩
      · simp (disch := omega) only [f_A_writes, jp_c, decide_eq_true_eq, n_lit, n_neg1, n_add, n_mul, n_sub, n_div, n_mod, n_le, n_lt, n_eq, n_cl, n_in, Nat.reduceEqDiff, Nat.reduceAdd, Nat.reduceMul, ite_true, ite_false, if_true, if_false, eq_self_iff_true, ↓reduceIte, and_self, and_true, true_and, and_false, false_and, not_true_eq_false, not_false_eq_true, if_pos, if_neg, l1, hl, jg_t, st_st, st_ap]
      · intro q g1 g2; rw [st_ne g1, st_ne g2]
      · intro i hi; rw [st_same, ud_ne hi]
      · rw [st_same, ud_eq rfl]; congr 1; omega
      · intro j hj; rw [st_ne (by decide), st_same, ud_ne (by omega), ud_ne (by omega), ud_ne (by omega), ud_ne (by omega)]
      · intro _
        rw [st_ne (by decide), st_same]
        refine ⟨?_, ?_, ?_, ?_⟩ <;> simp (disch := omega) only [ud_ne, ud_eq]
    · refine ⟨A, ?_, fun _ _ _ => rfl, fun _ _ => rfl, ?_, fun _ _ => rfl, fun g => absurd g hl⟩
      · simp (disch := omega) only [f_A_writes, jp_c, decide_eq_true_eq, n_lit, n_neg1, n_add, n_mul, n_sub, n_div, n_mod, n_le, n_lt, n_eq, n_cl, n_in, Nat.reduceEqDiff, Nat.reduceAdd, Nat.reduceMul, ite_true, ite_false, if_true, if_false, eq_self_iff_true, ↓reduceIte, and_self, and_true, true_and, and_false, false_and, not_true_eq_false, not_false_eq_true, if_pos, if_neg, l1, hl]
      · rw [l1]; congr 1; omega
  obtain ⟨A', c1, c2, c3, c4, c5, c6⟩ := cC
  have ht' : t = 0 ∨ t = 1 := by omega
  rcases ht' with rfl | rfl
  · obtain ⟨L', k1, k2, k3, k4⟩ := hbk rfl
    have : L' = L := by rw [l1, n_eq (by omega) (by omega)] at k2; exact k2.symm
    subst this
    have cM : ∃ B', f_M_notes w x m B = some B' ∧ (∀ q, ¬ q = 105 → ¬ q = 111 → B' q = B q) ∧ (∀ i, ¬ i = 2 → B' 105 i = B 105 i) ∧ B' 105 2 = nI (min 150 (L' + 1)) ∧ (∀ j, j < 4 * L' → B' 111 j = B 111 j) ∧ (L' < 150 → B' 111 (4 * L') = B 105 0 ∧ B' 111 (4 * L' + 1) = w ∧ B' 111 (4 * L' + 2) = x ∧ B' 111 (4 * L' + 3) = m) := by
      by_cases hl : L' < 150
      · have hl' : ¬ L' = 150 := by omega
        refine ⟨jp_set (jp_set B 111 (upd (upd (upd (upd (B 111) (4 * L') (B 105 0)) (4 * L' + 1) w) (4 * L' + 2) x) (4 * L' + 3) m)) 105 (upd (B 105) 2 (nI (L' + 1))), ?_, ?_, ?_, ?_, ?_, ?_⟩
        · simp (disch := omega) only [f_M_notes, jp_c, decide_eq_true_eq, n_lit, n_neg1, n_add, n_mul, n_sub, n_div, n_mod, n_le, n_lt, n_eq, n_cl, n_in, Nat.reduceEqDiff, Nat.reduceAdd, Nat.reduceMul, ite_true, ite_false, if_true, if_false, eq_self_iff_true, ↓reduceIte, and_self, and_true, true_and, and_false, false_and, not_true_eq_false, not_false_eq_true, if_pos, if_neg, hT.2, k3, hl', jg_t, st_st, st_ap]
        · intro q g1 g2; rw [st_ne g1, st_ne g2]
        · intro i hi; rw [st_same, ud_ne hi]
        · rw [st_same, ud_eq rfl]; congr 1; omega
        · intro j hj; rw [st_ne (by decide), st_same, ud_ne (by omega), ud_ne (by omega), ud_ne (by omega), ud_ne (by omega)]
        · intro _
          rw [st_ne (by decide), st_same]
          refine ⟨?_, ?_, ?_, ?_⟩ <;> simp (disch := omega) only [ud_ne, ud_eq]
      · have hl' : L' = 150 := by omega
        refine ⟨B, ?_, fun _ _ _ => rfl, fun _ _ => rfl, ?_, fun _ _ => rfl, fun g => absurd g hl⟩
        · simp (disch := omega) only [f_M_notes, jp_c, decide_eq_true_eq, n_lit, n_neg1, n_add, n_mul, n_sub, n_div, n_mod, n_le, n_lt, n_eq, n_cl, n_in, Nat.reduceEqDiff, Nat.reduceAdd, Nat.reduceMul, ite_true, ite_false, if_true, if_false, eq_self_iff_true, ↓reduceIte, and_self, and_true, true_and, and_false, false_and, not_true_eq_false, not_false_eq_true, if_pos, if_neg, hT.2, k3, hl']
        · rw [k3]; congr 1; omega
    obtain ⟨B', d1, d2, d3, d4, d5, d6⟩ := cM
    have fa : ∀ q, q ∉ fA → A' q = A q := fun q hq => c2 q (by rintro rfl; exact hq (by decide)) (by rintro rfl; exact hq (by decide))
    have fb : ∀ q, q ∉ fB → B' q = B q := fun q hq => d2 q (by rintro rfl; exact hq (by decide)) (by rintro rfl; exact hq (by decide))
    have hW' : rWW A' B' := by
      unfold rWW
      rw [c2 3 (by decide) (by decide), c2 4 (by decide) (by decide), c2 5 (by decide) (by decide), d2 104 (by decide) (by decide), d2 108 (by decide) (by decide), d2 109 (by decide) (by decide), d2 110 (by decide) (by decide)]
      exact rW_cg2 (fun i hi => c3 i (by omega)) (fun _ _ => rfl) (fun _ _ => rfl) (fun _ _ => rfl) (fun i hi _ => d3 i hi) (fun _ _ => rfl) (fun _ _ => rfl) (fun _ _ => rfl) hW
    have hbook : rBook (A' 2 7) (B' 105 2) (A' 6) (B' 111) := by
      refine ⟨min 150 (L' + 1), by omega, c4, d4, fun j hj => ?_⟩
      by_cases hj' : j < 4 * L'
      · rw [c5 j hj', d5 j hj', k4 j hj']
      · have hl : L' < 150 := by omega
        obtain ⟨x0, x1, x2, x3⟩ := c6 hl
        obtain ⟨y0, y1, y2, y3⟩ := d6 hl
        have : j = 4 * L' ∨ j = 4 * L' + 1 ∨ j = 4 * L' + 2 ∨ j = 4 * L' + 3 := by omega
        rcases this with rfl | rfl | rfl | rfl
        · rw [x0, y0, day]
        · rw [x1, y1]
        · rw [x2, y2]
        · rw [x3, y3]
    exact ⟨A', B', c1, d1, ⟨fa, fb, HH_mk h' fa fb hW' ⟨_, by omega, c4⟩ (fun _ => hbook), ⟨L', _, by omega, by omega, l1, c4, c5⟩, fun h => by omega⟩, c2, c3, d2, d3⟩
  · have d1 : f_M_notes w x m B = some B := by
      simp (disch := omega) only [f_M_notes, jp_c, decide_eq_true_eq, n_lit, n_neg1, n_add, n_mul, n_sub, n_div, n_mod, n_le, n_lt, n_eq, n_cl, n_in, Nat.reduceEqDiff, Nat.reduceAdd, Nat.reduceMul, ite_true, ite_false, if_true, if_false, eq_self_iff_true, ↓reduceIte, and_self, and_true, true_and, and_false, false_and, not_true_eq_false, not_false_eq_true, if_pos, if_neg, hT.2]
    have fa : ∀ q, q ∉ fA → A' q = A q := fun q hq => c2 q (by rintro rfl; exact hq (by decide)) (by rintro rfl; exact hq (by decide))
    have hW' : rWW A' B := by
      unfold rWW
      rw [c2 3 (by decide) (by decide), c2 4 (by decide) (by decide), c2 5 (by decide) (by decide)]
      exact rW_cg2 (fun i hi => c3 i (by omega)) (fun _ _ => rfl) (fun _ _ => rfl) (fun _ _ => rfl) (fun i hi _ => rfl) (fun _ _ => rfl) (fun _ _ => rfl) (fun _ _ => rfl) hW
    exact ⟨A', B, c1, d1, ⟨fa, fun _ _ => rfl, HH_mk h' fa (fun _ _ => rfl) hW' ⟨_, by omega, c4⟩ (fun h => by omega), ⟨L, _, by omega, by omega, l1, c4, c5⟩, fun _ => rfl⟩, c2, c3, fun _ _ _ => rfl, fun _ _ => rfl⟩
/-- somebody pays -/
theorem p_pay {t : Nat} {A B : jp_M} (h : HH t A B) {x : Nat} (hx : x < 10) (v : Int32) : ∃ n A' B', f_W_pays (nI x) v A = some (n, A') ∧ f_M_pays (nI x) v B = some (n, B') ∧ SS t A B A' B' ∧ (∀ q, ¬ q = 2 → ¬ q = 3 → A' q = A q) ∧ (∀ q, ¬ q = 105 → B' q = B q) ∧ (∀ i, ¬ i = 2 → A' 2 i = A 2 i) ∧ (∀ i, ¬ i = 5 * x + 1 → A' 3 i = A 3 i) ∧ (∀ i, ¬ i = 3 → ¬ i = 6 + x → B' 105 i = B 105 i) := by
  have h' := h
  obtain ⟨hW, -⟩ := h
  obtain ⟨⟨⟨e0, e1, e2, e3, e4, e5, e6⟩, eP, eB, eR⟩, nW⟩ := hW
  obtain ⟨P, S, U, hP, hS, hU, f4, f5, f6, nP, nB, nR⟩ := nW
  have ex := (eP x hx).2.1
  generalize hn : jp_min v (B 105 (6 + x)) = n
  have c1 : f_W_pays (nI x) v A = some (n, jp_set (jp_set A 3 (upd (A 3) (5 * x + 1) (B 105 (6 + x) - n))) 2 (upd (A 2) 2 (A 2 2 + n))) := by
    simp (disch := omega) only [f_W_pays, n_lit, n_neg1, n_add, n_mul, n_sub, n_div, n_mod, n_le, n_lt, n_eq, n_cl, n_in, Nat.reduceEqDiff, Nat.reduceAdd, Nat.reduceMul, ite_true, ite_false, if_true, if_false, eq_self_iff_true, ↓reduceIte, and_self, and_true, true_and, and_false, false_and, not_true_eq_false, not_false_eq_true, if_pos, if_neg, jg_t, ex, hn, st_ap]
  have c2 : f_M_pays (nI x) v B = some (n, jp_set B 105 (upd (upd (B 105) (6 + x) (B 105 (6 + x) - n)) 3 (B 105 3 + n))) := by
    have : ¬ 3 = 6 + x := by omega
    simp (disch := omega) only [f_M_pays, n_lit, n_neg1, n_add, n_mul, n_sub, n_div, n_mod, n_le, n_lt, n_eq, n_cl, n_in, Nat.reduceEqDiff, Nat.reduceAdd, Nat.reduceMul, ite_true, ite_false, if_true, if_false, eq_self_iff_true, ↓reduceIte, and_self, and_true, true_and, and_false, false_and, not_true_eq_false, not_false_eq_true, if_pos, if_neg, jg_t, n_ls, hn, st_st, st_ap, ud_ap, this]
  refine ⟨n, _, _, c1, c2, ?_, ?_, ?_, ?_, ?_, ?_⟩
  · refine SS_w h' ?_ ?_ ?_ ?_ ?_ ?_ ?_
    · intro q hq
      rw [st_ne (by rintro rfl; exact hq (by decide)), st_ne (by rintro rfl; exact hq (by decide))]
    · intro q hq
      rw [st_ne (by rintro rfl; exact hq (by decide))]
    · unfold rWW
      simp only [st_ap, Nat.reduceEqDiff, Nat.reduceAdd, Nat.reduceMul, ite_true, ite_false, if_true, if_false, eq_self_iff_true, ↓reduceIte, and_self, and_true, true_and, and_false, false_and, not_true_eq_false, not_false_eq_true, if_pos, if_neg]
      refine ⟨⟨⟨?_, ?_, ?_, ?_, ?_, ?_, ?_⟩, fun i hi => ?_, fun i hi => ?_, fun i hi => ?_⟩, ?_⟩
      all_goals try simp (disch := omega) only [ud_ne, ud_eq]
      all_goals first | assumption | skip
      · rw [e2]
      · by_cases hi' : i = x
        · subst hi'
          simp (disch := omega) only [ud_ne, ud_eq]
          exact ⟨(eP i hi).1, trivial, (eP i hi).2.2⟩
        · simp (disch := omega) only [ud_ne]
          exact eP i hi
      · exact eB i hi
      · exact eR i hi
      · refine ⟨P, S, U, hP, hS, hU, ?_, ?_, ?_, fun i hi => ?_, nB, nR⟩
        · simp (disch := omega) only [ud_ne]; exact f4
        · simp (disch := omega) only [ud_ne]; exact f5
        · simp (disch := omega) only [ud_ne]; exact f6
        · simp (disch := omega) only [ud_ne]; exact nP i hi
    · simp only [st_ap, ud_ap, Nat.reduceEqDiff, Nat.reduceAdd, Nat.reduceMul, ite_true, ite_false, if_true, if_false, eq_self_iff_true, ↓reduceIte, and_self, and_true, true_and, and_false, false_and, not_true_eq_false, not_false_eq_true, if_pos, if_neg]
    · simp only [st_ap, Nat.reduceEqDiff, Nat.reduceAdd, Nat.reduceMul, ite_true, ite_false, if_true, if_false, eq_self_iff_true, ↓reduceIte, and_self, and_true, true_and, and_false, false_and, not_true_eq_false, not_false_eq_true, if_pos, if_neg]
    · rw [st_same, ud_ne (by decide), ud_ne (by omega)]
    · rw [st_ne (by decide)]
  · intro q g1 g2; rw [st_ne g1, st_ne g2]
  · intro q g1; rw [st_ne g1]
  · intro i hi; rw [st_same, ud_ne hi]
  · intro i hi; rw [st_ne (by decide), st_same, ud_ne hi]
  · intro i g1 g2; rw [st_same, ud_ne g1, ud_ne g2]
/-- a draw -/
theorem p_draw {t : Nat} {A B : jp_M} (h : HH t A B) : ∃ n A' B', f_W_drawsOfThousand A = (n, A') ∧ f_M_draw (nI 1000) B = some (n, B') ∧ SS t A B A' B' ∧ (∀ q, ¬ q = 2 → A' q = A q) ∧ (∀ q, ¬ q = 105 → B' q = B q) ∧ (∀ i, ¬ i = 0 → A' 2 i = A 2 i) := by
  have h' := h
  obtain ⟨hW, -⟩ := h
  obtain ⟨⟨⟨e0, e1, e2, e3, e4, e5, e6⟩, eP, eB, eR⟩, nW⟩ := hW
  obtain ⟨P, S, U, hP, hS, hU, f4, f5, f6, nP, nB, nR⟩ := nW
  generalize hn : (1664525 : Int32) * A 2 0 + (1013904223 : Int32) = s
  have hn' : (1664525 : Int32) * B 105 1 + (1013904223 : Int32) = s := by rw [← e0, hn]
  have c1 : f_W_drawsOfThousand A = (jp_ushr s 8 % 1000, jp_set A 2 (upd (A 2) 0 s)) := by
    unfold f_W_drawsOfThousand
    rw [hn]
    rfl
  have c0 : ∀ m : Int32, ¬ m = 0 → f_M_draw m B = some (jp_ushr s 8 % m, jp_set B 105 (upd (B 105) 1 s)) := by
    intro m hm
    unfold f_M_draw
    rw [hn', jg_t hm]
    rfl
  have k0 : ¬ nI 1000 = 0 := by
    intro k
    have k1 : nI 1000 = nI 0 := k
    rw [n_eq (by omega) (by omega)] at k1
    omega
  have c2 := c0 (nI 1000) k0
  have k2 : (1000 : Int32) = nI 1000 := n_lit 1000
  rw [k2] at c1
  refine ⟨_, _, _, c1, c2, ?_, fun q hq => st_ne hq, fun q hq => st_ne hq, fun i hi => by rw [st_same, ud_ne hi]⟩
  clear hn hn' c0 c1 c2 k2 k0
  refine SS_w h' ?_ ?_ ?_ ?_ ?_ ?_ ?_
  · intro q hq
    rw [st_ne (by rintro rfl; exact hq (by decide))]
  · intro q hq
    rw [st_ne (by rintro rfl; exact hq (by decide))]
  · unfold rWW
    simp only [st_ap, Nat.reduceEqDiff, Nat.reduceAdd, Nat.reduceMul, ite_true, ite_false, if_true, if_false, eq_self_iff_true, ↓reduceIte, and_self, and_true, true_and, and_false, false_and, not_true_eq_false, not_false_eq_true, if_pos, if_neg]
    refine ⟨⟨⟨?_, ?_, ?_, ?_, ?_, ?_, ?_⟩, fun i hi => ?_, fun i hi => ?_, fun i hi => ?_⟩, ?_⟩
    all_goals try simp (disch := omega) only [ud_ne, ud_eq]
    all_goals first | assumption | skip
    · exact eP i hi
    · exact eB i hi
    · exact eR i hi
    · exact ⟨P, S, U, hP, hS, hU, by simp (disch := omega) only [ud_ne, f4], by simp (disch := omega) only [ud_ne, f5], by simp (disch := omega) only [ud_ne, f6], nP, nB, nR⟩
  · rw [st_same, ud_ne (by decide)]
  · rw [st_ne (by decide)]
  · rw [st_same, ud_ne (by decide)]
  · rw [st_ne (by decide)]
