theorem n_m0s {r k : Nat} (hr : r < 2147483648) (hk : k < 2147483648) : jp_max (nI 0) (nI r - nI k) = nI (r - k) := by
  by_cases h : k ≤ r
  · rw [n_sub h, n_max (by omega) (by omega), show max 0 (r - k) = r - k by omega]
  · obtain ⟨j, rfl⟩ : ∃ j, k = r + j := ⟨k - r, by omega⟩
    rw [n_sadd]
    unfold jp_max
    rw [if_neg]
    · congr 1; omega
    · intro h1
      exact n_ngn (k := j) (by omega) (by omega) (Int32.le_of_lt h1)
theorem n_s1 {s b : Nat} (hs : s < 4294967296) (hb : b < 4294967295) : nI s - nI 1 = nI b ↔ s = b + 1 := by
  constructor
  · intro h
    have : nI s = nI (b + 1) := by
      rw [← n_add, ← h, Int32.sub_eq_add_neg, Int32.add_assoc, Int32.add_left_neg, Int32.add_zero]
    rwa [n_eq hs (by omega)] at this
  · rintro rfl
    rw [n_sub (by omega)]; congr 1
/-- the leases that a swallow has -/
theorem s_A {A : jp_M} {s : Nat → Nat} {b hi : Nat} (hb : b < 10) (hh : hi < 10) (hl : ∀ r, r < 10 → s r ≤ 10 ∧ A 16 r = nI (s r) - nI 1) : ∀ d l, l + d = hi + 1 → ∀ n, d < n → ∃ v : Bool, f_A_sees_59 n (nI b) (nI hi) (nI l) A = some (if v then nI 1 else nI 0) ∧ (v = true ↔ ∃ j, l ≤ j ∧ j ≤ hi ∧ s j = b + 1) := by
  intro d
  induction d with
  | zero =>
    intro l hl' n hn
    obtain ⟨n, rfl⟩ : ∃ k, n = k + 1 := ⟨n - 1, by omega⟩
    refine ⟨false, ?_, ?_⟩
    · simp (disch := omega) only [f_A_sees_59, jp_c, decide_eq_true_eq, n_lit, n_neg1, n_add, n_mul, n_sub, n_div, n_mod, n_le, n_lt, n_eq, n_cl, n_in, Nat.reduceEqDiff, Nat.reduceAdd, Nat.reduceMul, ite_true, ite_false, if_true, if_false, eq_self_iff_true, ↓reduceIte, and_self, and_true, true_and, and_false, false_and, not_true_eq_false, not_false_eq_true, if_pos, if_neg, Bool.false_eq_true]
    · constructor
      · intro h; exact absurd h (by decide)
      · rintro ⟨j, h1, h2, -⟩; omega
  | succ d ih =>
    intro l hl' n hn
    obtain ⟨n, rfl⟩ : ∃ k, n = k + 1 := ⟨n - 1, by omega⟩
    obtain ⟨v, e1, e2⟩ := ih (l + 1) (by omega) n (by omega)
    obtain ⟨q1, q2⟩ := hl l (by omega)
    by_cases h : s l = b + 1
    · refine ⟨true, ?_, ?_⟩
      · have : nI (s l) - nI 1 = nI b := (n_s1 (by omega) (by omega)).2 h
        simp (disch := omega) only [f_A_sees_59, jp_c, decide_eq_true_eq, n_lit, n_in, n_lt, n_cl, Nat.reduceEqDiff, Nat.reduceAdd, Nat.reduceMul, ite_true, ite_false, if_true, if_false, eq_self_iff_true, ↓reduceIte, and_self, and_true, true_and, and_false, false_and, not_true_eq_false, not_false_eq_true, if_pos, if_neg, jg_t, q2, this]
      · exact ⟨fun _ => ⟨l, by omega, by omega, h⟩, fun _ => rfl⟩
    · refine ⟨v, ?_, ?_⟩
      · have : ¬ nI (s l) - nI 1 = nI b := fun h' => h ((n_s1 (by omega) (by omega)).1 h')
        simp (disch := omega) only [f_A_sees_59, jp_c, decide_eq_true_eq, n_lit, n_add, n_in, n_lt, n_cl, Nat.reduceEqDiff, Nat.reduceAdd, Nat.reduceMul, ite_true, ite_false, if_true, if_false, eq_self_iff_true, ↓reduceIte, and_self, and_true, true_and, and_false, false_and, not_true_eq_false, not_false_eq_true, if_pos, if_neg, jg_t, q2, this]
        exact e1
      · rw [e2]
        constructor
        · rintro ⟨j, h1, h2, h3⟩; exact ⟨j, by omega, h2, h3⟩
        · rintro ⟨j, h1, h2, h3⟩
          refine ⟨j, ?_, h2, h3⟩
          by_cases hj : j = l
          · subst hj; exact absurd h3 h
          · omega
theorem s_M {B : jp_M} {s : Nat → Nat} {b r k : Nat} (hb : b < 10) (hr : r < 10) (hk : k < 10) (hl : ∀ r, r < 10 → s r ≤ 10 ∧ B 123 r = nI (s r)) : ∀ d l, l + d = 10 → ∀ n, d < n → ∃ v : Bool, f_M_sees_32 n (nI b) (nI r) (nI k) (nI l) B = some (if v then nI 1 else nI 0) ∧ (v = true ↔ ∃ j, l ≤ j ∧ j < 10 ∧ j - r + (r - j) ≤ k ∧ s j = b + 1) := by
  intro d
  induction d with
  | zero =>
    intro l hl' n hn
    obtain ⟨n, rfl⟩ : ∃ k, n = k + 1 := ⟨n - 1, by omega⟩
    refine ⟨false, ?_, ?_⟩
    · simp (disch := omega) only [f_M_sees_32, jp_c, decide_eq_true_eq, n_lit, n_neg1, n_add, n_mul, n_sub, n_div, n_mod, n_le, n_lt, n_eq, n_cl, n_in, Nat.reduceEqDiff, Nat.reduceAdd, Nat.reduceMul, ite_true, ite_false, if_true, if_false, eq_self_iff_true, ↓reduceIte, and_self, and_true, true_and, and_false, false_and, not_true_eq_false, not_false_eq_true, if_pos, if_neg, Bool.false_eq_true]
    · constructor
      · intro h; exact absurd h (by decide)
      · rintro ⟨j, h1, h2, -⟩; omega
  | succ d ih =>
    intro l hl' n hn
    obtain ⟨n, rfl⟩ : ∃ k, n = k + 1 := ⟨n - 1, by omega⟩
    obtain ⟨v, e1, e2⟩ := ih (l + 1) (by omega) n (by omega)
    obtain ⟨q1, q2⟩ := hl l (by omega)
    by_cases h : s l = b + 1
    · by_cases h' : k < l - r + (r - l)
      · refine ⟨v, ?_, ?_⟩
        · simp (disch := omega) only [f_M_sees_32, f_M_sees_65, jp_c, decide_eq_true_eq, n_lit, n_neg1, n_add, n_mul, n_sub, n_div, n_mod, n_le, n_lt, n_eq, n_cl, n_in, n_apt, Nat.reduceEqDiff, Nat.reduceAdd, Nat.reduceMul, ite_true, ite_false, if_true, if_false, eq_self_iff_true, ↓reduceIte, and_self, and_true, true_and, and_false, false_and, not_true_eq_false, not_false_eq_true, if_pos, if_neg, jg_t, q2, h, h']
          exact e1
        · rw [e2]
          constructor
          · rintro ⟨j, h1, h2, h3⟩; exact ⟨j, by omega, h2, h3⟩
          · rintro ⟨j, h1, h2, h3, h4⟩
            refine ⟨j, ?_, h2, h3, h4⟩
            by_cases hj : j = l
            · subst hj; omega
            · omega
      · refine ⟨true, ?_, ?_⟩
        · simp (disch := omega) only [f_M_sees_32, f_M_sees_65, jp_c, decide_eq_true_eq, n_lit, n_neg1, n_add, n_mul, n_sub, n_div, n_mod, n_le, n_lt, n_eq, n_cl, n_in, n_apt, Nat.reduceEqDiff, Nat.reduceAdd, Nat.reduceMul, ite_true, ite_false, if_true, if_false, eq_self_iff_true, ↓reduceIte, and_self, and_true, true_and, and_false, false_and, not_true_eq_false, not_false_eq_true, if_pos, if_neg, jg_t, q2, h, h']
        · exact ⟨fun _ => ⟨l, by omega, by omega, by omega, h⟩, fun _ => rfl⟩
    · refine ⟨v, ?_, ?_⟩
      · simp (disch := omega) only [f_M_sees_32, f_M_sees_65, jp_c, decide_eq_true_eq, n_lit, n_neg1, n_add, n_mul, n_sub, n_div, n_mod, n_le, n_lt, n_eq, n_cl, n_in, n_apt, Nat.reduceEqDiff, Nat.reduceAdd, Nat.reduceMul, ite_true, ite_false, if_true, if_false, eq_self_iff_true, ↓reduceIte, and_self, and_true, true_and, and_false, false_and, not_true_eq_false, not_false_eq_true, if_pos, if_neg, jg_t, q2, h]
        exact e1
      · rw [e2]
        constructor
        · rintro ⟨j, h1, h2, h3⟩; exact ⟨j, by omega, h2, h3⟩
        · rintro ⟨j, h1, h2, h3, h4⟩
          refine ⟨j, ?_, h2, h3, h4⟩
          by_cases hj : j = l
          · subst hj; exact absurd h4 h
          · omega
theorem p_sees {A B : jp_M} {b r : Nat} (hb : b < 10) (hr : r < 10) (hB : ∀ i, i < 10 → ∃ x y, x ≤ 9 ∧ y ≤ 9 ∧ A 4 (3 * i) = nI x ∧ A 4 (3 * i + 1) = nI y ∧ B 105 (46 + i) = nI x ∧ B 110 i = nI y)
    (hl : ∀ r, r < 10 → ∃ s, s ≤ 10 ∧ B 123 r = nI s ∧ A 16 r = nI s - nI 1) : ∃ v : Bool, f_A_sees (nI b) (nI r) A = some (if v then nI 1 else nI 0) ∧ f_M_sees (nI b) (nI r) B = some (if v then nI 1 else nI 0) := by
  obtain ⟨x, y, hx, hy, x1, y1, x2, y2⟩ := hB b hb
  have hs : ∃ s : Nat → Nat, ∀ r, r < 10 → s r ≤ 10 ∧ B 123 r = nI (s r) ∧ A 16 r = nI (s r) - nI 1 := by
    refine ⟨fun r => if h : r < 10 then (hl r h).choose else 0, fun r h => ?_⟩
    simp only [h, dif_pos]
    exact (hl r h).choose_spec
  obtain ⟨s, hs⟩ := hs
  by_cases h : y / 3 < x - r + (r - x)
  · obtain ⟨v, e1, e2⟩ := s_A (A := A) (s := s) (b := b) (hi := min 9 (r + y / 3)) hb (by omega) (fun r h => ⟨(hs r h).1, (hs r h).2.2⟩) (min 9 (r + y / 3) + 1 - (r - y / 3)) (r - y / 3) (by omega) jFu (jFu_lt (by omega))
    obtain ⟨w, d1, d2⟩ := s_M (B := B) (s := s) (b := b) (r := r) (k := y / 3) hb hr (by omega) (fun r h => ⟨(hs r h).1, (hs r h).2.1⟩) 10 0 (by omega) jFu (jFu_lt (by omega))
    have hvw : v = w := by
      rw [Bool.eq_iff_iff, e2, d2]
      constructor
      · rintro ⟨j, h1, h2, h3⟩; exact ⟨j, by omega, by omega, by omega, h3⟩
      · rintro ⟨j, h1, h2, h3, h4⟩; exact ⟨j, by omega, by omega, h4⟩
    subst hvw
    clear e2 d2
    refine ⟨v, ?_, ?_⟩
    · simp (disch := omega) only [f_A_sees, jp_c, decide_eq_true_eq, n_lit, n_add, n_mul, n_div, n_in, n_cl, n_lt, n_ab, n_min, n_m0s, Nat.reduceEqDiff, Nat.reduceAdd, Nat.reduceMul, ite_true, ite_false, if_true, if_false, eq_self_iff_true, ↓reduceIte, and_self, and_true, true_and, and_false, false_and, not_true_eq_false, not_false_eq_true, if_pos, if_neg, Nat.add_zero, jg_t, x1, y1]
      exact e1
    · simp (disch := omega) only [f_M_sees, jp_c, decide_eq_true_eq, n_lit, n_neg1, n_add, n_mul, n_sub, n_div, n_mod, n_le, n_lt, n_eq, n_cl, n_in, n_apt, Nat.reduceEqDiff, Nat.reduceAdd, Nat.reduceMul, ite_true, ite_false, if_true, if_false, eq_self_iff_true, ↓reduceIte, and_self, and_true, true_and, and_false, false_and, not_true_eq_false, not_false_eq_true, if_pos, if_neg, Nat.add_zero, jg_t, x2, y2]
      exact d1
  · refine ⟨true, ?_, ?_⟩
    · simp (disch := omega) only [f_A_sees, jp_c, decide_eq_true_eq, n_lit, n_add, n_mul, n_div, n_in, n_cl, n_lt, n_ab, n_min, n_m0s, Nat.reduceEqDiff, Nat.reduceAdd, Nat.reduceMul, ite_true, ite_false, if_true, if_false, eq_self_iff_true, ↓reduceIte, and_self, and_true, true_and, and_false, false_and, not_true_eq_false, not_false_eq_true, if_pos, if_neg, Nat.add_zero, jg_t, x1, y1, h]
    · simp (disch := omega) only [f_M_sees, jp_c, decide_eq_true_eq, n_lit, n_neg1, n_add, n_mul, n_sub, n_div, n_mod, n_le, n_lt, n_eq, n_cl, n_in, n_apt, Nat.reduceEqDiff, Nat.reduceAdd, Nat.reduceMul, ite_true, ite_false, if_true, if_false, eq_self_iff_true, ↓reduceIte, and_self, and_true, true_and, and_false, false_and, not_true_eq_false, not_false_eq_true, if_pos, if_neg, Nat.add_zero, jg_t, x2, y2, h]
/-- the first that sees -/
theorem l_seer {A B : jp_M} {S r : Nat} (hS : S ≤ 10) (h1 : A 2 5 = nI S) (h2 : B 104 7 = nI S) (hr : r < 10) (hB : ∀ i, i < 10 → ∃ x y, x ≤ 9 ∧ y ≤ 9 ∧ A 4 (3 * i) = nI x ∧ A 4 (3 * i + 1) = nI y ∧ B 105 (46 + i) = nI x ∧ B 110 i = nI y)
    (hl : ∀ r, r < 10 → ∃ s, s ≤ 10 ∧ B 123 r = nI s ∧ A 16 r = nI s - nI 1) : ∀ d i, i + d = S → ∀ n m, d < n → d < m → ∃ v, f_A_seerOf_2 n (nI r) (nI i) A = some v ∧ f_M_whoSees_2 m (nI r) (nI i) B = some v ∧ (v = nI 4294967295 ∨ ∃ b, b < S ∧ v = nI b) := by
  intro d
  induction d with
  | zero =>
    intro i hi n m hn hm
    obtain ⟨n, rfl⟩ : ∃ k, n = k + 1 := ⟨n - 1, by omega⟩
    obtain ⟨m, rfl⟩ : ∃ k, m = k + 1 := ⟨m - 1, by omega⟩
    refine ⟨nI 4294967295, ?_, ?_, Or.inl rfl⟩
    · simp (disch := omega) only [f_A_seerOf_2, jp_c, decide_eq_true_eq, n_lit, n_neg1, n_add, n_mul, n_sub, n_div, n_mod, n_le, n_lt, n_eq, n_cl, n_in, Nat.reduceEqDiff, Nat.reduceAdd, Nat.reduceMul, ite_true, ite_false, if_true, if_false, eq_self_iff_true, ↓reduceIte, and_self, and_true, true_and, and_false, false_and, not_true_eq_false, not_false_eq_true, if_pos, if_neg, h1]
    · simp (disch := omega) only [f_M_whoSees_2, jp_c, decide_eq_true_eq, n_lit, n_neg1, n_add, n_mul, n_sub, n_div, n_mod, n_le, n_lt, n_eq, n_cl, n_in, Nat.reduceEqDiff, Nat.reduceAdd, Nat.reduceMul, ite_true, ite_false, if_true, if_false, eq_self_iff_true, ↓reduceIte, and_self, and_true, true_and, and_false, false_and, not_true_eq_false, not_false_eq_true, if_pos, if_neg, h2]
  | succ d ih =>
    intro i hi n m hn hm
    obtain ⟨n, rfl⟩ : ∃ k, n = k + 1 := ⟨n - 1, by omega⟩
    obtain ⟨m, rfl⟩ : ∃ k, m = k + 1 := ⟨m - 1, by omega⟩
    obtain ⟨v, e1, e2, e3⟩ := ih (i + 1) (by omega) n m (by omega) (by omega)
    obtain ⟨w, w1, w2⟩ := p_sees (A := A) (B := B) (b := i) (r := r) (by omega) hr hB hl
    cases w with
    | true =>
      refine ⟨nI i, ?_, ?_, Or.inr ⟨i, by omega, rfl⟩⟩
      · simp (disch := omega) only [f_A_seerOf_2, jp_c, decide_eq_true_eq, n_lit, n_neg1, n_add, n_mul, n_sub, n_div, n_mod, n_le, n_lt, n_eq, n_cl, n_in, Nat.reduceEqDiff, Nat.reduceAdd, Nat.reduceMul, ite_true, ite_false, if_true, if_false, eq_self_iff_true, ↓reduceIte, and_self, and_true, true_and, and_false, false_and, not_true_eq_false, not_false_eq_true, if_pos, if_neg, h1, w1, Option.bind_some]
      · simp (disch := omega) only [f_M_whoSees_2, jp_c, decide_eq_true_eq, n_lit, n_neg1, n_add, n_mul, n_sub, n_div, n_mod, n_le, n_lt, n_eq, n_cl, n_in, Nat.reduceEqDiff, Nat.reduceAdd, Nat.reduceMul, ite_true, ite_false, if_true, if_false, eq_self_iff_true, ↓reduceIte, and_self, and_true, true_and, and_false, false_and, not_true_eq_false, not_false_eq_true, if_pos, if_neg, h2, w2, Option.bind_some]
    | false =>
      refine ⟨v, ?_, ?_, e3⟩
      · simp (disch := omega) only [f_A_seerOf_2, jp_c, decide_eq_true_eq, n_lit, n_neg1, n_add, n_mul, n_sub, n_div, n_mod, n_le, n_lt, n_eq, n_cl, n_in, Nat.reduceEqDiff, Nat.reduceAdd, Nat.reduceMul, ite_true, ite_false, if_true, if_false, eq_self_iff_true, ↓reduceIte, and_self, and_true, true_and, and_false, false_and, not_true_eq_false, not_false_eq_true, if_pos, if_neg, h1, w1, Option.bind_some, Bool.false_eq_true]; exact e1
      · simp (disch := omega) only [f_M_whoSees_2, jp_c, decide_eq_true_eq, n_lit, n_neg1, n_add, n_mul, n_sub, n_div, n_mod, n_le, n_lt, n_eq, n_cl, n_in, Nat.reduceEqDiff, Nat.reduceAdd, Nat.reduceMul, ite_true, ite_false, if_true, if_false, eq_self_iff_true, ↓reduceIte, and_self, and_true, true_and, and_false, false_and, not_true_eq_false, not_false_eq_true, if_pos, if_neg, h2, w2, Option.bind_some, Bool.false_eq_true]; exact e2
theorem p_bird (a b : Int32) {A B : jp_M} (hR : Rel A B) : pOK ((f_C_bird a b A).map (fun r => (r, A))) (f_M_bird a b B) := by
  have T := Rel_told (x := nI 0) hR
  generalize hB1 : jp_set B 104 (upd (B 104) 0 (nI 0)) = B1 at T
  have hT := T
  obtain ⟨⟨hW, hBk, hLw, hPe, hLe, hCi, hWi, hKi, hPo, hWy, hVo⟩, hPic, hKe, hTa, hFa, hTh, hWd⟩ := T
  obtain ⟨⟨⟨e0, e1, e2, e3, e4, e5, e6⟩, eP, eB, eR⟩, nW⟩ := hW
  obtain ⟨P, S, U, hP, hS, hU, f4, f5, f6, nP, nB, nR⟩ := nW
  have g7 : B1 104 7 = nI S := by rw [← e5, f5]
  by_cases h1 : nI 0 ≤ a ∧ a < nI S
  · obtain ⟨x, hx, rfl⟩ := n_rngl (by omega) h1
    obtain ⟨b1, b2, b3⟩ := eB x (by omega)
    by_cases h2 : nI 10 ≤ b ∧ b ≤ nI 19
    · obtain ⟨y, hy1, hy2, rfl⟩ := n_rng (by omega) h2.1 (by omega) h2.2
      obtain ⟨v, v1, v2⟩ := p_sees (A := A) (B := B1) (b := x) (r := y - 10) (by omega) (by omega) (by
        intro i hi
        obtain ⟨x, y, q1, q2, q3, q4⟩ := nB i hi
        obtain ⟨b1, b2, b3⟩ := eB i hi
        exact ⟨x, y, q1, q2, q3, q4, by rw [← b1, q3], by rw [← b2, q4]⟩) (fun r hr => by obtain ⟨s, s1, s2, s3⟩ := hLe.2 r hr; exact ⟨s, s1, s2, s3⟩)
      have hy3 : ¬ y ≤ 2 := by omega
      have c1 : f_C_bird (nI x) (nI y) A = some (if v then nI 1 else nI 0) := by
        cases v <;> simp (disch := omega) only [f_C_bird, n_hasS, n_within, n_it0, jp_c, decide_eq_true_eq, n_lit, n_neg1, n_add, n_mul, n_sub, n_div, n_mod, n_le, n_lt, n_eq, n_cl, n_in, Nat.reduceEqDiff, Nat.reduceAdd, Nat.reduceMul, ite_true, ite_false, if_true, if_false, eq_self_iff_true, ↓reduceIte, and_self, and_true, true_and, and_false, false_and, not_true_eq_false, not_false_eq_true, if_pos, if_neg, Nat.zero_le, hx, hy3, f5, v1, Option.bind_some, Bool.false_eq_true]
      have c2 : f_M_bird (nI x) (nI y) B = some (if v then nI 1 else nI 0, B1) := by
        cases v <;> simp (disch := omega) only [f_M_bird, hB1, n_isB, n_isIn, n_it0, jp_c, decide_eq_true_eq, n_lit, n_neg1, n_add, n_mul, n_sub, n_div, n_mod, n_le, n_lt, n_eq, n_cl, n_in, Nat.reduceEqDiff, Nat.reduceAdd, Nat.reduceMul, ite_true, ite_false, if_true, if_false, eq_self_iff_true, ↓reduceIte, and_self, and_true, true_and, and_false, false_and, not_true_eq_false, not_false_eq_true, if_pos, if_neg, Nat.zero_le, hx, hy1, hy2, g7, v2, Option.bind_some, Bool.false_eq_true]
      rw [c1, c2]
      exact pOK_mk rfl hT
    · have hb : ¬ (nI 10 ≤ b ∧ b ≤ nI 19) := h2
      by_cases q0 : b = nI 0
      · subst q0
        simp (disch := omega) only [f_C_bird, f_M_bird, hB1, n_hasS, n_within, n_isB, n_isIn, n_it0, jp_c, decide_eq_true_eq, n_lit, n_neg1, n_add, n_mul, n_sub, n_div, n_mod, n_le, n_lt, n_eq, n_cl, n_in, Nat.reduceEqDiff, Nat.reduceAdd, Nat.reduceMul, ite_true, ite_false, if_true, if_false, eq_self_iff_true, ↓reduceIte, and_self, and_true, true_and, and_false, false_and, not_true_eq_false, not_false_eq_true, if_pos, if_neg, Nat.zero_le, Nat.add_zero, Nat.reduceLeDiff, hx, f5, g7, jg_t, Option.map_some]
        exact pOK_mk b1 hT
      by_cases q1 : b = nI 1
      · subst q1
        simp (disch := omega) only [f_C_bird, f_M_bird, hB1, n_hasS, n_within, n_isB, n_isIn, n_it0, jp_c, decide_eq_true_eq, n_lit, n_neg1, n_add, n_mul, n_sub, n_div, n_mod, n_le, n_lt, n_eq, n_cl, n_in, Nat.reduceEqDiff, Nat.reduceAdd, Nat.reduceMul, ite_true, ite_false, if_true, if_false, eq_self_iff_true, ↓reduceIte, and_self, and_true, true_and, and_false, false_and, not_true_eq_false, not_false_eq_true, if_pos, if_neg, Nat.zero_le, Nat.add_zero, Nat.reduceLeDiff, hx, f5, g7, jg_t, Option.map_some]
        exact pOK_mk b2 hT
      by_cases q2 : b = nI 2
      · subst q2
        simp (disch := omega) only [f_C_bird, f_M_bird, hB1, n_hasS, n_within, n_isB, n_isIn, n_it0, jp_c, decide_eq_true_eq, n_lit, n_neg1, n_add, n_mul, n_sub, n_div, n_mod, n_le, n_lt, n_eq, n_cl, n_in, Nat.reduceEqDiff, Nat.reduceAdd, Nat.reduceMul, ite_true, ite_false, if_true, if_false, eq_self_iff_true, ↓reduceIte, and_self, and_true, true_and, and_false, false_and, not_true_eq_false, not_false_eq_true, if_pos, if_neg, Nat.zero_le, Nat.add_zero, Nat.reduceLeDiff, hx, f5, g7, jg_t, Option.map_some]
        exact pOK_mk b3 hT
      have c2 : f_M_bird (nI x) b B = some (nI 4294967295, B1) := by
        simp (disch := omega) only [f_M_bird, hB1, n_isB, n_isIn, n_it0, jp_c, decide_eq_true_eq, n_lit, n_neg1, n_add, n_mul, n_sub, n_div, n_mod, n_le, n_lt, n_eq, n_cl, n_in, Nat.reduceEqDiff, Nat.reduceAdd, Nat.reduceMul, ite_true, ite_false, if_true, if_false, eq_self_iff_true, ↓reduceIte, and_self, and_true, true_and, and_false, false_and, not_true_eq_false, not_false_eq_true, if_pos, if_neg, Nat.zero_le, hx, g7, hb, q0, q1, q2]
      have q3 : ¬ (nI 0 ≤ b ∧ b ≤ nI 2) := by
        intro h3
        obtain ⟨y, -, hy2, rfl⟩ := n_rng (by omega) h3.1 (by omega) h3.2
        rw [n_eq (by omega) (by omega)] at q0 q1 q2
        omega
      have c1 : f_C_bird (nI x) b A = some (nI 4294967295) := by
        by_cases r1 : b < nI 10
        · simp (disch := omega) only [f_C_bird, n_hasS, n_within, n_it0, jp_c, decide_eq_true_eq, n_lit, n_neg1, n_add, n_mul, n_sub, n_div, n_mod, n_le, n_lt, n_eq, n_cl, n_in, Nat.reduceEqDiff, Nat.reduceAdd, Nat.reduceMul, ite_true, ite_false, if_true, if_false, eq_self_iff_true, ↓reduceIte, and_self, and_true, true_and, and_false, false_and, not_true_eq_false, not_false_eq_true, if_pos, if_neg, Nat.zero_le, hx, q3, f5, r1]
        · have r2 : nI 20 ≤ b := by
            simp only [Int32.le_iff_toInt_le, Int32.lt_iff_toInt_lt] at *
            simp (disch := omega) only [n_ti] at *
            omega
          simp (disch := omega) only [f_C_bird, n_hasS, n_within, n_it0, jp_c, decide_eq_true_eq, n_lit, n_neg1, n_add, n_mul, n_sub, n_div, n_mod, n_le, n_lt, n_eq, n_cl, n_in, Nat.reduceEqDiff, Nat.reduceAdd, Nat.reduceMul, ite_true, ite_false, if_true, if_false, eq_self_iff_true, ↓reduceIte, and_self, and_true, true_and, and_false, false_and, not_true_eq_false, not_false_eq_true, if_pos, if_neg, Nat.zero_le, hx, q3, f5, r1, r2]
      rw [c1, c2]
      exact pOK_mk rfl hT
  · simp (disch := omega) only [f_C_bird, f_M_bird, hB1, n_hasS, n_isB, n_within, n_isIn, n_it0, jp_c, decide_eq_true_eq, n_lit, n_neg1, n_add, n_mul, n_sub, n_div, n_mod, n_le, n_lt, n_eq, n_cl, n_in, Nat.reduceEqDiff, Nat.reduceAdd, Nat.reduceMul, ite_true, ite_false, if_true, if_false, eq_self_iff_true, ↓reduceIte, and_self, and_true, true_and, and_false, false_and, not_true_eq_false, not_false_eq_true, if_pos, if_neg, h1, f5, g7, Option.map_some]
    exact pOK_mk rfl hT
