/-- the use at k takes the air above a roof at a height -/
def cov (g : Nat → Int32) (roof : Int32) (h k : Nat) : Bool := decide (g (56 + 8 * k + 3) = roof ∧ g (56 + 8 * k + 4) ≤ nI h ∧ nI h ≤ g (56 + 8 * k + 5))
/-- no use does -/
def fr (g : Nat → Int32) (U : Nat) (roof : Int32) (h : Nat) : Bool := decide (∀ k, k < U → cov g roof h k = false)
/-- what is needed of the uses -/
def uF (A B : jp_M) (U : Nat) : Prop := U ≤ 16 ∧ A 2 6 = nI U ∧ B 105 5 = nI U ∧ (∀ j, j < 128 → A 5 j = B 105 (56 + j)) ∧ ∀ i, i < U → ∃ z v, z ≤ v ∧ v ≤ 7 ∧ A 5 (8 * i + 4) = nI z ∧ A 5 (8 * i + 5) = nI v
theorem uF_rel {A B : jp_M} (hW : rW (A 2) (A 3) (A 4) (A 5) (B 105) (B 108) (B 109) (B 110) (B 104 6) (B 104 7)) : ∃ U, uF A B U := by
  obtain ⟨⟨⟨e0, e1, e2, e3, e4, e5, e6⟩, eP, eB, eR⟩, nW⟩ := hW
  obtain ⟨P, S, U, hP, hS, hU, f4, f5, f6, nP, nB, nR⟩ := nW
  refine ⟨U, hU, f6, by rw [← f6]; exact e6.symm, eR, fun i hi => ?_⟩
  obtain ⟨x, y, z, v, -, -, h1, h2, -, -, h3, h4⟩ := nR i hi
  exact ⟨z, v, h1, h2, h3, h4⟩
theorem uF_cg {A B A' B' : jp_M} {U : Nat} (h2 : A' 2 = A 2) (h5 : A' 5 = A 5) (h105 : B' 105 = B 105) (h : uF A B U) : uF A' B' U := by
  unfold uF
  rw [h2, h5, h105]
  exact h
theorem uF_g {A B : jp_M} {U : Nat} (h : uF A B U) : ∀ i, i < U → ∃ z v, z ≤ v ∧ v ≤ 7 ∧ B 105 (56 + 8 * i + 4) = nI z ∧ B 105 (56 + 8 * i + 5) = nI v := by
  obtain ⟨hU, -, -, h1, h2⟩ := h
  intro i hi
  obtain ⟨z, v, q1, q2, q3, q4⟩ := h2 i hi
  refine ⟨z, v, q1, q2, ?_, ?_⟩
  · rw [← q3, h1 _ (by omega), show 56 + (8 * i + 4) = 56 + 8 * i + 4 by omega]
  · rw [← q4, h1 _ (by omega), show 56 + (8 * i + 5) = 56 + 8 * i + 5 by omega]
theorem l_uo {B : jp_M} {U : Nat} (hU : U ≤ 16) (h2 : B 105 5 = nI U) (roof : Int32) (h : Nat) : ∀ d i, i + d = U → ∀ n, d < n → ∃ v, f_M_useOf_2 n roof (nI h) (nI i) B = some v ∧ (v = nI 4294967295 ↔ ∀ k, i ≤ k → k < U → cov (B 105) roof h k = false) := by
  intro d
  induction d with
  | zero =>
    intro i hi n hn
    obtain ⟨n, rfl⟩ : ∃ k, n = k + 1 := ⟨n - 1, by omega⟩
    refine ⟨nI 4294967295, ?_, fun _ k g1 g2 => by omega, fun _ => rfl⟩
    simp (disch := omega) only [f_M_useOf_2, jp_c, decide_eq_true_eq, n_lit, n_neg1, n_add, n_mul, n_sub, n_div, n_mod, n_le, n_lt, n_eq, n_cl, n_in, Nat.reduceEqDiff, Nat.reduceAdd, Nat.reduceMul, ite_true, ite_false, if_true, if_false, eq_self_iff_true, ↓reduceIte, and_self, and_true, true_and, and_false, false_and, not_true_eq_false, not_false_eq_true, if_pos, if_neg, h2]
  | succ d ih =>
    intro i hi n hn
    obtain ⟨n, rfl⟩ : ∃ k, n = k + 1 := ⟨n - 1, by omega⟩
    obtain ⟨v, e1, e2⟩ := ih (i + 1) (by omega) n (by omega)
    have he : (∀ k, i + 1 ≤ k → k < U → cov (B 105) roof h k = false) → cov (B 105) roof h i = false → ∀ k, i ≤ k → k < U → cov (B 105) roof h k = false := by
      intro g1 g2 k g3 g4
      by_cases hk : k = i
      · subst hk; exact g2
      · exact g1 k (by omega) g4
    by_cases c1 : B 105 (56 + 8 * i + 3) = roof
    · by_cases c2 : B 105 (56 + 8 * i + 4) ≤ nI h ∧ nI h ≤ B 105 (56 + 8 * i + 5)
      · refine ⟨nI i, ?_, ?_⟩
        · simp (disch := omega) only [f_M_useOf_2, f_M_useOf_60, f_M_useAt, n_isIn, n_it0, jp_c, decide_eq_true_eq, n_lit, n_neg1, n_add, n_mul, n_sub, n_div, n_mod, n_le, n_lt, n_eq, n_cl, n_in, Nat.reduceEqDiff, Nat.reduceAdd, Nat.reduceMul, ite_true, ite_false, if_true, if_false, eq_self_iff_true, ↓reduceIte, and_self, and_true, true_and, and_false, false_and, not_true_eq_false, not_false_eq_true, if_pos, if_neg, h2, c1, c2, jg_t]
        · constructor
          · intro h'
            rw [n_eq (by omega) (by omega)] at h'
            omega
          · intro h'
            have := h' i (by omega) (by omega)
            unfold cov at this
            exact absurd this (by simp [c1, c2])
      · refine ⟨v, ?_, ?_⟩
        · simp (disch := omega) only [f_M_useOf_2, f_M_useOf_60, f_M_useAt, n_isIn, n_it0, jp_c, decide_eq_true_eq, n_lit, n_neg1, n_add, n_mul, n_sub, n_div, n_mod, n_le, n_lt, n_eq, n_cl, n_in, Nat.reduceEqDiff, Nat.reduceAdd, Nat.reduceMul, ite_true, ite_false, if_true, if_false, eq_self_iff_true, ↓reduceIte, and_self, and_true, true_and, and_false, false_and, not_true_eq_false, not_false_eq_true, if_pos, if_neg, h2, c1, c2, jg_t]
          exact e1
        · rw [e2]
          refine ⟨fun g => he g ?_, fun g k g1 g2 => g k (by omega) g2⟩
          unfold cov
          exact decide_eq_false (fun g => c2 g.2)
    · refine ⟨v, ?_, ?_⟩
      · simp (disch := omega) only [f_M_useOf_2, f_M_useOf_60, f_M_useAt, n_isIn, n_it0, jp_c, decide_eq_true_eq, n_lit, n_neg1, n_add, n_mul, n_sub, n_div, n_mod, n_le, n_lt, n_eq, n_cl, n_in, Nat.reduceEqDiff, Nat.reduceAdd, Nat.reduceMul, ite_true, ite_false, if_true, if_false, eq_self_iff_true, ↓reduceIte, and_self, and_true, true_and, and_false, false_and, not_true_eq_false, not_false_eq_true, if_pos, if_neg, h2, c1, jg_t]
        exact e1
      · rw [e2]
        refine ⟨fun g => he g ?_, fun g k g1 g2 => g k (by omega) g2⟩
        unfold cov
        exact decide_eq_false (fun g => c1 g.1)
theorem p_isFree {B : jp_M} {U : Nat} (hU : U ≤ 16) (h2 : B 105 5 = nI U) (roof : Int32) (h : Nat) : f_M_isFree roof (nI h) B = some (if fr (B 105) U roof h then nI 1 else nI 0) := by
  obtain ⟨v, e1, e2⟩ := l_uo hU h2 roof h U 0 (by omega) jFu (jFu_lt (by omega))
  have e3 : f_M_useOf roof (nI h) B = some v := e1
  by_cases hv : v = nI 4294967295
  · have : fr (B 105) U roof h = true := by
      unfold fr
      rw [decide_eq_true_eq]
      exact fun k hk => e2.1 hv k (by omega) hk
    simp (disch := omega) only [f_M_isFree, e3, this, jp_c, decide_eq_true_eq, n_lit, n_neg1, n_add, n_mul, n_sub, n_div, n_mod, n_le, n_lt, n_eq, n_cl, n_in, Nat.reduceEqDiff, Nat.reduceAdd, Nat.reduceMul, ite_true, ite_false, if_true, if_false, eq_self_iff_true, ↓reduceIte, and_self, and_true, true_and, and_false, false_and, not_true_eq_false, not_false_eq_true, if_pos, if_neg, Option.bind_some, hv]
  · have : fr (B 105) U roof h = false := by
      unfold fr
      rw [decide_eq_false_iff_not]
      exact fun g => hv (e2.2 (fun k _ hk => g k hk))
    simp (disch := omega) only [f_M_isFree, e3, this, jp_c, decide_eq_true_eq, n_lit, n_neg1, n_add, n_mul, n_sub, n_div, n_mod, n_le, n_lt, n_eq, n_cl, n_in, Nat.reduceEqDiff, Nat.reduceAdd, Nat.reduceMul, ite_true, ite_false, if_true, if_false, eq_self_iff_true, ↓reduceIte, and_self, and_true, true_and, and_false, false_and, not_true_eq_false, not_false_eq_true, if_pos, if_neg, Option.bind_some, hv, Bool.false_eq_true]
theorem sp_t : ∀ v, v < 8 → ∀ z, z < 8 → z ≤ v → ∀ h, h < 8 → (2 ^ (v + 1) - 2 ^ z).testBit h = decide (z ≤ h ∧ h ≤ v) := by decide
theorem sp_b : ∀ v, v < 8 → ∀ z, z < 8 → 2 ^ (v + 1) - 2 ^ z < 256 := by decide
theorem n_span {z v : Nat} (h1 : z ≤ v) (h2 : v ≤ 7) : f_W_span (nI z) (nI v) = nI (2 ^ (v + 1) - 2 ^ z) := by
  unfold f_W_span
  rw [show nI v + 1 = nI (v + 1) from n_add v 1, show (1 : Int32) = nI 1 from rfl, n_shl (by omega), n_shl (by omega), Nat.one_mul, Nat.one_mul, n_sub (Nat.pow_le_pow_right (by omega) (by omega))]
theorem l_ua {A B : jp_M} {U : Nat} (hu : uF A B U) (roof : Int32) : ∀ d i, i + d = U → ∀ n, d < n → ∀ m, m < 256 → ∃ m', m' < 256 ∧ f_W_usedAbove_4 n roof (nI m) (nI (8 * i)) A = some (nI m') ∧ ∀ h, h < 8 → (m'.testBit h = true ↔ m.testBit h = true ∨ ∃ k, i ≤ k ∧ k < U ∧ cov (B 105) roof h k = true) := by
  have hg := uF_g hu
  obtain ⟨hU, h1, -, hr, hzv⟩ := hu
  intro d
  induction d with
  | zero =>
    intro i hi n hn m hm
    obtain ⟨n, rfl⟩ : ∃ k, n = k + 1 := ⟨n - 1, by omega⟩
    refine ⟨m, hm, ?_, fun h hh => ⟨Or.inl, ?_⟩⟩
    · simp (disch := omega) only [f_W_usedAbove_4, jp_c, decide_eq_true_eq, n_lit, n_neg1, n_add, n_mul, n_sub, n_div, n_mod, n_le, n_lt, n_eq, n_cl, n_in, Nat.reduceEqDiff, Nat.reduceAdd, Nat.reduceMul, ite_true, ite_false, if_true, if_false, eq_self_iff_true, ↓reduceIte, and_self, and_true, true_and, and_false, false_and, not_true_eq_false, not_false_eq_true, if_pos, if_neg, h1]
    · rintro (h | ⟨k, g1, g2, -⟩)
      · exact h
      · omega
  | succ d ih =>
    intro i hi n hn m hm
    obtain ⟨n, rfl⟩ : ∃ k, n = k + 1 := ⟨n - 1, by omega⟩
    obtain ⟨z, v, q1, q2, q3, q4⟩ := hzv i (by omega)
    obtain ⟨z', v', q1', q2', q3', q4'⟩ := hg i (by omega)
    have a3 := hr (8 * i + 3) (by omega)
    have a4 := hr (8 * i + 4) (by omega)
    have a5 := hr (8 * i + 5) (by omega)
    rw [show 56 + (8 * i + 3) = 56 + 8 * i + 3 by omega] at a3
    rw [show 56 + (8 * i + 4) = 56 + 8 * i + 4 by omega] at a4
    rw [show 56 + (8 * i + 5) = 56 + 8 * i + 5 by omega] at a5
    have hz : z' = z := by rw [a4, q3', n_eq (by omega) (by omega)] at q3; exact q3
    have hv : v' = v := by rw [a5, q4', n_eq (by omega) (by omega)] at q4; exact q4
    subst hz
    subst hv
    have h8 : 8 * (i + 1) = 8 * i + 8 := by omega
    by_cases c1 : B 105 (56 + 8 * i + 3) = roof
    · have s1 := sp_b v' (by omega) z' (by omega)
      obtain ⟨m', m1, m2, m3⟩ := ih (i + 1) (by omega) n (by omega) (m ||| (2 ^ (v' + 1) - 2 ^ z')) (Nat.or_lt_two_pow (n := 8) hm s1)
      refine ⟨m', m1, ?_, fun h hh => ?_⟩
      · rw [h8] at m2
        rw [← m2]
        simp (disch := omega) only [f_W_usedAbove_4, f_W_usedAbove_49, jp_c, decide_eq_true_eq, n_lit, n_neg1, n_add, n_mul, n_sub, n_div, n_mod, n_le, n_lt, n_eq, n_cl, n_in, Nat.reduceEqDiff, Nat.reduceAdd, Nat.reduceMul, ite_true, ite_false, if_true, if_false, eq_self_iff_true, ↓reduceIte, and_self, and_true, true_and, and_false, false_and, not_true_eq_false, not_false_eq_true, if_pos, if_neg, h1, a3, c1, q3, q4, n_span, n_or, jg_t]
      · rw [m3 h hh, Nat.testBit_or, Bool.or_eq_true, sp_t v' (by omega) z' (by omega) q1 h hh, decide_eq_true_eq]
        constructor
        · rintro ((g | g) | ⟨k, g1, g2, g3⟩)
          · exact Or.inl g
          · refine Or.inr ⟨i, by omega, by omega, ?_⟩
            unfold cov
            rw [decide_eq_true_eq, q3', q4', n_le (by omega) (by omega), n_le (by omega) (by omega)]
            exact ⟨c1, g⟩
          · exact Or.inr ⟨k, by omega, g2, g3⟩
        · rintro (g | ⟨k, g1, g2, g3⟩)
          · exact Or.inl (Or.inl g)
          · by_cases hk : k = i
            · subst hk
              unfold cov at g3
              rw [decide_eq_true_eq, q3', q4', n_le (by omega) (by omega), n_le (by omega) (by omega)] at g3
              exact Or.inl (Or.inr g3.2)
            · exact Or.inr ⟨k, by omega, g2, g3⟩
    · obtain ⟨m', m1, m2, m3⟩ := ih (i + 1) (by omega) n (by omega) m hm
      refine ⟨m', m1, ?_, fun h hh => ?_⟩
      · rw [h8] at m2
        rw [← m2]
        simp (disch := omega) only [f_W_usedAbove_4, f_W_usedAbove_49, jp_c, decide_eq_true_eq, n_lit, n_neg1, n_add, n_mul, n_sub, n_div, n_mod, n_le, n_lt, n_eq, n_cl, n_in, Nat.reduceEqDiff, Nat.reduceAdd, Nat.reduceMul, ite_true, ite_false, if_true, if_false, eq_self_iff_true, ↓reduceIte, and_self, and_true, true_and, and_false, false_and, not_true_eq_false, not_false_eq_true, if_pos, if_neg, h1, a3, c1, jg_t]
      · rw [m3 h hh]
        constructor
        · rintro (g | ⟨k, g1, g2, g3⟩)
          · exact Or.inl g
          · exact Or.inr ⟨k, by omega, g2, g3⟩
        · rintro (g | ⟨k, g1, g2, g3⟩)
          · exact Or.inl g
          · by_cases hk : k = i
            · subst hk
              unfold cov at g3
              rw [decide_eq_true_eq] at g3
              exact absurd g3.1 c1
            · exact Or.inr ⟨k, by omega, g2, g3⟩
theorem p_ua {A B : jp_M} {U : Nat} (hu : uF A B U) (roof : Int32) : ∃ m, m < 256 ∧ f_W_usedAbove roof A = some (nI m) ∧ ∀ h, h < 8 → m.testBit h = !(fr (B 105) U roof h) := by
  obtain ⟨m, m1, m2, m3⟩ := l_ua hu roof U 0 (by omega) jFu (jFu_lt (by have := hu.1; omega)) 0 (by omega)
  refine ⟨m, m1, m2, fun h hh => ?_⟩
  rw [Bool.eq_iff_iff, m3 h hh, Nat.zero_testBit, Bool.not_eq_true', fr, decide_eq_false_iff_not]
  constructor
  · rintro (g0 | ⟨k, -, g2, g3⟩) g
    · exact absurd g0 (by decide)
    · rw [g k g2] at g3; exact absurd g3 (by decide)
  · intro g
    refine Or.inr (Classical.byContradiction (fun g' => g (fun k hk => ?_)))
    cases hc : cov (B 105) roof h k
    · rfl
    · exact absurd ⟨k, by omega, hk, hc⟩ g'
/-- both find that it fits, or not -/
theorem l_cb {B : jp_M} {U : Nat} (hU : U ≤ 16) (h2 : B 105 5 = nI U) (roof : Int32) {hi : Nat} (hh : hi ≤ 7) : ∀ d l, l + d = hi + 1 → ∀ n, d < n → ∃ b : Bool, f_M_canBe_3 n roof (nI hi) (nI l) B = some (if b then nI 1 else nI 0) ∧ (b = true ↔ U < 16 ∧ ∀ h, l ≤ h → h ≤ hi → fr (B 105) U roof h = true) := by
  intro d
  induction d with
  | zero =>
    intro l hl n hn
    obtain ⟨n, rfl⟩ : ∃ k, n = k + 1 := ⟨n - 1, by omega⟩
    refine ⟨decide (U < 16), ?_, ?_⟩
    · by_cases h : U < 16
      · have h' : ¬ 16 ≤ U := by omega
        simp (disch := omega) only [f_M_canBe_3, jp_c, decide_eq_true_eq, n_lit, n_neg1, n_add, n_mul, n_sub, n_div, n_mod, n_le, n_lt, n_eq, n_cl, n_in, Nat.reduceEqDiff, Nat.reduceAdd, Nat.reduceMul, ite_true, ite_false, if_true, if_false, eq_self_iff_true, ↓reduceIte, and_self, and_true, true_and, and_false, false_and, not_true_eq_false, not_false_eq_true, if_pos, if_neg, h2, h, h', decide_true]
      · have h' : 16 ≤ U := by omega
        simp (disch := omega) only [f_M_canBe_3, jp_c, decide_eq_true_eq, n_lit, n_neg1, n_add, n_mul, n_sub, n_div, n_mod, n_le, n_lt, n_eq, n_cl, n_in, Nat.reduceEqDiff, Nat.reduceAdd, Nat.reduceMul, ite_true, ite_false, if_true, if_false, eq_self_iff_true, ↓reduceIte, and_self, and_true, true_and, and_false, false_and, not_true_eq_false, not_false_eq_true, if_pos, if_neg, h2, h, h', decide_false, Bool.false_eq_true]
    · rw [decide_eq_true_eq]
      exact ⟨fun g => ⟨g, fun h g1 g2 => by omega⟩, fun g => g.1⟩
  | succ d ih =>
    intro l hl n hn
    obtain ⟨n, rfl⟩ : ∃ k, n = k + 1 := ⟨n - 1, by omega⟩
    have q := p_isFree hU h2 roof l
    cases hf : fr (B 105) U roof l
    · refine ⟨false, ?_, ?_⟩
      · simp (disch := omega) only [f_M_canBe_3, jp_c, decide_eq_true_eq, n_lit, n_neg1, n_add, n_mul, n_sub, n_div, n_mod, n_le, n_lt, n_eq, n_cl, n_in, Nat.reduceEqDiff, Nat.reduceAdd, Nat.reduceMul, ite_true, ite_false, if_true, if_false, eq_self_iff_true, ↓reduceIte, and_self, and_true, true_and, and_false, false_and, not_true_eq_false, not_false_eq_true, if_pos, if_neg, h2, q, hf, Option.bind_some, Bool.false_eq_true]
      · refine ⟨fun g => absurd g (by decide), fun g => ?_⟩
        have := g.2 l (by omega) (by omega)
        rw [hf] at this
        exact absurd this (by decide)
    · obtain ⟨b, e1, e2⟩ := ih (l + 1) (by omega) n (by omega)
      refine ⟨b, ?_, ?_⟩
      · rw [← e1]
        simp (disch := omega) only [f_M_canBe_3, jp_c, decide_eq_true_eq, n_lit, n_neg1, n_add, n_mul, n_sub, n_div, n_mod, n_le, n_lt, n_eq, n_cl, n_in, Nat.reduceEqDiff, Nat.reduceAdd, Nat.reduceMul, ite_true, ite_false, if_true, if_false, eq_self_iff_true, ↓reduceIte, and_self, and_true, true_and, and_false, false_and, not_true_eq_false, not_false_eq_true, if_pos, if_neg, h2, q, hf, Option.bind_some]
      · rw [e2]
        refine ⟨fun g => ⟨g.1, fun h g1 g2 => ?_⟩, fun g => ⟨g.1, fun h g1 g2 => g.2 h (by omega) g2⟩⟩
        by_cases hl' : h = l
        · subst hl'; exact hf
        · exact g.2 h (by omega) g2
theorem p_fits {A B : jp_M} {U lo hi : Nat} (hu : uF A B U) (h1 : lo ≤ hi) (h2 : hi ≤ 7) (roof : Int32) (w3 : A 55 3 = roof) (w4 : A 55 4 = nI lo) (w5 : A 55 5 = nI hi) : ∃ b : Bool, f_K_fits A = some (if b then nI 1 else nI 0) ∧ f_M_canBe roof (nI lo) (nI hi) B = some (if b then nI 1 else nI 0) ∧ (b = true → U < 16) := by
  obtain ⟨b, e1, e2⟩ := l_cb hu.1 hu.2.2.1 roof h2 (hi + 1 - lo) lo (by omega) jFu (jFu_lt (by omega))
  obtain ⟨m, m1, m2, m3⟩ := p_ua hu roof
  refine ⟨b, ?_, e1, fun h => (e2.1 h).1⟩
  have s1 := sp_b hi (by omega) lo (by omega)
  have key : m &&& (2 ^ (hi + 1) - 2 ^ lo) = 0 ↔ ∀ h, lo ≤ h → h ≤ hi → fr (B 105) U roof h = true := by
    constructor
    · intro g h g1 g2
      have := congrArg (fun x => Nat.testBit x h) g
      simp only [Nat.testBit_and, Nat.zero_testBit] at this
      rw [m3 h (by omega), sp_t hi (by omega) lo (by omega) h1 h (by omega), decide_eq_true (show lo ≤ h ∧ h ≤ hi from ⟨g1, g2⟩), Bool.and_true] at this
      cases hf : fr (B 105) U roof h
      · rw [hf] at this; exact absurd this (by decide)
      · rfl
    · intro g
      apply Nat.eq_of_testBit_eq
      intro h
      rw [Nat.testBit_and, Nat.zero_testBit]
      by_cases hh : h < 8
      · rw [m3 h hh, sp_t hi (by omega) lo (by omega) h1 h hh]
        by_cases hc : lo ≤ h ∧ h ≤ hi
        · rw [g h hc.1 hc.2]; rfl
        · rw [decide_eq_false hc, Bool.and_false]
      · rw [Nat.testBit_lt_two_pow (Nat.lt_of_lt_of_le m1 (Nat.pow_le_pow_right (n := 2) (i := 8) (by omega) (by omega))), Bool.false_and]
  have hlt : m &&& (2 ^ (hi + 1) - 2 ^ lo) < 256 := Nat.lt_of_le_of_lt Nat.and_le_left m1
  have hU := hu.1
  have a6 := hu.2.1
  by_cases hc : U < 16
  · have hc' : ¬ 16 ≤ U := by omega
    by_cases hk : m &&& (2 ^ (hi + 1) - 2 ^ lo) = 0
    · obtain rfl : b = true := e2.2 ⟨hc, key.1 hk⟩
      simp (disch := omega) only [f_K_fits, jp_c, decide_eq_true_eq, n_lit, n_neg1, n_add, n_mul, n_sub, n_div, n_mod, n_le, n_lt, n_eq, n_cl, n_in, Nat.reduceEqDiff, Nat.reduceAdd, Nat.reduceMul, ite_true, ite_false, if_true, if_false, eq_self_iff_true, ↓reduceIte, and_self, and_true, true_and, and_false, false_and, not_true_eq_false, not_false_eq_true, if_pos, if_neg, a6, w3, w4, w5, m2, n_span, n_and, Option.bind_some, hc', hk]
    · have hb : b = false := by
        cases b
        · rfl
        · exact absurd (key.2 (e2.1 rfl).2) hk
      subst hb
      simp (disch := omega) only [f_K_fits, jp_c, decide_eq_true_eq, n_lit, n_neg1, n_add, n_mul, n_sub, n_div, n_mod, n_le, n_lt, n_eq, n_cl, n_in, Nat.reduceEqDiff, Nat.reduceAdd, Nat.reduceMul, ite_true, ite_false, if_true, if_false, eq_self_iff_true, ↓reduceIte, and_self, and_true, true_and, and_false, false_and, not_true_eq_false, not_false_eq_true, if_pos, if_neg, a6, w3, w4, w5, m2, n_span, n_and, Option.bind_some, hc', hk, Bool.false_eq_true]
  · have hb : b = false := by
      cases b
      · rfl
      · exact absurd (e2.1 rfl).1 hc
    subst hb
    have hc' : 16 ≤ U := by omega
    simp (disch := omega) only [f_K_fits, jp_c, decide_eq_true_eq, n_lit, n_neg1, n_add, n_mul, n_sub, n_div, n_mod, n_le, n_lt, n_eq, n_cl, n_in, Nat.reduceEqDiff, Nat.reduceAdd, Nat.reduceMul, ite_true, ite_false, if_true, if_false, eq_self_iff_true, ↓reduceIte, and_self, and_true, true_and, and_false, false_and, not_true_eq_false, not_false_eq_true, if_pos, if_neg, a6, hc', Bool.false_eq_true]
theorem n_inv : ∀ m, m < 256 → (255 : Int32) &&& (nI m ^^^ (-1 : Int32)) = nI (255 - m) := by decide +kernel
theorem n_invb : ∀ m, m < 256 → ∀ h, h < 8 → (255 - m).testBit h = !(m.testBit h) := by decide +kernel
/-- the class's picture of the free air -/
def frA (M : jp_M) (g : Nat → Int32) (U r : Nat) : Prop := ∃ w, w < 256 ∧ M 57 r = nI w ∧ ∀ h, h < 8 → w.testBit h = fr g U (nI r) h
theorem l_lf {A B : jp_M} {U : Nat} (hu : uF A B U) : ∀ d i, i + d = 10 → ∀ n, d < n → ∀ M, (∀ q, ¬ q = 57 → M q = A q) → (∀ r, r < i → frA M (B 105) U r) → ∃ M', f_T_learnsFree_2 n (nI i) M = some M' ∧ (∀ q, ¬ q = 57 → M' q = A q) ∧ ∀ r, r < 10 → frA M' (B 105) U r := by
  intro d
  induction d with
  | zero =>
    intro i hi n hn M hM hf
    obtain ⟨n, rfl⟩ : ∃ k, n = k + 1 := ⟨n - 1, by omega⟩
    refine ⟨M, ?_, hM, fun r hr => hf r (by omega)⟩
    simp (disch := omega) only [f_T_learnsFree_2, jp_c, decide_eq_true_eq, n_lit, n_neg1, n_add, n_mul, n_sub, n_div, n_mod, n_le, n_lt, n_eq, n_cl, n_in, Nat.reduceEqDiff, Nat.reduceAdd, Nat.reduceMul, ite_true, ite_false, if_true, if_false, eq_self_iff_true, ↓reduceIte, and_self, and_true, true_and, and_false, false_and, not_true_eq_false, not_false_eq_true, if_pos, if_neg]
  | succ d ih =>
    intro i hi n hn M hM hf
    obtain ⟨n, rfl⟩ : ∃ k, n = k + 1 := ⟨n - 1, by omega⟩
    obtain ⟨m, m1, m2, m3⟩ := p_ua (uF_cg (hM 2 (by decide)) (hM 5 (by decide)) rfl hu) (nI i)
    obtain ⟨M', e1, e2, e3⟩ := ih (i + 1) (by omega) n (by omega) (jp_set M 57 (upd (M 57) i (nI (255 - m)))) (fun q hq => by rw [st_ne hq, hM q hq]) (by
      intro r hr
      by_cases h : r = i
      · subst h
        exact ⟨255 - m, by omega, by rw [st_same, ud_eq rfl], fun h hh => by rw [n_invb m m1 h hh, m3 h hh, Bool.not_not]⟩
      · obtain ⟨w, w1, w2, w3⟩ := hf r (by omega)
        exact ⟨w, w1, by rw [st_same, ud_ne h, w2], w3⟩)
    refine ⟨M', ?_, e2, e3⟩
    rw [← e1]
    have hin : jp_in (nI i) 10 := by rw [n_in (by omega)]; omega
    have hge : ¬ (10 : Int32) ≤ nI i := by rw [n_lit, n_le (by omega) (by omega)]; omega
    simp only [f_T_learnsFree_2, jp_c, decide_eq_true_eq, hge, ↓reduceIte, m2, Option.bind_some, jg_t hin, n_inv m m1, n_cl (show i < 2147483648 by omega), show nI i + 1 = nI (i + 1) from n_add i 1]
theorem p_lf {A B : jp_M} {U : Nat} (hu : uF A B U) : ∃ M', f_T_learnsFree A = some M' ∧ (∀ q, ¬ q = 57 → M' q = A q) ∧ ∀ r, r < 10 → frA M' (B 105) U r :=
  l_lf hu 10 0 (by omega) jFu (jFu_lt (by omega)) A (fun _ _ => rfl) (fun r hr => by omega)
theorem p_tf {M : jp_M} {g : Nat → Int32} {U r h : Nat} (hf : frA M g U r) (hr : r < 10) (hh : h < 8) : f_T_isFree (nI r) (nI h) M = some (if fr g U (nI r) h then nI 1 else nI 0) := by
  obtain ⟨w, w1, w2, w3⟩ := hf
  have e : (nI w >>> (nI h &&& 31)) &&& (1 : Int32) = nI (if fr g U (nI r) h then 1 else 0) := by
    rw [n_shr (by omega) (by omega), show (1 : Int32) = nI 1 from rfl, n_and, n_bit, w3 h hh]
  have hr' : r ≤ 9 := by omega
  have hh' : h ≤ 7 := by omega
  have e1 : f_C_within (nI r) (9 : Int32) = nI 1 := by simp (disch := omega) only [n_within, n_lit, n_neg1, n_add, n_mul, n_sub, n_div, n_mod, n_le, n_lt, n_eq, n_cl, n_in, Nat.reduceEqDiff, Nat.reduceAdd, Nat.reduceMul, ite_true, ite_false, if_true, if_false, eq_self_iff_true, ↓reduceIte, and_self, and_true, true_and, and_false, false_and, not_true_eq_false, not_false_eq_true, if_pos, if_neg, Nat.zero_le, hr']
  have e2 : f_C_within (nI h) (7 : Int32) = nI 1 := by simp (disch := omega) only [n_within, n_lit, n_neg1, n_add, n_mul, n_sub, n_div, n_mod, n_le, n_lt, n_eq, n_cl, n_in, Nat.reduceEqDiff, Nat.reduceAdd, Nat.reduceMul, ite_true, ite_false, if_true, if_false, eq_self_iff_true, ↓reduceIte, and_self, and_true, true_and, and_false, false_and, not_true_eq_false, not_false_eq_true, if_pos, if_neg, Nat.zero_le, hh']
  have hin : jp_in (nI r) 10 := by rw [n_in (by omega)]; omega
  have e10 : ¬ nI 1 = 0 := by decide
  have e01 : ¬ nI 0 = 1 := by decide
  have e11 : nI 1 = 1 := rfl
  simp only [f_T_isFree, e1, e2, jp_c, decide_eq_true_eq, e10, ↓reduceIte, jg_t hin, n_cl (show r < 2147483648 by omega), w2, e]
  cases fr g U (nI r) h
  · simp only [Bool.false_eq_true, ↓reduceIte, e01, not_false_eq_true]; rfl
  · simp only [↓reduceIte, e11, not_true_eq_false]
theorem l_run {M B : jp_M} {U r h : Nat} (hU : U ≤ 16) (h2 : B 105 5 = nI U) (hr : r < 10) (hf : frA M (B 105) U r) : ∀ d c, h + c + d = 8 → ∀ n m, d < n → d < m → ∃ v, v ≤ 8 ∧ f_T_runUp_5 n (nI r) (nI c) (nI (h + c)) M = some (nI v) ∧ f_M_freeFrom_2 m (nI r) (nI h) (nI c) B = some (nI v) := by
  intro d
  induction d with
  | zero =>
    intro c hc n m hn hm
    obtain ⟨n, rfl⟩ : ∃ k, n = k + 1 := ⟨n - 1, by omega⟩
    obtain ⟨m, rfl⟩ : ∃ k, m = k + 1 := ⟨m - 1, by omega⟩
    refine ⟨c, by omega, ?_, ?_⟩
    · simp (disch := omega) only [f_T_runUp_5, jp_c, decide_eq_true_eq, n_lit, n_neg1, n_add, n_mul, n_sub, n_div, n_mod, n_le, n_lt, n_eq, n_cl, n_in, Nat.reduceEqDiff, Nat.reduceAdd, Nat.reduceMul, ite_true, ite_false, if_true, if_false, eq_self_iff_true, ↓reduceIte, and_self, and_true, true_and, and_false, false_and, not_true_eq_false, not_false_eq_true, if_pos, if_neg]
    · simp (disch := omega) only [f_M_freeFrom_2, jp_c, decide_eq_true_eq, n_lit, n_neg1, n_add, n_mul, n_sub, n_div, n_mod, n_le, n_lt, n_eq, n_cl, n_in, Nat.reduceEqDiff, Nat.reduceAdd, Nat.reduceMul, ite_true, ite_false, if_true, if_false, eq_self_iff_true, ↓reduceIte, and_self, and_true, true_and, and_false, false_and, not_true_eq_false, not_false_eq_true, if_pos, if_neg]
  | succ d ih =>
    intro c hc n m hn hm
    obtain ⟨n, rfl⟩ : ∃ k, n = k + 1 := ⟨n - 1, by omega⟩
    obtain ⟨m, rfl⟩ : ∃ k, m = k + 1 := ⟨m - 1, by omega⟩
    have q1 := p_tf (h := h + c) hf hr (by omega)
    have q2 := p_isFree hU h2 (nI r) (h + c)
    cases hfr : fr (B 105) U (nI r) (h + c)
    · refine ⟨c, by omega, ?_, ?_⟩
      · simp (disch := omega) only [f_T_runUp_5, jp_c, decide_eq_true_eq, n_lit, n_neg1, n_add, n_mul, n_sub, n_div, n_mod, n_le, n_lt, n_eq, n_cl, n_in, Nat.reduceEqDiff, Nat.reduceAdd, Nat.reduceMul, ite_true, ite_false, if_true, if_false, eq_self_iff_true, ↓reduceIte, and_self, and_true, true_and, and_false, false_and, not_true_eq_false, not_false_eq_true, if_pos, if_neg, q1, hfr, Option.bind_some, Bool.false_eq_true]
      · simp (disch := omega) only [f_M_freeFrom_2, jp_c, decide_eq_true_eq, n_lit, n_neg1, n_add, n_mul, n_sub, n_div, n_mod, n_le, n_lt, n_eq, n_cl, n_in, Nat.reduceEqDiff, Nat.reduceAdd, Nat.reduceMul, ite_true, ite_false, if_true, if_false, eq_self_iff_true, ↓reduceIte, and_self, and_true, true_and, and_false, false_and, not_true_eq_false, not_false_eq_true, if_pos, if_neg, q2, hfr, Option.bind_some, Bool.false_eq_true]
    · obtain ⟨v, e0, e1, e2⟩ := ih (c + 1) (by omega) n m (by omega) (by omega)
      refine ⟨v, e0, ?_, ?_⟩
      · rw [← e1]
        simp (disch := omega) only [f_T_runUp_5, jp_c, decide_eq_true_eq, n_lit, n_neg1, n_add, n_mul, n_sub, n_div, n_mod, n_le, n_lt, n_eq, n_cl, n_in, Nat.reduceEqDiff, Nat.reduceAdd, Nat.reduceMul, ite_true, ite_false, if_true, if_false, eq_self_iff_true, ↓reduceIte, and_self, and_true, true_and, and_false, false_and, not_true_eq_false, not_false_eq_true, if_pos, if_neg, q1, hfr, Option.bind_some]
        rw [show h + c + 1 = h + (c + 1) by omega]
      · rw [← e2]
        simp (disch := omega) only [f_M_freeFrom_2, jp_c, decide_eq_true_eq, n_lit, n_neg1, n_add, n_mul, n_sub, n_div, n_mod, n_le, n_lt, n_eq, n_cl, n_in, Nat.reduceEqDiff, Nat.reduceAdd, Nat.reduceMul, ite_true, ite_false, if_true, if_false, eq_self_iff_true, ↓reduceIte, and_self, and_true, true_and, and_false, false_and, not_true_eq_false, not_false_eq_true, if_pos, if_neg, q2, hfr, Option.bind_some]
theorem p_run {M B : jp_M} {U r h : Nat} (hU : U ≤ 16) (h2 : B 105 5 = nI U) (hr : r < 10) (hh : h ≤ 8) (hf : frA M (B 105) U r) : ∃ v, v ≤ 8 ∧ f_T_runUp (nI r) (nI h) M = some (nI v) ∧ f_M_freeFrom (nI r) (nI h) B = some (nI v) :=
  l_run hU h2 hr hf (8 - h) 0 (by omega) jFu jFu (jFu_lt (by omega)) (jFu_lt (by omega))
theorem p_upright (a b : Int32) {A B : jp_M} (hR : Rel A B) : pOK (f_C_upright a b A) (f_M_upright a b B) := by
  have T := Rel_told (x := nI 0) hR
  generalize hB1 : jp_set B 104 (upd (B 104) 0 (nI 0)) = B1 at T
  have hT := T
  obtain ⟨⟨hW, hBk, hLw, hPe, hLe, hCi, hWi, hKi, hPo, hWy, hVo⟩, hPic, hKe, hTa, hFa, hTh, hWd⟩ := T
  obtain ⟨U, hu⟩ := uF_rel hW
  obtain ⟨⟨⟨e0, e1, e2, e3, e4, e5, e6⟩, eP, eB, eR⟩, nW⟩ := hW
  obtain ⟨P, S, U', hP, hS, hU, f4, f5, f6, nP, nB, nR⟩ := nW
  have g6 : B1 104 6 = nI P := by rw [← e4, f4]
  by_cases h1 : nI 0 ≤ a ∧ a < nI P
  · by_cases h2 : nI 0 ≤ b ∧ b ≤ nI 1
    · obtain ⟨x, hx, rfl⟩ := n_rngl (by omega) h1
      obtain ⟨t, y, s, ht, hy, hs, t1, y1, s1⟩ := nP x (by omega)
      obtain ⟨c1, -, c3, c4, -⟩ := eP x (by omega)
      obtain ⟨A', m1, m2, m3⟩ := p_lf hu
      obtain ⟨v, v0, v1, v2⟩ := p_run (h := 0) hu.1 hu.2.2.1 (show y < 10 by omega) (by omega) (m3 y (by omega))
      have y2 : B1 109 x = nI y := by rw [← c3, y1]
      have t2 : B1 108 x = nI t := by rw [← c1, t1]
      have s2 : B1 105 (26 + x) = nI s := by rw [← c4, s1]
      have a3 := m2 3 (by decide)
      have r1 : f_C_upright (nI x) b A = some (if b = nI 0 then nI v else if v < t - s then nI 0 else nI 1, A') := by
        by_cases hb : b = nI 0
        · simp (disch := omega) only [f_C_upright, f_T_freeFromGround, n_hasP, n_within, n_it0, jp_c, decide_eq_true_eq, n_lit, n_neg1, n_add, n_mul, n_le, n_lt, n_eq, n_cl, n_in, Nat.reduceEqDiff, Nat.reduceAdd, Nat.reduceMul, ite_true, ite_false, if_true, if_false, eq_self_iff_true, ↓reduceIte, and_self, and_true, true_and, and_false, false_and, not_true_eq_false, not_false_eq_true, if_pos, if_neg, Nat.zero_le, Nat.add_zero, hx, h2, f4, jg_t, y1, m1, v1, Option.bind_some, hb]
        · by_cases hv : v < t - s
          · simp (disch := omega) only [f_C_upright, f_T_freeFromGround, n_hasP, n_within, n_it0, jp_c, decide_eq_true_eq, n_lit, n_neg1, n_add, n_mul, n_le, n_lt, n_eq, n_cl, n_in, Nat.reduceEqDiff, Nat.reduceAdd, Nat.reduceMul, ite_true, ite_false, if_true, if_false, eq_self_iff_true, ↓reduceIte, and_self, and_true, true_and, and_false, false_and, not_true_eq_false, not_false_eq_true, if_pos, if_neg, Nat.zero_le, Nat.add_zero, hx, h2, f4, jg_t, y1, m1, v1, Option.bind_some, hb, a3, t1, s1, n_m0s, hv]
          · simp (disch := omega) only [f_C_upright, f_T_freeFromGround, n_hasP, n_within, n_it0, jp_c, decide_eq_true_eq, n_lit, n_neg1, n_add, n_mul, n_le, n_lt, n_eq, n_cl, n_in, Nat.reduceEqDiff, Nat.reduceAdd, Nat.reduceMul, ite_true, ite_false, if_true, if_false, eq_self_iff_true, ↓reduceIte, and_self, and_true, true_and, and_false, false_and, not_true_eq_false, not_false_eq_true, if_pos, if_neg, Nat.zero_le, Nat.add_zero, hx, h2, f4, jg_t, y1, m1, v1, Option.bind_some, hb, a3, t1, s1, n_m0s, hv]
      have r2 : f_M_upright (nI x) b B = some (if b = nI 0 then nI v else if v < t - s then nI 0 else nI 1, B1) := by
        by_cases hb : b = nI 0
        · simp (disch := omega) only [f_M_upright, hB1, n_isP, n_isIn, n_it0, jp_c, decide_eq_true_eq, n_lit, n_neg1, n_add, n_mul, n_le, n_lt, n_eq, n_cl, n_in, Nat.reduceEqDiff, Nat.reduceAdd, Nat.reduceMul, ite_true, ite_false, if_true, if_false, eq_self_iff_true, ↓reduceIte, and_self, and_true, true_and, and_false, false_and, not_true_eq_false, not_false_eq_true, if_pos, if_neg, Nat.zero_le, Nat.le_refl, Nat.reduceLeDiff, hx, h2, g6, jg_t, y2, v2, Option.bind_some, hb]
        · by_cases hv : v < t - s
          · simp (disch := omega) only [f_M_upright, hB1, n_isP, n_isIn, n_it0, jp_c, decide_eq_true_eq, n_lit, n_neg1, n_add, n_mul, n_le, n_lt, n_eq, n_cl, n_in, Nat.reduceEqDiff, Nat.reduceAdd, Nat.reduceMul, ite_true, ite_false, if_true, if_false, eq_self_iff_true, ↓reduceIte, and_self, and_true, true_and, and_false, false_and, not_true_eq_false, not_false_eq_true, if_pos, if_neg, Nat.zero_le, hx, h2, g6, jg_t, y2, v2, Option.bind_some, hb, t2, s2, n_gr, n_m0s, hv]
          · simp (disch := omega) only [f_M_upright, hB1, n_isP, n_isIn, n_it0, jp_c, decide_eq_true_eq, n_lit, n_neg1, n_add, n_mul, n_le, n_lt, n_eq, n_cl, n_in, Nat.reduceEqDiff, Nat.reduceAdd, Nat.reduceMul, ite_true, ite_false, if_true, if_false, eq_self_iff_true, ↓reduceIte, and_self, and_true, true_and, and_false, false_and, not_true_eq_false, not_false_eq_true, if_pos, if_neg, Nat.zero_le, hx, h2, g6, jg_t, y2, v2, Option.bind_some, hb, t2, s2, n_gr, n_m0s, hv]
      rw [r1, r2]
      refine pOK_mk rfl (Rel_scA (fun p hp => m2 p ?_) hT)
      rintro rfl; exact hp (by decide)
    · simp (disch := omega) only [f_C_upright, f_M_upright, hB1, n_hasP, n_isP, n_within, n_isIn, n_it0, jp_c, decide_eq_true_eq, n_lit, n_neg1, n_add, n_mul, n_sub, n_div, n_mod, n_le, n_lt, n_eq, n_cl, n_in, Nat.reduceEqDiff, Nat.reduceAdd, Nat.reduceMul, ite_true, ite_false, if_true, if_false, eq_self_iff_true, ↓reduceIte, and_self, and_true, true_and, and_false, false_and, not_true_eq_false, not_false_eq_true, if_pos, if_neg, h1, h2, f4, g6]
      exact pOK_mk rfl hT
  · simp (disch := omega) only [f_C_upright, f_M_upright, hB1, n_hasP, n_isP, n_within, n_isIn, n_it0, jp_c, decide_eq_true_eq, n_lit, n_neg1, n_add, n_mul, n_sub, n_div, n_mod, n_le, n_lt, n_eq, n_cl, n_in, Nat.reduceEqDiff, Nat.reduceAdd, Nat.reduceMul, ite_true, ite_false, if_true, if_false, eq_self_iff_true, ↓reduceIte, and_self, and_true, true_and, and_false, false_and, not_true_eq_false, not_false_eq_true, if_pos, if_neg, h1, f4, g6]
    exact pOK_mk rfl hT
