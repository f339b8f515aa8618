def sub (a b : Nat) : Prop := ∀ k, a.testBit k = true → b.testBit k = true
theorem sub_eq {a b : Nat} (h1 : sub a b) (h2 : sub b a) : a = b := by
  apply Nat.eq_of_testBit_eq
  intro k
  rw [Bool.eq_iff_iff]
  exact ⟨h1 k, h2 k⟩
/-- how many of the first n bits -/
def bc (s : Nat) : Nat → Nat
  | 0 => 0
  | n + 1 => bc s n + (if s.testBit n then 1 else 0)
theorem bc_n (s : Nat) : ∀ n, bc s n ≤ n := by
  intro n
  induction n with
  | zero => exact Nat.le_refl _
  | succ n ih => rw [bc]; split <;> omega
theorem bc_le {a b : Nat} (h : sub a b) : ∀ n, bc a n ≤ bc b n := by
  intro n
  induction n with
  | zero => exact Nat.le_refl _
  | succ n ih =>
    rw [bc, bc]
    by_cases h1 : a.testBit n = true
    · rw [if_pos h1, if_pos (h n h1)]; omega
    · rw [if_neg h1]; omega
theorem bc_lt {a b k : Nat} (h : sub a b) (h1 : b.testBit k = true) (h2 : ¬ a.testBit k = true) : ∀ n, k < n → bc a n < bc b n := by
  intro n
  induction n with
  | zero => intro h; omega
  | succ n ih =>
    intro hk
    rw [bc, bc]
    by_cases hkn : k = n
    · subst hkn
      have := bc_le h k
      rw [if_neg h2, if_pos h1]; omega
    · have := ih (by omega)
      by_cases h3 : a.testBit n = true
      · rw [if_pos h3, if_pos (h n h3)]; omega
      · rw [if_neg h3]; omega
theorem lt16 {s k : Nat} (hs : s < 65536) (h : s.testBit k = true) : k < 16 := by
  by_cases hk : k < 16
  · exact hk
  · rw [Nat.testBit_lt_two_pow (Nat.lt_of_lt_of_le hs (Nat.pow_le_pow_right (n := 2) (i := 16) (by omega) (by omega)))] at h
    exact absurd h (by decide)
theorem bc_grow {a b : Nat} (hb : b < 65536) (h : sub a b) (hne : ¬ a = b) : bc a 16 < bc b 16 := by
  apply Classical.byContradiction
  intro hn
  apply hne
  refine sub_eq h (fun k hk => ?_)
  apply Classical.byContradiction
  intro h2
  exact hn (bc_lt h hk h2 16 (lt16 hb hk))
theorem bc_pos {a : Nat} (ha : a < 65536) (h : ¬ a = 0) : 0 < bc a 16 := by
  have : bc 0 16 < bc a 16 := bc_grow ha (fun k hk => by rw [Nat.zero_testBit] at hk; exact absurd hk (by decide)) (fun h' => h h'.symm)
  omega
def clo (F : Nat → Nat) (C : Nat) : Prop := ∀ i, i < 16 → C.testBit i = true → sub (F i) C
/-- what follows: the class's round -/
theorem l_fr1 {M : jp_M} {F : Nat → Nat} (hF : ∀ i, i < 16 → F i < 65536 ∧ M 65 i = nI (F i)) (c9 : Int32 → Int32 → jp_M → Option (Int32 × jp_M)) {t : Nat} :
    ∀ d i, i + d = 16 → ∀ n, d < n → ∀ S, S < 65536 → ∃ S', S' < 65536 ∧ f_TT_founds_22 n c9 (nI S) (nI t) (nI i) M = c9 (nI S') (nI (t + 1)) M ∧ sub S S' ∧ (∀ k, i ≤ k → k < 16 → S.testBit k = true → sub (F k) S') ∧ ∀ C, clo F C → sub S C → sub S' C := by
  intro d
  induction d with
  | zero =>
    intro i hi n hn S hS
    obtain ⟨n, rfl⟩ : ∃ k, n = k + 1 := ⟨n - 1, by omega⟩
    refine ⟨S, hS, ?_, fun _ h => h, fun k h1 h2 => by omega, fun C _ h => h⟩
    simp (disch := omega) only [f_TT_founds_22, jp_c, decide_eq_true_eq, n_lit, n_add, n_le, Nat.reduceEqDiff, Nat.reduceAdd, Nat.reduceMul, ite_true, ite_false, if_true, if_false, eq_self_iff_true, ↓reduceIte, and_self, and_true, true_and, and_false, false_and, not_true_eq_false, not_false_eq_true, if_pos, if_neg]
  | succ d ih =>
    intro i hi n hn S hS
    obtain ⟨n, rfl⟩ : ∃ k, n = k + 1 := ⟨n - 1, by omega⟩
    have b1 := n_btI (s := S) (k := i) (by omega) (by omega)
    obtain ⟨f1, f2⟩ := hF i (by omega)
    rcases Bool.eq_false_or_eq_true (S.testBit i) with hb | hb
    · rw [hb] at b1
      obtain ⟨S', s1, s2, s3, s4, s5⟩ := ih (i + 1) (by omega) n (by omega) (S ||| F i) (Nat.or_lt_two_pow (n := 16) hS f1)
      have hsub : sub S (S ||| F i) := fun k hk => by rw [Nat.testBit_or, hk, Bool.true_or]
      refine ⟨S', s1, ?_, fun k hk => s3 k (hsub k hk), ?_, ?_⟩
      · rw [← s2]
        simp (disch := omega) only [f_TT_founds_22, f_TT_founds_49, jp_c, decide_eq_true_eq, n_lit, n_add, n_le, n_eq, n_in, n_cl, n_or, Nat.reduceEqDiff, Nat.reduceAdd, Nat.reduceMul, ite_true, ite_false, if_true, if_false, eq_self_iff_true, ↓reduceIte, and_self, and_true, true_and, and_false, false_and, not_true_eq_false, not_false_eq_true, if_pos, if_neg, b1, f2, jg_t]
      · intro k h1 h2 h3
        by_cases hk : k = i
        · subst hk
          intro x hx
          exact s3 x (by rw [Nat.testBit_or, hx, Bool.or_true])
        · exact s4 k (by omega) h2 (hsub k h3)
      · intro C hC hSC
        refine s5 C hC (fun k hk => ?_)
        rw [Nat.testBit_or, Bool.or_eq_true] at hk
        rcases hk with hk | hk
        · exact hSC k hk
        · exact hC i (by omega) (hSC i hb) k hk
    · rw [hb] at b1
      obtain ⟨S', s1, s2, s3, s4, s5⟩ := ih (i + 1) (by omega) n (by omega) S hS
      refine ⟨S', s1, ?_, s3, ?_, s5⟩
      · rw [← s2]
        simp (disch := omega) only [f_TT_founds_22, f_TT_founds_49, jp_c, decide_eq_true_eq, n_lit, n_add, n_le, n_eq, Nat.reduceEqDiff, Nat.reduceAdd, Nat.reduceMul, ite_true, ite_false, if_true, if_false, eq_self_iff_true, ↓reduceIte, and_self, and_true, true_and, and_false, false_and, not_true_eq_false, not_false_eq_true, if_pos, if_neg, b1, Bool.false_eq_true]
      · intro k h1 h2 h3
        by_cases hk : k = i
        · subst hk; rw [hb] at h3; exact absurd h3 (by decide)
        · exact s4 k (by omega) h2 h3
theorem l_fr2 {M : jp_M} {F : Nat → Nat} (hF : ∀ i, i < 16 → F i < 65536 ∧ M 65 i = nI (F i)) :
    ∀ d t, t + d = 16 → ∀ n, d < n → ∀ S, S < 65536 → (clo F S ∨ t + 1 ≤ bc S 16) → ∃ R, R < 65536 ∧ f_TT_founds_13 n (nI S) (nI t) M = some (nI R, M) ∧ sub S R ∧ clo F R ∧ ∀ C, clo F C → sub S C → sub R C := by
  intro d
  induction d with
  | zero =>
    intro t ht n hn S hS hc
    obtain ⟨n, rfl⟩ : ∃ k, n = k + 1 := ⟨n - 1, by omega⟩
    refine ⟨S, hS, ?_, fun _ h => h, ?_, fun C _ h => h⟩
    · simp (disch := omega) only [f_TT_founds_13, jp_c, decide_eq_true_eq, n_lit, n_le, Nat.reduceEqDiff, Nat.reduceAdd, Nat.reduceMul, ite_true, ite_false, if_true, if_false, eq_self_iff_true, ↓reduceIte, and_self, and_true, true_and, and_false, false_and, not_true_eq_false, not_false_eq_true, if_pos, if_neg]
    · rcases hc with hc | hc
      · exact hc
      · have := bc_n S 16; omega
  | succ d ih =>
    intro t ht n hn S hS hc
    obtain ⟨n, rfl⟩ : ∃ k, n = k + 1 := ⟨n - 1, by omega⟩
    obtain ⟨S', s1, s2, s3, s4, s5⟩ := l_fr1 hF (f_TT_founds_13 n) (t := t) 16 0 (by omega) jFu (jFu_lt (by omega)) S hS
    obtain ⟨R, r1, r2, r3, r4, r5⟩ := ih (t + 1) (by omega) n (by omega) S' s1 (by
      by_cases he : S = S'
      · left
        rw [← he]
        intro i hi hb
        have := s4 i (by omega) hi hb
        rw [← he] at this
        exact this
      · rcases hc with hc | hc
        · exact absurd (sub_eq s3 (s5 S hc (fun _ h => h))) he
        · have := bc_grow s1 s3 he
          right; omega)
    refine ⟨R, r1, ?_, fun k hk => r3 k (s3 k hk), r4, fun C hC hS' => r5 C hC (s5 C hC hS')⟩
    rw [← r2, ← s2]
    simp (disch := omega) only [f_TT_founds_13, jp_c, decide_eq_true_eq, n_lit, n_le, Nat.reduceEqDiff, Nat.reduceAdd, Nat.reduceMul, ite_true, ite_false, if_true, if_false, eq_self_iff_true, ↓reduceIte, and_self, and_true, true_and, and_false, false_and, not_true_eq_false, not_false_eq_true, if_pos, if_neg]
/-- the reference's step -/
theorem l_fb {B : jp_M} {m : Nat → Nat} (hm : ∀ i, i < 16 → m i < 65536 ∧ B 124 i = nI (m i)) {S : Nat} (hS : S < 65536) :
    ∀ d c, c + d = 16 → ∀ n, d < n → ∀ g, g < 65536 → ∃ g', g' < 65536 ∧ f_M_foundedBy_4 n (nI S) (nI g) (nI c) B = some (nI g') ∧ ∀ k, (g'.testBit k = true ↔ g.testBit k = true ∨ (c ≤ k ∧ k < 16 ∧ ¬ m k &&& S = 0)) := by
  intro d
  induction d with
  | zero =>
    intro c hc n hn g hg
    obtain ⟨n, rfl⟩ : ∃ k, n = k + 1 := ⟨n - 1, by omega⟩
    refine ⟨g, hg, ?_, fun k => ⟨Or.inl, ?_⟩⟩
    · simp (disch := omega) only [f_M_foundedBy_4, jp_c, decide_eq_true_eq, n_lit, n_le, Nat.reduceEqDiff, Nat.reduceAdd, Nat.reduceMul, ite_true, ite_false, if_true, if_false, eq_self_iff_true, ↓reduceIte, and_self, and_true, true_and, and_false, false_and, not_true_eq_false, not_false_eq_true, if_pos, if_neg]
    · rintro (h | ⟨h1, h2, -⟩)
      · exact h
      · omega
  | succ d ih =>
    intro c hc n hn g hg
    obtain ⟨n, rfl⟩ : ∃ k, n = k + 1 := ⟨n - 1, by omega⟩
    obtain ⟨m1, m2⟩ := hm c (by omega)
    have an : nI (m c) &&& nI S = nI (m c &&& S) := n_and _ _
    have al : m c &&& S < 65536 := Nat.lt_of_le_of_lt Nat.and_le_left m1
    by_cases h : m c &&& S = 0
    · obtain ⟨g', g1, g2, g3⟩ := ih (c + 1) (by omega) n (by omega) g hg
      refine ⟨g', g1, ?_, fun k => ?_⟩
      · rw [← g2]
        simp (disch := omega) only [f_M_foundedBy_4, f_M_foundedBy_27, jp_c, decide_eq_true_eq, n_lit, n_add, n_le, n_eq, n_in, n_cl, Nat.reduceEqDiff, Nat.reduceAdd, Nat.reduceMul, ite_true, ite_false, if_true, if_false, eq_self_iff_true, ↓reduceIte, and_self, and_true, true_and, and_false, false_and, not_true_eq_false, not_false_eq_true, if_pos, if_neg, m2, an, h, jg_t]
      · rw [g3]
        constructor
        · rintro (h' | ⟨h1, h2⟩)
          · exact Or.inl h'
          · exact Or.inr ⟨by omega, h2⟩
        · rintro (h' | ⟨h1, h2, h3⟩)
          · exact Or.inl h'
          · by_cases hk : k = c
            · subst hk; exact absurd h h3
            · exact Or.inr ⟨by omega, h2, h3⟩
    · have sl := n_slI (k := c) (by omega)
      have p2 : 2 ^ c < 65536 := Nat.pow_lt_pow_right (m := c) (n := 16) (by omega) (by omega)
      obtain ⟨g', g1, g2, g3⟩ := ih (c + 1) (by omega) n (by omega) (g ||| 2 ^ c) (Nat.or_lt_two_pow (n := 16) hg p2)
      refine ⟨g', g1, ?_, fun k => ?_⟩
      · rw [← g2]
        simp (disch := omega) only [f_M_foundedBy_4, f_M_foundedBy_27, jp_c, decide_eq_true_eq, n_lit, n_add, n_le, n_eq, n_in, n_cl, n_or, Nat.reduceEqDiff, Nat.reduceAdd, Nat.reduceMul, ite_true, ite_false, if_true, if_false, eq_self_iff_true, ↓reduceIte, and_self, and_true, true_and, and_false, false_and, not_true_eq_false, not_false_eq_true, if_pos, if_neg, m2, an, h, sl, jg_t]
      · rw [g3, Nat.testBit_or, Bool.or_eq_true, Nat.testBit_two_pow, decide_eq_true_eq]
        constructor
        · rintro ((h' | rfl) | ⟨h1, h2⟩)
          · exact Or.inl h'
          · exact Or.inr ⟨by omega, by omega, h⟩
          · exact Or.inr ⟨by omega, h2⟩
        · rintro (h' | ⟨h1, h2, h3⟩)
          · exact Or.inl (Or.inl h')
          · by_cases hk : k = c
            · exact Or.inl (Or.inr hk.symm)
            · exact Or.inr ⟨by omega, h2, h3⟩
theorem and_ne {a b : Nat} (ha : a < 65536) : ¬ a &&& b = 0 ↔ ∃ i, i < 16 ∧ a.testBit i = true ∧ b.testBit i = true := by
  constructor
  · intro h
    apply Classical.byContradiction
    intro hn
    apply h
    apply Nat.eq_of_testBit_eq
    intro k
    rw [Nat.testBit_and, Nat.zero_testBit]
    rcases Bool.eq_false_or_eq_true (a.testBit k) with h1 | h1
    · rcases Bool.eq_false_or_eq_true (b.testBit k) with h2 | h2
      · exact absurd ⟨k, lt16 ha h1, h1, h2⟩ hn
      · rw [h2, Bool.and_false]
    · rw [h1, Bool.false_and]
  · rintro ⟨i, -, h1, h2⟩ h
    have := congrArg (fun z => Nat.testBit z i) h
    simp only [Nat.testBit_and, Nat.zero_testBit, h1, h2] at this
    exact absurd this (by decide)
theorem p_fb {B : jp_M} {m F : Nat → Nat} (hm : ∀ i, i < 16 → m i < 65536 ∧ B 124 i = nI (m i)) (hmF : ∀ i c, i < 16 → c < 16 → ((F i).testBit c = true ↔ (m c).testBit i = true)) {S : Nat} (hS : S < 65536) : ∃ g, g < 65536 ∧ f_M_foundedBy (nI S) B = some (nI g) ∧ ∀ k, (g.testBit k = true ↔ k < 16 ∧ ∃ i, i < 16 ∧ S.testBit i = true ∧ (F i).testBit k = true) := by
  obtain ⟨g, g1, g2, g3⟩ := l_fb hm hS 16 0 (by omega) jFu (jFu_lt (by omega)) 0 (by omega)
  refine ⟨g, g1, g2, fun k => ?_⟩
  rw [g3, Nat.zero_testBit]
  constructor
  · rintro (h | ⟨-, h2, h3⟩)
    · exact absurd h (by decide)
    · rw [and_ne (hm k h2).1] at h3
      obtain ⟨i, i1, i2, i3⟩ := h3
      exact ⟨h2, i, i1, i3, (hmF i k i1 h2).2 i2⟩
  · rintro ⟨h2, i, i1, i2, i3⟩
    refine Or.inr ⟨by omega, h2, ?_⟩
    rw [and_ne (hm k h2).1]
    exact ⟨i, i1, (hmF i k i1 h2).1 i3, i2⟩
theorem l_fm {B : jp_M} {m F : Nat → Nat} (hm : ∀ i, i < 16 → m i < 65536 ∧ B 124 i = nI (m i)) (hFl : ∀ i, i < 16 → F i < 65536) (hmF : ∀ i c, i < 16 → c < 16 → ((F i).testBit c = true ↔ (m c).testBit i = true)) :
    ∀ k, ∀ S, S < 65536 → 16 - bc S 16 ≤ k → ∀ w : Int32, (w = nI S → clo F S) → ∀ n, k + 2 ≤ n → ∃ R, R < 65536 ∧ f_M_founds_10 n (nI S) w B = some (nI R) ∧ sub S R ∧ clo F R ∧ ∀ C, clo F C → sub S C → sub R C := by
  intro k
  induction k with
  | zero =>
    intro S hS hk w hw n hn
    obtain ⟨n, rfl⟩ : ∃ z, n = z + 1 + 1 := ⟨n - 2, by omega⟩
    by_cases hw' : w = nI S
    · refine ⟨S, hS, ?_, fun _ h => h, hw hw', fun C _ h => h⟩
      generalize n + 1 = z
      simp (disch := omega) only [f_M_founds_10, jp_c, decide_eq_true_eq, hw', Nat.reduceEqDiff, Nat.reduceAdd, Nat.reduceMul, ite_true, ite_false, if_true, if_false, eq_self_iff_true, ↓reduceIte, and_self, and_true, true_and, and_false, false_and, not_true_eq_false, not_false_eq_true, if_pos, if_neg]
    · obtain ⟨g, g1, g2, g3⟩ := p_fb hm hmF hS
      have hcl : S ||| g = S := by
        apply Classical.byContradiction
        intro hne
        have h1 : sub S (S ||| g) := fun x hx => by rw [Nat.testBit_or, hx, Bool.true_or]
        have := bc_grow (Nat.or_lt_two_pow (n := 16) hS g1) h1 (fun h => hne h.symm)
        have := bc_n (S ||| g) 16
        omega
      have hc : clo F S := by
        intro i hi hb x hx
        have : (S ||| g).testBit x = true := by
          rw [Nat.testBit_or, (g3 x).2 ⟨lt16 (hFl i hi) hx, i, hi, hb, hx⟩, Bool.or_true]
        rw [hcl] at this
        exact this
      refine ⟨S, hS, ?_, fun _ h => h, hc, fun C _ h => h⟩
      have e1 : f_M_founds_10 (n + 1 + 1) (nI S) w B = f_M_founds_10 (n + 1) (nI S) (nI S) B := by
        generalize n + 1 = z
        simp (disch := omega) only [f_M_founds_10, jp_c, decide_eq_true_eq, hw', Nat.reduceEqDiff, Nat.reduceAdd, Nat.reduceMul, ite_true, ite_false, if_true, if_false, eq_self_iff_true, ↓reduceIte, and_self, and_true, true_and, and_false, false_and, not_true_eq_false, not_false_eq_true, if_pos, if_neg, g2, n_or, hcl, Option.bind_some]
      rw [e1]
      simp (disch := omega) only [f_M_founds_10, jp_c, decide_eq_true_eq, Nat.reduceEqDiff, Nat.reduceAdd, Nat.reduceMul, ite_true, ite_false, if_true, if_false, eq_self_iff_true, ↓reduceIte, and_self, and_true, true_and, and_false, false_and, not_true_eq_false, not_false_eq_true, if_pos, if_neg]
  | succ k ih =>
    intro S hS hk w hw n hn
    obtain ⟨n, rfl⟩ : ∃ z, n = z + 1 := ⟨n - 1, by omega⟩
    by_cases hw' : w = nI S
    · refine ⟨S, hS, ?_, fun _ h => h, hw hw', fun C _ h => h⟩
      simp (disch := omega) only [f_M_founds_10, jp_c, decide_eq_true_eq, hw', Nat.reduceEqDiff, Nat.reduceAdd, Nat.reduceMul, ite_true, ite_false, if_true, if_false, eq_self_iff_true, ↓reduceIte, and_self, and_true, true_and, and_false, false_and, not_true_eq_false, not_false_eq_true, if_pos, if_neg]
    · obtain ⟨g, g1, g2, g3⟩ := p_fb hm hmF hS
      have h1 : sub S (S ||| g) := fun x hx => by rw [Nat.testBit_or, hx, Bool.true_or]
      have ol := Nat.or_lt_two_pow (n := 16) hS g1
      have e1 : f_M_founds_10 (n + 1) (nI S) w B = f_M_founds_10 n (nI (S ||| g)) (nI S) B := by
        simp (disch := omega) only [f_M_founds_10, jp_c, decide_eq_true_eq, hw', Nat.reduceEqDiff, Nat.reduceAdd, Nat.reduceMul, ite_true, ite_false, if_true, if_false, eq_self_iff_true, ↓reduceIte, and_self, and_true, true_and, and_false, false_and, not_true_eq_false, not_false_eq_true, if_pos, if_neg, g2, n_or, Option.bind_some]
      have hgC : ∀ C, clo F C → sub S C → sub (S ||| g) C := by
        intro C hC hSC x hx
        rw [Nat.testBit_or, Bool.or_eq_true] at hx
        rcases hx with hx | hx
        · exact hSC x hx
        · obtain ⟨-, i, i1, i2, i3⟩ := (g3 x).1 hx
          exact hC i i1 (hSC i i2) x i3
      by_cases hcl : S ||| g = S
      · have hc : clo F S := by
          intro i hi hb x hx
          have : (S ||| g).testBit x = true := by
            rw [Nat.testBit_or, (g3 x).2 ⟨lt16 (hFl i hi) hx, i, hi, hb, hx⟩, Bool.or_true]
          rw [hcl] at this
          exact this
        refine ⟨S, hS, ?_, fun _ h => h, hc, fun C _ h => h⟩
        rw [e1, hcl]
        obtain ⟨n, rfl⟩ : ∃ k, n = k + 1 := ⟨n - 1, by omega⟩
        simp (disch := omega) only [f_M_founds_10, jp_c, decide_eq_true_eq, Nat.reduceEqDiff, Nat.reduceAdd, Nat.reduceMul, ite_true, ite_false, if_true, if_false, eq_self_iff_true, ↓reduceIte, and_self, and_true, true_and, and_false, false_and, not_true_eq_false, not_false_eq_true, if_pos, if_neg]
      · have hgr := bc_grow ol h1 (fun h => hcl h.symm)
        obtain ⟨R, r1, r2, r3, r4, r5⟩ := ih (S ||| g) ol (by omega) (nI S) (by
          intro h
          rw [n_eq (by omega) (by omega)] at h
          exact absurd h.symm hcl) n (by omega)
        exact ⟨R, r1, by rw [e1, r2], fun x hx => r3 x (h1 x hx), r4, fun C hC hSC => r5 C hC (hgC C hC hSC)⟩
/-- the class learns the cites: cleared -/
theorem l_lc1 {A : jp_M} : ∀ d i, i + d = 16 → ∀ n, d < n → ∀ M, (∀ q, ¬ q = 65 → ¬ q = 66 → M q = A q) → (∀ k, k < i → M 65 k = nI 0 ∧ M 66 k = nI 0) → ∃ M', f_TT_learnsCites_2 n (nI i) M = f_TT_learnsCites_30 jFu (nI 0) M' ∧ (∀ q, ¬ q = 65 → ¬ q = 66 → M' q = A q) ∧ ∀ k, k < 16 → M' 65 k = nI 0 ∧ M' 66 k = nI 0 := by
  intro d
  induction d with
  | zero =>
    intro i hi n hn M hM hk
    obtain ⟨n, rfl⟩ : ∃ k, n = k + 1 := ⟨n - 1, by omega⟩
    refine ⟨M, ?_, hM, fun k h => hk k (by omega)⟩
    simp (disch := omega) only [f_TT_learnsCites_2, jp_c, decide_eq_true_eq, n_lit, n_le, Nat.reduceEqDiff, Nat.reduceAdd, Nat.reduceMul, ite_true, ite_false, if_true, if_false, eq_self_iff_true, ↓reduceIte, and_self, and_true, true_and, and_false, false_and, not_true_eq_false, not_false_eq_true, if_pos, if_neg]
  | succ d ih =>
    intro i hi n hn M hM hk
    obtain ⟨n, rfl⟩ : ∃ k, n = k + 1 := ⟨n - 1, by omega⟩
    obtain ⟨M', e1, e2, e3⟩ := ih (i + 1) (by omega) n (by omega) (jp_set (jp_set M 65 (upd (M 65) i (nI 0))) 66 (upd (M 66) i (nI 0))) (fun q q1 q2 => by rw [st_ne q2, st_ne q1, hM q q1 q2]) (by
      intro k hk'
      rw [st_ne (by decide), st_same, st_same]
      by_cases h : k = i
      · rw [ud_eq h, ud_eq h]; exact ⟨rfl, rfl⟩
      · rw [ud_ne h, ud_ne h]; exact hk k (by omega))
    refine ⟨M', ?_, e2, e3⟩
    rw [← e1]
    simp (disch := omega) only [f_TT_learnsCites_2, jp_c, decide_eq_true_eq, n_lit, n_add, n_le, n_in, n_cl, Nat.reduceEqDiff, Nat.reduceAdd, Nat.reduceMul, ite_true, ite_false, if_true, if_false, eq_self_iff_true, ↓reduceIte, and_self, and_true, true_and, and_false, false_and, not_true_eq_false, not_false_eq_true, if_pos, if_neg, jg_t, st_ap]
theorem l_lc2 {A : jp_M} {N : Nat} {xs ys : Nat → Nat} (hN : N ≤ 16) (h17 : A 17 0 = nI N) (hr : ∀ k, k < N → xs k < 16 ∧ ys k < 16 ∧ A 18 (2 * k) = nI (xs k) ∧ A 18 (2 * k + 1) = nI (ys k)) :
    ∀ d i, i + d = N → ∀ n, d < n → ∀ M (f g : Nat → Nat), (∀ q, ¬ q = 65 → ¬ q = 66 → M q = A q) → (∀ k, k < 16 → f k < 65536 ∧ g k < 65536 ∧ M 65 k = nI (f k) ∧ M 66 k = nI (g k)) →
    ∃ (M' : jp_M) (f' g' : Nat → Nat), f_TT_learnsCites_30 n (nI i) M = some M' ∧ (∀ q, ¬ q = 65 → ¬ q = 66 → M' q = A q) ∧ (∀ k, k < 16 → f' k < 65536 ∧ g' k < 65536 ∧ M' 65 k = nI (f' k) ∧ M' 66 k = nI (g' k)) ∧
      (∀ a b, a < 16 → b < 16 → ((f' a).testBit b = true ↔ (f a).testBit b = true ∨ ∃ k, i ≤ k ∧ k < N ∧ xs k = b ∧ ys k = a)) ∧ (∀ a b, a < 16 → b < 16 → ((g' a).testBit b = true ↔ (g a).testBit b = true ∨ ∃ k, i ≤ k ∧ k < N ∧ xs k = a ∧ ys k = b)) := by
  intro d
  induction d with
  | zero =>
    intro i hi n hn M f g hM hfg
    obtain ⟨n, rfl⟩ : ∃ k, n = k + 1 := ⟨n - 1, by omega⟩
    have m17 := hM 17 (by decide) (by decide)
    refine ⟨M, f, g, ?_, hM, hfg, fun a b _ _ => ⟨Or.inl, ?_⟩, fun a b _ _ => ⟨Or.inl, ?_⟩⟩
    · simp (disch := omega) only [f_TT_learnsCites_30, jp_c, decide_eq_true_eq, n_lit, n_le, Nat.reduceEqDiff, Nat.reduceAdd, Nat.reduceMul, ite_true, ite_false, if_true, if_false, eq_self_iff_true, ↓reduceIte, and_self, and_true, true_and, and_false, false_and, not_true_eq_false, not_false_eq_true, if_pos, if_neg, m17, h17]
    · rintro (h | ⟨k, h1, h2, -⟩)
      · exact h
      · omega
    · rintro (h | ⟨k, h1, h2, -⟩)
      · exact h
      · omega
  | succ d ih =>
    intro i hi n hn M f g hM hfg
    obtain ⟨n, rfl⟩ : ∃ k, n = k + 1 := ⟨n - 1, by omega⟩
    have m17 := hM 17 (by decide) (by decide)
    have m18 := hM 18 (by decide) (by decide)
    obtain ⟨x1, y1, x2, y2⟩ := hr i (by omega)
    obtain ⟨fy, -, fy2, -⟩ := hfg (ys i) y1
    obtain ⟨-, gx, -, gx2⟩ := hfg (xs i) x1
    have slx := n_slI (k := xs i) (by omega)
    have sly := n_slI (k := ys i) (by omega)
    have px : 2 ^ xs i < 65536 := Nat.pow_lt_pow_right (m := xs i) (n := 16) (by omega) (by omega)
    have py : 2 ^ ys i < 65536 := Nat.pow_lt_pow_right (m := ys i) (n := 16) (by omega) (by omega)
    obtain ⟨M', f', g', e1, e2, e3, e4, e5⟩ := ih (i + 1) (by omega) n (by omega) (jp_set (jp_set M 65 (upd (M 65) (ys i) (nI (f (ys i) ||| 2 ^ xs i)))) 66 (upd (M 66) (xs i) (nI (g (xs i) ||| 2 ^ ys i))))
      (fun a => if a = ys i then f (ys i) ||| 2 ^ xs i else f a) (fun a => if a = xs i then g (xs i) ||| 2 ^ ys i else g a) (fun q q1 q2 => by rw [st_ne q2, st_ne q1, hM q q1 q2]) (by
        intro k hk
        obtain ⟨k1, k2, k3, k4⟩ := hfg k hk
        rw [st_ne (by decide), st_same, st_same]
        refine ⟨?_, ?_, ?_, ?_⟩
        · split
          · exact Nat.or_lt_two_pow (n := 16) fy px
          · exact k1
        · split
          · exact Nat.or_lt_two_pow (n := 16) gx py
          · exact k2
        · split
          · next h => rw [ud_eq h]
          · next h => rw [ud_ne h, k3]
        · split
          · next h => rw [ud_eq h]
          · next h => rw [ud_ne h, k4])
    refine ⟨M', f', g', ?_, e2, e3, fun a b ha hb => ?_, fun a b ha hb => ?_⟩
    · rw [← e1]
      have hx15 : xs i ≤ 15 := by omega
      have hy15 : ys i ≤ 15 := by omega
      simp (disch := omega) only [f_TT_learnsCites_30, f_TT_learnsCites_109, n_within, n_it0, jp_c, decide_eq_true_eq, n_lit, n_add, n_mul, n_le, n_eq, n_in, n_cl, n_or, Nat.reduceEqDiff, Nat.reduceAdd, Nat.reduceMul, ite_true, ite_false, if_true, if_false, eq_self_iff_true, ↓reduceIte, and_self, and_true, true_and, and_false, false_and, not_true_eq_false, not_false_eq_true, if_pos, if_neg, Nat.zero_le, m17, h17, m18, x2, y2, hx15, hy15, fy2, gx2, slx, sly, jg_t, st_ap]
    · rw [e4 a b ha hb]
      constructor
      · rintro (h | ⟨k, k1, k2, k3⟩)
        · split at h
          · next hya =>
            rw [Nat.testBit_or, Bool.or_eq_true, Nat.testBit_two_pow, decide_eq_true_eq] at h
            rcases h with h | h
            · subst hya; exact Or.inl h
            · exact Or.inr ⟨i, by omega, by omega, h, hya.symm⟩
          · exact Or.inl h
        · exact Or.inr ⟨k, by omega, k2, k3⟩
      · rintro (h | ⟨k, k1, k2, k3, k4⟩)
        · left
          split
          · next hya =>
            subst hya
            rw [Nat.testBit_or, h, Bool.true_or]
          · exact h
        · by_cases hk : k = i
          · subst hk
            left
            rw [if_pos k4.symm, Nat.testBit_or, Nat.testBit_two_pow, decide_eq_true k3, Bool.or_true]
          · exact Or.inr ⟨k, by omega, k2, k3, k4⟩
    · rw [e5 a b ha hb]
      constructor
      · rintro (h | ⟨k, k1, k2, k3⟩)
        · split at h
          · next hya =>
            rw [Nat.testBit_or, Bool.or_eq_true, Nat.testBit_two_pow, decide_eq_true_eq] at h
            rcases h with h | h
            · subst hya; exact Or.inl h
            · exact Or.inr ⟨i, by omega, by omega, hya.symm, h⟩
          · exact Or.inl h
        · exact Or.inr ⟨k, by omega, k2, k3⟩
      · rintro (h | ⟨k, k1, k2, k3, k4⟩)
        · left
          split
          · next hya =>
            subst hya
            rw [Nat.testBit_or, h, Bool.true_or]
          · exact h
        · by_cases hk : k = i
          · subst hk
            left
            rw [if_pos k3.symm, Nat.testBit_or, Nat.testBit_two_pow, decide_eq_true k4, Bool.or_true]
          · exact Or.inr ⟨k, by omega, k2, k3, k4⟩
/-- the cites, learnt -/
theorem p_lc {A B : jp_M} (h : rCite (A 17 0) (B 104 39) (A 18) (B 124)) : ∃ (M' : jp_M) (F m : Nat → Nat), f_TT_learnsCites A = some M' ∧ (∀ q, ¬ q = 65 → ¬ q = 66 → M' q = A q) ∧ (∀ i, i < 16 → F i < 65536 ∧ M' 65 i = nI (F i)) ∧ (∀ i, i < 16 → m i < 65536 ∧ B 124 i = nI (m i)) ∧ (∀ i, i < 16 → M' 66 i = nI (m i)) ∧ ∀ i c, i < 16 → c < 16 → ((F i).testBit c = true ↔ (m c).testBit i = true) := by
  obtain ⟨N, hN, h17, -, hr, hb⟩ := h
  have hex : ∃ xs ys : Nat → Nat, ∀ k, k < N → xs k < 16 ∧ ys k < 16 ∧ A 18 (2 * k) = nI (xs k) ∧ A 18 (2 * k + 1) = nI (ys k) := by
    refine ⟨fun k => if h : k < N then (hr k h).choose else 0, fun k => if h : k < N then (hr k h).choose_spec.choose else 0, fun k hk => ?_⟩
    simp only [hk, dif_pos]
    exact (hr k hk).choose_spec.choose_spec
  obtain ⟨xs, ys, hxy⟩ := hex
  have hexm : ∃ m : Nat → Nat, ∀ i, i < 16 → m i < 65536 ∧ B 124 i = nI (m i) ∧ ∀ y, y < 16 → ((m i).testBit y = true ↔ ∃ k, k < N ∧ A 18 (2 * k) = nI i ∧ A 18 (2 * k + 1) = nI y) := by
    refine ⟨fun i => if h : i < 16 then (hb i h).choose else 0, fun i hi => ?_⟩
    simp only [hi, dif_pos]
    exact (hb i hi).choose_spec
  obtain ⟨m, hm⟩ := hexm
  obtain ⟨M1, a1, a2, a3⟩ := l_lc1 (A := A) 16 0 (by omega) jFu (jFu_lt (by omega)) A (fun _ _ _ => rfl) (fun k hk => by omega)
  obtain ⟨M', f, g, e1, e2, e3, e4, e5⟩ := l_lc2 hN h17 hxy N 0 (by omega) jFu (jFu_lt (by omega)) M1 (fun _ => 0) (fun _ => 0) a2 (fun k hk => ⟨by decide, by decide, (a3 k hk).1, (a3 k hk).2⟩)
  have mk : ∀ i y, i < 16 → y < 16 → ((m i).testBit y = true ↔ ∃ k, k < N ∧ xs k = i ∧ ys k = y) := by
    intro i y hi hy
    rw [(hm i hi).2.2 y hy]
    constructor
    · rintro ⟨k, k1, k2, k3⟩
      obtain ⟨x1, y1, x2, y2⟩ := hxy k k1
      rw [x2, n_eq (by omega) (by omega)] at k2
      rw [y2, n_eq (by omega) (by omega)] at k3
      exact ⟨k, k1, k2, k3⟩
    · rintro ⟨k, k1, k2, k3⟩
      obtain ⟨x1, y1, x2, y2⟩ := hxy k k1
      exact ⟨k, k1, by rw [x2, k2], by rw [y2, k3]⟩
  have gm : ∀ i, i < 16 → g i = m i := by
    intro i hi
    apply Nat.eq_of_testBit_eq
    intro y
    by_cases hy : y < 16
    · rw [Bool.eq_iff_iff, e5 i y hi hy, Nat.zero_testBit, mk i y hi hy]
      constructor
      · rintro (h | ⟨k, -, k2, k3⟩)
        · exact absurd h (by decide)
        · exact ⟨k, k2, k3⟩
      · rintro ⟨k, k1, k2⟩; exact Or.inr ⟨k, by omega, k1, k2⟩
    · rw [Nat.testBit_lt_two_pow (Nat.lt_of_lt_of_le (e3 i hi).2.1 (Nat.pow_le_pow_right (n := 2) (i := 16) (by omega) (by omega))), Nat.testBit_lt_two_pow (Nat.lt_of_lt_of_le (hm i hi).1 (Nat.pow_le_pow_right (n := 2) (i := 16) (by omega) (by omega)))]
  refine ⟨M', f, m, ?_, e2, fun i hi => ⟨(e3 i hi).1, (e3 i hi).2.2.1⟩, fun i hi => ⟨(hm i hi).1, (hm i hi).2.1⟩, fun i hi => by rw [(e3 i hi).2.2.2, gm i hi], fun i c hi hc => ?_⟩
  · have : f_TT_learnsCites A = f_TT_learnsCites_2 jFu (nI 0) A := rfl
    rw [this, a1, e1]
  · rw [e4 i c hi hc, Nat.zero_testBit, mk c i hc hi]
    constructor
    · rintro (h | ⟨k, -, k2, k3⟩)
      · exact absurd h (by decide)
      · exact ⟨k, k2, k3⟩
    · rintro ⟨k, k1, k2⟩; exact Or.inr ⟨k, by omega, k1, k2⟩
theorem l_nx {M B : jp_M} (h66 : ∀ i, i < 16 → M 66 i = B 124 i) {s : Nat} (hs : s < 65536) : ∀ d i, i + d = 16 → ∀ n m, d < n → d < m → ∃ v, f_TT_leastReady_2 n (nI s) (nI i) M = some v ∧ f_M_nextCase_2 m (nI s) (nI i) B = some v ∧ (v = nI 4294967295 ∨ ∃ c, c < 16 ∧ v = nI c) := by
  intro d
  induction d with
  | zero =>
    intro i hi n m hn hm
    obtain ⟨n, rfl⟩ : ∃ k, n = k + 1 := ⟨n - 1, by omega⟩
    obtain ⟨m, rfl⟩ : ∃ k, m = k + 1 := ⟨m - 1, by omega⟩
    refine ⟨nI 4294967295, ?_, ?_, Or.inl rfl⟩
    · simp (disch := omega) only [f_TT_leastReady_2, jp_c, decide_eq_true_eq, n_lit, n_neg1, n_le, Nat.reduceEqDiff, Nat.reduceAdd, Nat.reduceMul, ite_true, ite_false, if_true, if_false, eq_self_iff_true, ↓reduceIte, and_self, and_true, true_and, and_false, false_and, not_true_eq_false, not_false_eq_true, if_pos, if_neg]
    · simp (disch := omega) only [f_M_nextCase_2, jp_c, decide_eq_true_eq, n_lit, n_neg1, n_le, Nat.reduceEqDiff, Nat.reduceAdd, Nat.reduceMul, ite_true, ite_false, if_true, if_false, eq_self_iff_true, ↓reduceIte, and_self, and_true, true_and, and_false, false_and, not_true_eq_false, not_false_eq_true, if_pos, if_neg]
  | succ d ih =>
    intro i hi n m hn hm
    obtain ⟨n, rfl⟩ : ∃ k, n = k + 1 := ⟨n - 1, by omega⟩
    obtain ⟨m, rfl⟩ : ∃ k, m = k + 1 := ⟨m - 1, by omega⟩
    have b1 := n_btI (s := s) (k := i) (by omega) (by omega)
    have b2 := n_hasI (s := s) (k := i) (by omega) (by omega)
    have h6 := h66 i (by omega)
    obtain ⟨v, e1, e2, e3⟩ := ih (i + 1) (by omega) n m (by omega) (by omega)
    rcases Bool.eq_false_or_eq_true (s.testBit i) with hb | hb
    · rw [hb] at b1 b2
      refine ⟨v, ?_, ?_, e3⟩
      · rw [← e1]
        simp (disch := omega) only [f_TT_leastReady_2, f_TT_leastReady_31, jp_c, decide_eq_true_eq, n_lit, n_add, n_le, n_eq, Nat.reduceEqDiff, Nat.reduceAdd, Nat.reduceMul, ite_true, ite_false, if_true, if_false, eq_self_iff_true, ↓reduceIte, and_self, and_true, true_and, and_false, false_and, not_true_eq_false, not_false_eq_true, if_pos, if_neg, b1]
      · rw [← e2]
        simp (disch := omega) only [f_M_nextCase_2, f_M_nextCase_32, jp_c, decide_eq_true_eq, n_lit, n_add, n_le, n_eq, Nat.reduceEqDiff, Nat.reduceAdd, Nat.reduceMul, ite_true, ite_false, if_true, if_false, eq_self_iff_true, ↓reduceIte, and_self, and_true, true_and, and_false, false_and, not_true_eq_false, not_false_eq_true, if_pos, if_neg, b2]
    · rw [hb] at b1 b2
      by_cases hz : B 124 i &&& (nI s ^^^ nI 4294967295) = nI 0
      · refine ⟨nI i, ?_, ?_, Or.inr ⟨i, by omega, rfl⟩⟩
        · simp (disch := omega) only [f_TT_leastReady_2, jp_c, decide_eq_true_eq, n_lit, n_neg1, n_le, n_eq, n_in, n_cl, Nat.reduceEqDiff, Nat.reduceAdd, Nat.reduceMul, ite_true, ite_false, if_true, if_false, eq_self_iff_true, ↓reduceIte, and_self, and_true, true_and, and_false, false_and, not_true_eq_false, not_false_eq_true, if_pos, if_neg, b1, h6, hz, jg_t, Bool.false_eq_true]
        · simp (disch := omega) only [f_M_nextCase_2, jp_c, decide_eq_true_eq, n_lit, n_neg1, n_le, n_eq, n_in, n_cl, Nat.reduceEqDiff, Nat.reduceAdd, Nat.reduceMul, ite_true, ite_false, if_true, if_false, eq_self_iff_true, ↓reduceIte, and_self, and_true, true_and, and_false, false_and, not_true_eq_false, not_false_eq_true, if_pos, if_neg, b2, hz, jg_t, Bool.false_eq_true]
      · refine ⟨v, ?_, ?_, e3⟩
        · rw [← e1]
          simp (disch := omega) only [f_TT_leastReady_2, f_TT_leastReady_31, jp_c, decide_eq_true_eq, n_lit, n_neg1, n_add, n_le, n_eq, n_in, n_cl, Nat.reduceEqDiff, Nat.reduceAdd, Nat.reduceMul, ite_true, ite_false, if_true, if_false, eq_self_iff_true, ↓reduceIte, and_self, and_true, true_and, and_false, false_and, not_true_eq_false, not_false_eq_true, if_pos, if_neg, b1, h6, hz, jg_t, Bool.false_eq_true]
        · rw [← e2]
          simp (disch := omega) only [f_M_nextCase_2, f_M_nextCase_32, jp_c, decide_eq_true_eq, n_lit, n_neg1, n_add, n_le, n_eq, n_in, n_cl, Nat.reduceEqDiff, Nat.reduceAdd, Nat.reduceMul, ite_true, ite_false, if_true, if_false, eq_self_iff_true, ↓reduceIte, and_self, and_true, true_and, and_false, false_and, not_true_eq_false, not_false_eq_true, if_pos, if_neg, b2, hz, jg_t, Bool.false_eq_true]
theorem l_pl {M B : jp_M} (h66 : ∀ i, i < 16 → M 66 i = B 124 i) (a : Int32) : ∀ d k, k + d = 16 → ∀ n m, d < n → d < m → ∀ s f, s < 65536 → ∃ v, f_TT_placeOf_11 n a (nI s) f (nI k) M = some (v, M) ∧ f_M_placeOf_7 m a (nI s) f (nI k) B = some v := by
  intro d
  induction d with
  | zero =>
    intro k hk n m hn hm s f hs
    obtain ⟨n, rfl⟩ : ∃ k, n = k + 1 := ⟨n - 1, by omega⟩
    obtain ⟨m, rfl⟩ : ∃ k, m = k + 1 := ⟨m - 1, by omega⟩
    refine ⟨f, ?_, ?_⟩
    · simp (disch := omega) only [f_TT_placeOf_11, jp_c, decide_eq_true_eq, n_lit, n_le, Nat.reduceEqDiff, Nat.reduceAdd, Nat.reduceMul, ite_true, ite_false, if_true, if_false, eq_self_iff_true, ↓reduceIte, and_self, and_true, true_and, and_false, false_and, not_true_eq_false, not_false_eq_true, if_pos, if_neg]
    · simp (disch := omega) only [f_M_placeOf_7, jp_c, decide_eq_true_eq, n_lit, n_le, Nat.reduceEqDiff, Nat.reduceAdd, Nat.reduceMul, ite_true, ite_false, if_true, if_false, eq_self_iff_true, ↓reduceIte, and_self, and_true, true_and, and_false, false_and, not_true_eq_false, not_false_eq_true, if_pos, if_neg]
  | succ d ih =>
    intro k hk n m hn hm s f hs
    obtain ⟨n, rfl⟩ : ∃ k, n = k + 1 := ⟨n - 1, by omega⟩
    obtain ⟨m, rfl⟩ : ∃ k, m = k + 1 := ⟨m - 1, by omega⟩
    obtain ⟨v, v1, v2, v3⟩ := l_nx h66 hs 16 0 (by omega) jFu jFu (jFu_lt (by omega)) (jFu_lt (by omega))
    have v1' : f_TT_leastReady (nI s) M = some v := v1
    have v2' : f_M_nextCase (nI s) B = some v := v2
    rcases v3 with rfl | ⟨c, hc, rfl⟩
    · refine ⟨nI 4294967295, ?_, ?_⟩
      · simp (disch := omega) only [f_TT_placeOf_11, jp_c, decide_eq_true_eq, n_lit, n_neg1, n_le, Nat.reduceEqDiff, Nat.reduceAdd, Nat.reduceMul, ite_true, ite_false, if_true, if_false, eq_self_iff_true, ↓reduceIte, and_self, and_true, true_and, and_false, false_and, not_true_eq_false, not_false_eq_true, if_pos, if_neg, v1', Option.bind_some]
      · simp (disch := omega) only [f_M_placeOf_7, jp_c, decide_eq_true_eq, n_lit, n_neg1, n_le, Nat.reduceEqDiff, Nat.reduceAdd, Nat.reduceMul, ite_true, ite_false, if_true, if_false, eq_self_iff_true, ↓reduceIte, and_self, and_true, true_and, and_false, false_and, not_true_eq_false, not_false_eq_true, if_pos, if_neg, v2', Option.bind_some]
    · have sl := n_slI (k := c) (by omega)
      have p2 : 2 ^ c < 65536 := Nat.pow_lt_pow_right (m := c) (n := 16) (by omega) (by omega)
      have hne : ¬ nI c = nI 4294967295 := by rw [n_eq (by omega) (by omega)]; omega
      by_cases hca : nI c = a
      · obtain ⟨r, r1, r2⟩ := ih (k + 1) (by omega) n m (by omega) (by omega) (s ||| 2 ^ c) (nI k) (Nat.or_lt_two_pow (n := 16) hs p2)
        subst hca
        refine ⟨r, ?_, ?_⟩
        · rw [← r1]
          simp (disch := omega) only [f_TT_placeOf_11, f_TT_placeOf_42, jp_c, decide_eq_true_eq, n_lit, n_neg1, n_add, n_le, Nat.reduceEqDiff, Nat.reduceAdd, Nat.reduceMul, ite_true, ite_false, if_true, if_false, eq_self_iff_true, ↓reduceIte, and_self, and_true, true_and, and_false, false_and, not_true_eq_false, not_false_eq_true, if_pos, if_neg, v1', hne, sl, n_or, Option.bind_some]
        · rw [← r2]
          simp (disch := omega) only [f_M_placeOf_7, f_M_placeOf_38, jp_c, decide_eq_true_eq, n_lit, n_neg1, n_add, n_le, Nat.reduceEqDiff, Nat.reduceAdd, Nat.reduceMul, ite_true, ite_false, if_true, if_false, eq_self_iff_true, ↓reduceIte, and_self, and_true, true_and, and_false, false_and, not_true_eq_false, not_false_eq_true, if_pos, if_neg, v2', hne, sl, n_or, Option.bind_some]
      · obtain ⟨r, r1, r2⟩ := ih (k + 1) (by omega) n m (by omega) (by omega) (s ||| 2 ^ c) f (Nat.or_lt_two_pow (n := 16) hs p2)
        refine ⟨r, ?_, ?_⟩
        · rw [← r1]
          simp (disch := omega) only [f_TT_placeOf_11, f_TT_placeOf_42, jp_c, decide_eq_true_eq, n_lit, n_neg1, n_add, n_le, Nat.reduceEqDiff, Nat.reduceAdd, Nat.reduceMul, ite_true, ite_false, if_true, if_false, eq_self_iff_true, ↓reduceIte, and_self, and_true, true_and, and_false, false_and, not_true_eq_false, not_false_eq_true, if_pos, if_neg, v1', hne, hca, sl, n_or, Option.bind_some]
        · rw [← r2]
          simp (disch := omega) only [f_M_placeOf_7, f_M_placeOf_38, jp_c, decide_eq_true_eq, n_lit, n_neg1, n_add, n_le, Nat.reduceEqDiff, Nat.reduceAdd, Nat.reduceMul, ite_true, ite_false, if_true, if_false, eq_self_iff_true, ↓reduceIte, and_self, and_true, true_and, and_false, false_and, not_true_eq_false, not_false_eq_true, if_pos, if_neg, v2', hne, hca, sl, n_or, Option.bind_some]
theorem p_cites (a b : Int32) {A B : jp_M} (hR : Rel A B) : pOK (f_C_cites a b A) (f_M_cites a b B) := by
  have T := Rel_told (x := nI 0) hR
  generalize hB1 : jp_set B 104 (upd (B 104) 0 (nI 0)) = B1 at T
  have hT := T
  obtain ⟨⟨hW, hBk, hLw, hPe, hLe, hCi, hWi, hKi, hPo, hWy, hVo⟩, hPic, hKe, hTa, hFa, hTh, hWd⟩ := T
  by_cases h1 : nI 0 ≤ a ∧ a ≤ nI 15
  · obtain ⟨x, -, hx, rfl⟩ := n_rng (by omega) h1.1 (by omega) h1.2
    obtain ⟨M', F, m, e1, e2, e3, e4, e5, e6⟩ := p_lc hCi
    have hRR : Rel M' B1 := by
      refine Rel_scA (A := A) (fun p hp => e2 p ?_ ?_) hT
      · rintro rfl; exact hp (by decide)
      · rintro rfl; exact hp (by decide)
    by_cases h2 : b = nI 0
    · subst h2
      obtain ⟨fl, f65⟩ := e3 x (by omega)
      obtain ⟨R, r1, r2, r3, r4, r5⟩ := l_fr2 e3 16 0 (by omega) jFu (jFu_lt (by omega)) (F x) fl (by
        by_cases hz : F x = 0
        · left
          rw [hz]
          intro i _ hb
          rw [Nat.zero_testBit] at hb; exact absurd hb (by decide)
        · right
          have := bc_pos fl hz
          omega)
      have px : 2 ^ x < 65536 := Nat.pow_lt_pow_right (m := x) (n := 16) (by omega) (by omega)
      obtain ⟨g, g1, g2, g3⟩ := p_fb e4 e6 px
      have hg : g = F x := by
        apply Nat.eq_of_testBit_eq
        intro k
        rw [Bool.eq_iff_iff, g3]
        constructor
        · rintro ⟨k1, i, i1, i2, i3⟩
          rw [Nat.testBit_two_pow, decide_eq_true_eq] at i2
          subst i2; exact i3
        · intro hk
          exact ⟨lt16 fl hk, x, by omega, Nat.testBit_two_pow_self, hk⟩
      rw [hg] at g2
      obtain ⟨R', s1, s2, s3, s4, s5⟩ := l_fm e4 (fun i hi => (e3 i hi).1) e6 16 (F x) fl (by omega) (nI 4294967295) (fun h => by
        rw [n_eq (by omega) (by omega)] at h; omega) jFu (Nat.le_of_lt (jFu_lt (by omega)))
      have hRR' : R' = R := sub_eq (s5 R r4 r3) (r5 R' s4 s3)
      subst hRR'
      have c1 : f_C_cites (nI x) (nI 0) A = some (nI R', M') := by
        simp (disch := omega) only [f_C_cites, f_TT_founds, n_within, n_it0, jp_c, decide_eq_true_eq, n_lit, n_le, n_eq, n_in, n_cl, Nat.reduceEqDiff, Nat.reduceAdd, Nat.reduceMul, ite_true, ite_false, if_true, if_false, eq_self_iff_true, ↓reduceIte, and_self, and_true, true_and, and_false, false_and, not_true_eq_false, not_false_eq_true, if_pos, if_neg, Nat.zero_le, hx, e1, f65, jg_t, Option.bind_some]
        rw [r2]; rfl
      have c2 : f_M_cites (nI x) (nI 0) B = some (nI R', B1) := by
        have sl := n_slI (k := x) (by omega)
        simp (disch := omega) only [f_M_cites, f_M_founds, hB1, n_isIn, n_it0, jp_c, decide_eq_true_eq, n_lit, n_neg1, n_le, n_eq, Nat.reduceEqDiff, Nat.reduceAdd, Nat.reduceMul, ite_true, ite_false, if_true, if_false, eq_self_iff_true, ↓reduceIte, and_self, and_true, true_and, and_false, false_and, not_true_eq_false, not_false_eq_true, if_pos, if_neg, Nat.zero_le, Nat.le_refl, Nat.reduceLeDiff, hx, sl, g2, Option.bind_some]
        rw [s2]; rfl
      rw [c1, c2]
      exact pOK_mk rfl hRR
    · by_cases h3 : b = nI 1
      · subst h3
        obtain ⟨v, v1, v2⟩ := l_pl (M := M') (B := B1) (fun i hi => by rw [e5 i hi, (e4 i hi).2]) (nI x) 16 0 (by omega) jFu jFu (jFu_lt (by omega)) (jFu_lt (by omega)) 0 (nI 4294967295) (by omega)
        have c1 : f_C_cites (nI x) (nI 1) A = some (v, M') := by
          simp (disch := omega) only [f_C_cites, f_TT_placeOf, n_within, n_it0, jp_c, decide_eq_true_eq, n_lit, n_neg1, n_le, n_eq, Nat.reduceEqDiff, Nat.reduceAdd, Nat.reduceMul, ite_true, ite_false, if_true, if_false, eq_self_iff_true, ↓reduceIte, and_self, and_true, true_and, and_false, false_and, not_true_eq_false, not_false_eq_true, if_pos, if_neg, Nat.zero_le, hx, e1, Option.bind_some]
          rw [v1]; rfl
        have c2 : f_M_cites (nI x) (nI 1) B = some (v, B1) := by
          simp (disch := omega) only [f_M_cites, f_M_placeOf, hB1, n_isIn, n_it0, jp_c, decide_eq_true_eq, n_lit, n_neg1, n_le, n_eq, Nat.reduceEqDiff, Nat.reduceAdd, Nat.reduceMul, ite_true, ite_false, if_true, if_false, eq_self_iff_true, ↓reduceIte, and_self, and_true, true_and, and_false, false_and, not_true_eq_false, not_false_eq_true, if_pos, if_neg, Nat.zero_le, Nat.le_refl, hx]
          rw [v2]; rfl
        rw [c1, c2]
        exact pOK_mk rfl hRR
      · have h4 : ¬ (nI 0 ≤ b ∧ b ≤ nI 1) := by
          rintro ⟨g1, g2⟩
          obtain ⟨y, -, hy, rfl⟩ := n_rng (by omega) g1 (by omega) g2
          rw [n_eq (by omega) (by omega)] at h2 h3
          omega
        simp (disch := omega) only [f_C_cites, f_M_cites, hB1, n_within, n_isIn, n_it0, jp_c, decide_eq_true_eq, n_lit, n_neg1, n_le, n_eq, Nat.reduceEqDiff, Nat.reduceAdd, Nat.reduceMul, ite_true, ite_false, if_true, if_false, eq_self_iff_true, ↓reduceIte, and_self, and_true, true_and, and_false, false_and, not_true_eq_false, not_false_eq_true, if_pos, if_neg, Nat.zero_le, hx, h2, h3, h4]
        exact pOK_mk rfl hT
  · simp (disch := omega) only [f_C_cites, f_M_cites, hB1, n_within, n_isIn, n_it0, jp_c, decide_eq_true_eq, n_lit, n_neg1, Nat.reduceEqDiff, Nat.reduceAdd, Nat.reduceMul, ite_true, ite_false, if_true, if_false, eq_self_iff_true, ↓reduceIte, and_self, and_true, true_and, and_false, false_and, not_true_eq_false, not_false_eq_true, if_pos, if_neg, h1]
    exact pOK_mk rfl hT
