def mxr (f : Nat → Nat) : Nat → Nat → Nat
  | 0, s => s
  | n + 1, s => max (mxr f n s) (f n)
theorem mxr_le {f : Nat → Nat} {s k : Nat} : ∀ n, mxr f n s ≤ k ↔ s ≤ k ∧ ∀ a, a < n → f a ≤ k := by
  intro n
  induction n with
  | zero => simp [mxr]
  | succ n ih =>
    rw [mxr, Nat.max_le, ih]
    constructor
    · rintro ⟨⟨h1, h2⟩, h3⟩
      refine ⟨h1, fun a ha => ?_⟩
      by_cases h : a = n
      · subst h; exact h3
      · exact h2 a (by omega)
    · rintro ⟨h1, h2⟩
      exact ⟨⟨h1, fun a ha => h2 a (by omega)⟩, h2 n (by omega)⟩
theorem mxr_ge {f : Nat → Nat} {s n : Nat} : s ≤ mxr f n s ∧ ∀ a, a < n → f a ≤ mxr f n s := (mxr_le n).1 (Nat.le_refl _)
/-- how long a chain of at most t steps that ends here is -/
def Lr (c : Nat → Nat → Bool) (N : Nat) : Nat → Nat → Nat
  | 0, _ => 1
  | t + 1, b => mxr (fun a => if c a b then Lr c N t a + 1 else 1) N 1
theorem Lr_pos {c : Nat → Nat → Bool} {N : Nat} : ∀ t b, 1 ≤ Lr c N t b := by
  intro t b
  cases t with
  | zero => exact Nat.le_refl _
  | succ t => exact mxr_ge.1
theorem Lr_le {c : Nat → Nat → Bool} {N : Nat} : ∀ t b, Lr c N t b ≤ t + 1 := by
  intro t
  induction t with
  | zero => intro b; exact Nat.le_refl _
  | succ t ih =>
    intro b
    rw [Lr, mxr_le]
    refine ⟨by omega, fun a _ => ?_⟩
    have := ih a
    split <;> omega
theorem Lr_ge {c : Nat → Nat → Bool} {N t a b : Nat} (ha : a < N) (h : c a b = true) : Lr c N t a + 1 ≤ Lr c N (t + 1) b := by
  have := (mxr_ge (f := fun a => if c a b then Lr c N t a + 1 else 1) (s := 1) (n := N)).2 a ha
  simp only [h, if_true] at this
  exact this
theorem Lr_ub {c : Nat → Nat → Bool} {N t b k : Nat} (h1 : 1 ≤ k) (h : ∀ a, a < N → c a b = true → Lr c N t a + 1 ≤ k) : Lr c N (t + 1) b ≤ k := by
  rw [Lr, mxr_le]
  refine ⟨h1, fun a ha => ?_⟩
  by_cases hc : c a b = true
  · simp only [hc, if_true]; exact h a ha hc
  · simp only [hc, if_false]; exact h1
theorem Lr_mono {c : Nat → Nat → Bool} {N : Nat} : ∀ t b, Lr c N t b ≤ Lr c N (t + 1) b := by
  intro t
  induction t with
  | zero => intro b; exact Lr_pos 1 b
  | succ t ih =>
    intro b
    refine Lr_ub (Lr_pos _ _) (fun a ha h => ?_)
    have h1 := ih a
    have h2 := Lr_ge (t := t + 1) ha h
    omega
def rk (p : Nat → Int32) (b : Nat) : Nat → Nat
  | 0 => 0
  | n + 1 => rk p b n + (if p n < p b then 1 else 0)
theorem rk_le {p : Nat → Int32} {a b : Nat} (h : p a < p b) : ∀ n, rk p a n ≤ rk p b n := by
  intro n
  induction n with
  | zero => exact Nat.le_refl _
  | succ n ih =>
    rw [rk, rk]
    by_cases h1 : p n < p a
    · rw [if_pos h1, if_pos (Int32.lt_trans h1 h)]; omega
    · rw [if_neg h1]; omega
theorem rk_lt {p : Nat → Int32} {a b : Nat} (h : p a < p b) : ∀ n, a < n → rk p a n < rk p b n := by
  intro n
  induction n with
  | zero => intro h; omega
  | succ n ih =>
    intro ha
    rw [rk, rk]
    by_cases h0 : a = n
    · subst h0
      have := rk_le h a
      rw [if_neg Int32.lt_irrefl, if_pos h]; omega
    · have := ih (by omega)
      by_cases h1 : p n < p a
      · rw [if_pos h1, if_pos (Int32.lt_trans h1 h)]; omega
      · rw [if_neg h1]; omega
theorem rk_n {p : Nat → Int32} {b : Nat} : ∀ n, rk p b n ≤ n := by
  intro n
  induction n with
  | zero => exact Nat.le_refl _
  | succ n ih => rw [rk]; split <;> omega
theorem Lr_stab {c : Nat → Nat → Bool} {N : Nat} {p : Nat → Int32} (hc : ∀ a b, c a b = true → p a < p b) : ∀ t b, rk p b N ≤ t → Lr c N (t + 1) b = Lr c N t b := by
  intro t
  induction t with
  | zero =>
    intro b hb
    refine Nat.le_antisymm (Lr_ub (Lr_pos _ _) (fun a ha h => ?_)) (Lr_mono _ _)
    have := rk_lt (hc a b h) N ha
    omega
  | succ t ih =>
    intro b hb
    refine Nat.le_antisymm (Lr_ub (Lr_pos _ _) (fun a ha h => ?_)) (Lr_mono _ _)
    have h1 := rk_lt (hc a b h) N ha
    rw [ih a (by omega)]
    exact Lr_ge ha h
theorem Lr_sol {c : Nat → Nat → Bool} {N : Nat} {p : Nat → Int32} (hc : ∀ a b, c a b = true → p a < p b) {a b : Nat} (ha : a < N) (h : c a b = true) : Lr c N N a + 1 ≤ Lr c N N b := by
  rw [← Lr_stab hc N b (rk_n N)]
  exact Lr_ge ha h
/-- one kite's string is over another's -/
def cr (B : jp_M) (i j : Nat) : Bool := decide (B 132 i < B 132 j ∧ B 133 j < B 133 i)
theorem cr_p {B : jp_M} : ∀ a b, cr B a b = true → B 132 a < B 132 b := by
  intro a b h
  exact (of_decide_eq_true h).1
theorem cr_M {B : jp_M} {i j : Nat} (hi : i < 10) (hj : j < 10) : f_M_isOverOne (nI i) (nI j) B = some (if cr B i j then nI 1 else nI 0) := by
  unfold cr
  by_cases h1 : B 132 j ≤ B 132 i
  · have h3 : ¬ B 132 i < B 132 j := Int32.not_lt.mpr h1
    simp (disch := omega) only [f_M_isOverOne, jp_c, decide_eq_true_eq, n_lit, n_neg1, n_add, n_mul, n_sub, n_div, n_mod, n_le, n_lt, n_eq, n_cl, n_in, Nat.reduceEqDiff, Nat.reduceAdd, Nat.reduceMul, ite_true, ite_false, if_true, if_false, eq_self_iff_true, ↓reduceIte, and_self, and_true, true_and, and_false, false_and, not_true_eq_false, not_false_eq_true, if_pos, if_neg, jg_t, h1, h3, decide_false, Bool.false_eq_true]
  · have h3 : B 132 i < B 132 j := Int32.not_le.mp h1
    by_cases h2 : B 133 i ≤ B 133 j
    · have h4 : ¬ B 133 j < B 133 i := Int32.not_lt.mpr h2
      simp (disch := omega) only [f_M_isOverOne, jp_c, decide_eq_true_eq, n_lit, n_neg1, n_add, n_mul, n_sub, n_div, n_mod, n_le, n_lt, n_eq, n_cl, n_in, Nat.reduceEqDiff, Nat.reduceAdd, Nat.reduceMul, ite_true, ite_false, if_true, if_false, eq_self_iff_true, ↓reduceIte, and_self, and_true, true_and, and_false, false_and, not_true_eq_false, not_false_eq_true, if_pos, if_neg, jg_t, h1, h2, h3, h4, decide_false, Bool.false_eq_true]
    · have h4 : B 133 j < B 133 i := Int32.not_le.mp h2
      simp (disch := omega) only [f_M_isOverOne, jp_c, decide_eq_true_eq, n_lit, n_neg1, n_add, n_mul, n_sub, n_div, n_mod, n_le, n_lt, n_eq, n_cl, n_in, Nat.reduceEqDiff, Nat.reduceAdd, Nat.reduceMul, ite_true, ite_false, if_true, if_false, eq_self_iff_true, ↓reduceIte, and_self, and_true, true_and, and_false, false_and, not_true_eq_false, not_false_eq_true, if_pos, if_neg, jg_t, h1, h2, h3, h4, decide_true]
theorem cr_C {A B : jp_M} (hr : ∀ i, i < 10 → A 21 (2 * i) = B 132 i ∧ A 21 (2 * i + 1) = B 133 i) {i j : Nat} (hi : i < 10) (hj : j < 10) : f_TT_crosses (nI i) (nI j) A = some (if cr B i j then nI 1 else nI 0) := by
  obtain ⟨a1, a2⟩ := hr i hi
  obtain ⟨b1, b2⟩ := hr j hj
  unfold cr
  by_cases h1 : B 132 j ≤ B 132 i
  · have h3 : ¬ B 132 i < B 132 j := Int32.not_lt.mpr h1
    simp (disch := omega) only [f_TT_crosses, jp_c, decide_eq_true_eq, n_lit, n_neg1, n_add, n_mul, n_sub, n_div, n_mod, n_le, n_lt, n_eq, n_cl, n_in, Nat.reduceEqDiff, Nat.reduceAdd, Nat.reduceMul, ite_true, ite_false, if_true, if_false, eq_self_iff_true, ↓reduceIte, and_self, and_true, true_and, and_false, false_and, not_true_eq_false, not_false_eq_true, if_pos, if_neg, jg_t, a1, a2, b1, b2, h1, h3, decide_false, Bool.false_eq_true]
  · have h3 : B 132 i < B 132 j := Int32.not_le.mp h1
    by_cases h2 : B 133 i ≤ B 133 j
    · have h4 : ¬ B 133 j < B 133 i := Int32.not_lt.mpr h2
      simp (disch := omega) only [f_TT_crosses, jp_c, decide_eq_true_eq, n_lit, n_neg1, n_add, n_mul, n_sub, n_div, n_mod, n_le, n_lt, n_eq, n_cl, n_in, Nat.reduceEqDiff, Nat.reduceAdd, Nat.reduceMul, ite_true, ite_false, if_true, if_false, eq_self_iff_true, ↓reduceIte, and_self, and_true, true_and, and_false, false_and, not_true_eq_false, not_false_eq_true, if_pos, if_neg, jg_t, a1, a2, b1, b2, h1, h2, h3, h4, decide_false, Bool.false_eq_true]
    · have h4 : B 133 j < B 133 i := Int32.not_le.mp h2
      simp (disch := omega) only [f_TT_crosses, jp_c, decide_eq_true_eq, n_lit, n_neg1, n_add, n_mul, n_sub, n_div, n_mod, n_le, n_lt, n_eq, n_cl, n_in, Nat.reduceEqDiff, Nat.reduceAdd, Nat.reduceMul, ite_true, ite_false, if_true, if_false, eq_self_iff_true, ↓reduceIte, and_self, and_true, true_and, and_false, false_and, not_true_eq_false, not_false_eq_true, if_pos, if_neg, jg_t, a1, a2, b1, b2, h1, h2, h3, h4, decide_true]
theorem cr_cg {A A' : jp_M} (h : A' 21 = A 21) (i j : Int32) : f_TT_crosses i j A' = f_TT_crosses i j A := by
  unfold f_TT_crosses
  rw [h]
theorem cr_cgM {B B' : jp_M} (h : B' 132 = B 132) (h' : B' 133 = B 133) (i j : Int32) : f_M_isOverOne i j B' = f_M_isOverOne i j B := by
  unfold f_M_isOverOne
  rw [h, h']
/-- crossings in a row -/
theorem l_cr1 {A B : jp_M} {N i : Nat} (hN : N ≤ 10) (hi : i < N) (h1 : A 19 1 = nI N) (h2 : B 104 49 = nI N) (hr : ∀ i, i < 10 → A 21 (2 * i) = B 132 i ∧ A 21 (2 * i + 1) = B 133 i) (f : Int32 → Int32 → jp_M → Option Int32) (g : Int32 → Int32 → jp_M → Option (Int32 × jp_M)) :
    ∀ d j, j + d = N → ∀ n m, d < n → d < m → ∀ s, ∃ s', f_TT_crossings_17 n f s (nI i) (nI j) A = f s' (nI (i + 1)) A ∧ f_M_strings_42 m g s (nI i) (nI j) B = g s' (nI (i + 1)) B := by
  intro d
  induction d with
  | zero =>
    intro j hj n m hn hm s
    obtain ⟨n, rfl⟩ : ∃ k, n = k + 1 := ⟨n - 1, by omega⟩
    obtain ⟨m, rfl⟩ : ∃ k, m = k + 1 := ⟨m - 1, by omega⟩
    refine ⟨s, ?_, ?_⟩
    · simp (disch := omega) only [f_TT_crossings_17, jp_c, decide_eq_true_eq, n_lit, n_neg1, n_add, n_mul, n_sub, n_div, n_mod, n_le, n_lt, n_eq, n_cl, n_in, Nat.reduceEqDiff, Nat.reduceAdd, Nat.reduceMul, ite_true, ite_false, if_true, if_false, eq_self_iff_true, ↓reduceIte, and_self, and_true, true_and, and_false, false_and, not_true_eq_false, not_false_eq_true, if_pos, if_neg, h1]
    · simp (disch := omega) only [f_M_strings_42, jp_c, decide_eq_true_eq, n_lit, n_neg1, n_add, n_mul, n_sub, n_div, n_mod, n_le, n_lt, n_eq, n_cl, n_in, Nat.reduceEqDiff, Nat.reduceAdd, Nat.reduceMul, ite_true, ite_false, if_true, if_false, eq_self_iff_true, ↓reduceIte, and_self, and_true, true_and, and_false, false_and, not_true_eq_false, not_false_eq_true, if_pos, if_neg, h2]
  | succ d ih =>
    intro j hj n m hn hm s
    obtain ⟨n, rfl⟩ : ∃ k, n = k + 1 := ⟨n - 1, by omega⟩
    obtain ⟨m, rfl⟩ : ∃ k, m = k + 1 := ⟨m - 1, by omega⟩
    have c1 := cr_C hr (i := i) (j := j) (by omega) (by omega)
    have c2 := cr_M (B := B) (i := i) (j := j) (by omega) (by omega)
    cases hc : cr B i j
    · obtain ⟨s', e1, e2⟩ := ih (j + 1) (by omega) n m (by omega) (by omega) s
      refine ⟨s', ?_, ?_⟩
      · rw [← e1]
        simp (disch := omega) only [f_TT_crossings_17, f_TT_crossings_40, jp_c, decide_eq_true_eq, n_lit, n_neg1, n_add, n_mul, n_sub, n_div, n_mod, n_le, n_lt, n_eq, n_cl, n_in, Nat.reduceEqDiff, Nat.reduceAdd, Nat.reduceMul, ite_true, ite_false, if_true, if_false, eq_self_iff_true, ↓reduceIte, and_self, and_true, true_and, and_false, false_and, not_true_eq_false, not_false_eq_true, if_pos, if_neg, h1, c1, hc, Option.bind_some, Bool.false_eq_true]
      · rw [← e2]
        simp (disch := omega) only [f_M_strings_42, f_M_strings_65, jp_c, decide_eq_true_eq, n_lit, n_neg1, n_add, n_mul, n_sub, n_div, n_mod, n_le, n_lt, n_eq, n_cl, n_in, Nat.reduceEqDiff, Nat.reduceAdd, Nat.reduceMul, ite_true, ite_false, if_true, if_false, eq_self_iff_true, ↓reduceIte, and_self, and_true, true_and, and_false, false_and, not_true_eq_false, not_false_eq_true, if_pos, if_neg, h2, c2, hc, Option.bind_some, Bool.false_eq_true]
    · obtain ⟨s', e1, e2⟩ := ih (j + 1) (by omega) n m (by omega) (by omega) (s + nI 1)
      refine ⟨s', ?_, ?_⟩
      · rw [← e1]
        simp (disch := omega) only [f_TT_crossings_17, f_TT_crossings_40, jp_c, decide_eq_true_eq, n_lit, n_neg1, n_add, n_mul, n_sub, n_div, n_mod, n_le, n_lt, n_eq, n_cl, n_in, Nat.reduceEqDiff, Nat.reduceAdd, Nat.reduceMul, ite_true, ite_false, if_true, if_false, eq_self_iff_true, ↓reduceIte, and_self, and_true, true_and, and_false, false_and, not_true_eq_false, not_false_eq_true, if_pos, if_neg, h1, c1, hc, Option.bind_some]
      · rw [← e2]
        simp (disch := omega) only [f_M_strings_42, f_M_strings_65, jp_c, decide_eq_true_eq, n_lit, n_neg1, n_add, n_mul, n_sub, n_div, n_mod, n_le, n_lt, n_eq, n_cl, n_in, Nat.reduceEqDiff, Nat.reduceAdd, Nat.reduceMul, ite_true, ite_false, if_true, if_false, eq_self_iff_true, ↓reduceIte, and_self, and_true, true_and, and_false, false_and, not_true_eq_false, not_false_eq_true, if_pos, if_neg, h2, c2, hc, Option.bind_some]
theorem l_cr2 {A B : jp_M} {N : Nat} (hN : N ≤ 10) (h1 : A 19 1 = nI N) (h2 : B 104 49 = nI N) (hr : ∀ i, i < 10 → A 21 (2 * i) = B 132 i ∧ A 21 (2 * i + 1) = B 133 i) :
    ∀ d i, i + d = N → ∀ n m, d < n → d < m → ∀ s, ∃ s', f_TT_crossings_4 n s (nI i) A = some s' ∧ f_M_strings_31 m s (nI i) B = some (s', B) := by
  intro d
  induction d with
  | zero =>
    intro j hj n m hn hm s
    obtain ⟨n, rfl⟩ : ∃ k, n = k + 1 := ⟨n - 1, by omega⟩
    obtain ⟨m, rfl⟩ : ∃ k, m = k + 1 := ⟨m - 1, by omega⟩
    refine ⟨s, ?_, ?_⟩
    · simp (disch := omega) only [f_TT_crossings_4, jp_c, decide_eq_true_eq, n_lit, n_neg1, n_add, n_mul, n_sub, n_div, n_mod, n_le, n_lt, n_eq, n_cl, n_in, Nat.reduceEqDiff, Nat.reduceAdd, Nat.reduceMul, ite_true, ite_false, if_true, if_false, eq_self_iff_true, ↓reduceIte, and_self, and_true, true_and, and_false, false_and, not_true_eq_false, not_false_eq_true, if_pos, if_neg, h1]
    · simp (disch := omega) only [f_M_strings_31, jp_c, decide_eq_true_eq, n_lit, n_neg1, n_add, n_mul, n_sub, n_div, n_mod, n_le, n_lt, n_eq, n_cl, n_in, Nat.reduceEqDiff, Nat.reduceAdd, Nat.reduceMul, ite_true, ite_false, if_true, if_false, eq_self_iff_true, ↓reduceIte, and_self, and_true, true_and, and_false, false_and, not_true_eq_false, not_false_eq_true, if_pos, if_neg, h2]
  | succ d ih =>
    intro i hi n m hn hm s
    obtain ⟨n, rfl⟩ : ∃ k, n = k + 1 := ⟨n - 1, by omega⟩
    obtain ⟨m, rfl⟩ : ∃ k, m = k + 1 := ⟨m - 1, by omega⟩
    obtain ⟨s', e1, e2⟩ := l_cr1 hN (i := i) (by omega) h1 h2 hr (f_TT_crossings_4 n) (f_M_strings_31 m) N 0 (by omega) jFu jFu (jFu_lt (by omega)) (jFu_lt (by omega)) s
    obtain ⟨s2, e3, e4⟩ := ih (i + 1) (by omega) n m (by omega) (by omega) s'
    refine ⟨s2, ?_, ?_⟩
    · rw [← e3, ← e1]
      simp (disch := omega) only [f_TT_crossings_4, jp_c, decide_eq_true_eq, n_lit, n_neg1, n_add, n_mul, n_sub, n_div, n_mod, n_le, n_lt, n_eq, n_cl, n_in, Nat.reduceEqDiff, Nat.reduceAdd, Nat.reduceMul, ite_true, ite_false, if_true, if_false, eq_self_iff_true, ↓reduceIte, and_self, and_true, true_and, and_false, false_and, not_true_eq_false, not_false_eq_true, if_pos, if_neg, h1]
    · rw [← e4, ← e2]
      simp (disch := omega) only [f_M_strings_31, jp_c, decide_eq_true_eq, n_lit, n_neg1, n_add, n_mul, n_sub, n_div, n_mod, n_le, n_lt, n_eq, n_cl, n_in, Nat.reduceEqDiff, Nat.reduceAdd, Nat.reduceMul, ite_true, ite_false, if_true, if_false, eq_self_iff_true, ↓reduceIte, and_self, and_true, true_and, and_false, false_and, not_true_eq_false, not_false_eq_true, if_pos, if_neg, h2]
/-- what the chains are while they are found -/
def ivC (A : jp_M) (p N : Nat) (H f : Nat → Nat) (M : jp_M) : Prop := (∀ q, ¬ q = p → M q = A q) ∧ ∀ b, b < N → M p b = nI (f b) ∧ f b ≤ H b
theorem ivC_up {A : jp_M} {p N : Nat} {H f : Nat → Nat} {M : jp_M} (h : ivC A p N H f M) {i v : Nat} (hv : v ≤ H i) : ivC A p N H (fun b => if b = i then v else f b) (jp_set M p (upd (M p) i (nI v))) := by
  refine ⟨fun q hq => by rw [st_ne hq, h.1 q hq], fun b hb => ?_⟩
  rw [st_same]
  by_cases hb' : b = i
  · subst hb'
    dsimp only
    rw [ud_eq rfl, if_pos rfl]; exact ⟨rfl, hv⟩
  · dsimp only
    rw [ud_ne hb', if_neg hb']; exact h.2 b hb
theorem l_len {A B : jp_M} {N : Nat} (hN : N ≤ 10) (h1 : A 19 1 = nI N) (hr : ∀ i, i < 10 → A 21 (2 * i) = B 132 i ∧ A 21 (2 * i + 1) = B 133 i) {i : Nat} (hi : i < N) : ∀ d j, j + d = N → ∀ n, d < n → ∀ M f, ivC A 63 N (Lr (cr B) N N) f M → ∃ M' f', f_TT_lengthensChain_2 n (nI i) (nI j) M = some M' ∧ ivC A 63 N (Lr (cr B) N N) f' M' ∧ (∀ b, f b ≤ f' b) ∧ ∀ a, j ≤ a → a < N → cr B a i = true → f a + 1 ≤ f' i := by
  intro d
  induction d with
  | zero =>
    intro j hj n hn M f hM
    obtain ⟨n, rfl⟩ : ∃ k, n = k + 1 := ⟨n - 1, by omega⟩
    refine ⟨M, f, ?_, hM, fun _ => Nat.le_refl _, fun a g1 g2 => by omega⟩
    have m19 := hM.1 19 (by decide)
    simp (disch := omega) only [f_TT_lengthensChain_2, jp_c, decide_eq_true_eq, n_lit, n_neg1, n_add, n_mul, n_sub, n_div, n_mod, n_le, n_lt, n_eq, n_cl, n_in, Nat.reduceEqDiff, Nat.reduceAdd, Nat.reduceMul, ite_true, ite_false, if_true, if_false, eq_self_iff_true, ↓reduceIte, and_self, and_true, true_and, and_false, false_and, not_true_eq_false, not_false_eq_true, if_pos, if_neg, m19, h1]
  | succ d ih =>
    intro j hj n hn M f hM
    obtain ⟨n, rfl⟩ : ∃ k, n = k + 1 := ⟨n - 1, by omega⟩
    have m19 := hM.1 19 (by decide)
    have c1 := cr_C hr (i := j) (j := i) (by omega) (by omega)
    rw [← cr_cg (hM.1 21 (by decide))] at c1
    cases hc : cr B j i
    · obtain ⟨M', f', e1, e2, e3, e4⟩ := ih (j + 1) (by omega) n (by omega) M f hM
      refine ⟨M', f', ?_, e2, e3, ?_⟩
      · rw [← e1]
        simp (disch := omega) only [f_TT_lengthensChain_2, f_TT_lengthensChain_45, jp_c, decide_eq_true_eq, n_lit, n_neg1, n_add, n_mul, n_sub, n_div, n_mod, n_le, n_lt, n_eq, n_cl, n_in, Nat.reduceEqDiff, Nat.reduceAdd, Nat.reduceMul, ite_true, ite_false, if_true, if_false, eq_self_iff_true, ↓reduceIte, and_self, and_true, true_and, and_false, false_and, not_true_eq_false, not_false_eq_true, if_pos, if_neg, m19, h1, c1, hc, Option.bind_some, Bool.false_eq_true]
      · intro a g1 g2 g3
        by_cases ha : a = j
        · subst ha; rw [hc] at g3; exact absurd g3 (by decide)
        · exact e4 a (by omega) g2 g3
    · have q1 := hM.2 i hi
      have q2 := hM.2 j (by omega)
      have q3 := Lr_sol (N := N) (cr_p (B := B)) (a := j) (b := i) (by omega) hc
      have q4 := Lr_le (c := cr B) (N := N) N i
      obtain ⟨M', f', e1, e2, e3, e4⟩ := ih (j + 1) (by omega) n (by omega) _ _ (ivC_up hM (i := i) (v := max (f i) (f j + 1)) (by omega))
      have e3' : ∀ b, f b ≤ f' b := by
        intro b
        have := e3 b
        by_cases hb : b = i
        · subst hb; simp only [if_true] at this; omega
        · simp only [hb, if_false] at this; exact this
      refine ⟨M', f', ?_, e2, e3', ?_⟩
      · rw [← e1]
        simp (disch := omega) only [f_TT_lengthensChain_2, f_TT_lengthensChain_45, jp_c, decide_eq_true_eq, n_lit, n_neg1, n_add, n_mul, n_sub, n_div, n_mod, n_le, n_lt, n_eq, n_cl, n_in, Nat.reduceEqDiff, Nat.reduceAdd, Nat.reduceMul, ite_true, ite_false, if_true, if_false, eq_self_iff_true, ↓reduceIte, and_self, and_true, true_and, and_false, false_and, not_true_eq_false, not_false_eq_true, if_pos, if_neg, m19, h1, c1, hc, Option.bind_some, jg_t, q1.1, q2.1, n_max]
      · intro a g1 g2 g3
        by_cases ha : a = j
        · subst ha
          have := e3 i
          simp only [if_true] at this
          omega
        · have := e4 a (by omega) g2 g3
          by_cases hb : a = i
          · subst hb; simp only [if_true] at this; omega
          · simp only [hb, if_false] at this; exact this
theorem l_lay43 {A B : jp_M} {N : Nat} (hN : N ≤ 10) (h1 : A 19 1 = nI N) (hr : ∀ i, i < 10 → A 21 (2 * i) = B 132 i ∧ A 21 (2 * i + 1) = B 133 i) {t : Nat} (c : Int32 → Int32 → jp_M → Option (Int32 × jp_M)) : ∀ d i, i + d = N → ∀ n, d < n → ∀ M f l, ivC A 63 N (Lr (cr B) N N) f M → (∀ b, b < N → Lr (cr B) N t b ≤ f b) → l ≤ mxr (Lr (cr B) N N) N 0 →
    ∃ M' f' l', f_TT_layers_43 n c (nI l) (nI t) (nI i) M = c (nI l') (nI (t + 1)) M' ∧ ivC A 63 N (Lr (cr B) N N) f' M' ∧ (∀ b, f b ≤ f' b) ∧ l ≤ l' ∧ l' ≤ mxr (Lr (cr B) N N) N 0 ∧ ∀ b, i ≤ b → b < N → Lr (cr B) N (t + 1) b ≤ f' b ∧ Lr (cr B) N (t + 1) b ≤ l' := by
  intro d
  induction d with
  | zero =>
    intro i hi n hn M f l hM hf hl
    obtain ⟨n, rfl⟩ : ∃ k, n = k + 1 := ⟨n - 1, by omega⟩
    refine ⟨M, f, l, ?_, hM, fun _ => Nat.le_refl _, Nat.le_refl _, hl, fun b g1 g2 => by omega⟩
    have m19 := hM.1 19 (by decide)
    simp (disch := omega) only [f_TT_layers_43, jp_c, decide_eq_true_eq, n_lit, n_neg1, n_add, n_mul, n_sub, n_div, n_mod, n_le, n_lt, n_eq, n_cl, n_in, Nat.reduceEqDiff, Nat.reduceAdd, Nat.reduceMul, ite_true, ite_false, if_true, if_false, eq_self_iff_true, ↓reduceIte, and_self, and_true, true_and, and_false, false_and, not_true_eq_false, not_false_eq_true, if_pos, if_neg, m19, h1]
  | succ d ih =>
    intro i hi n hn M f l hM hf hl
    obtain ⟨n, rfl⟩ : ∃ k, n = k + 1 := ⟨n - 1, by omega⟩
    have m19 := hM.1 19 (by decide)
    obtain ⟨M1, f1, a1, a2, a3, a4⟩ := l_len hN h1 hr (i := i) (by omega) N 0 (by omega) jFu (jFu_lt (by omega)) M f hM
    have a5 : Lr (cr B) N (t + 1) i ≤ f1 i := by
      refine Lr_ub ?_ (fun a ha h => ?_)
      · have := hf i (by omega)
        have := Lr_pos (c := cr B) (N := N) t i
        have := a3 i
        omega
      · have := a4 a (by omega) ha h
        have := hf a ha
        omega
    obtain ⟨q1, q2⟩ := a2.2 i (by omega)
    have q3 := Lr_le (c := cr B) (N := N) N i
    have q4 := (mxr_ge (f := Lr (cr B) N N) (s := 0) (n := N)).2 i (by omega)
    have q5 : mxr (Lr (cr B) N N) N 0 ≤ 20 := by
      rw [mxr_le]
      refine ⟨by omega, fun a ha => ?_⟩
      have := Lr_le (c := cr B) (N := N) N a
      omega
    obtain ⟨M', f', l', e1, e2, e3, e4, e5, e6⟩ := ih (i + 1) (by omega) n (by omega) M1 f1 (max l (f1 i)) a2 (fun b hb => Nat.le_trans (hf b hb) (a3 b)) (by omega)
    refine ⟨M', f', l', ?_, e2, fun b => Nat.le_trans (a3 b) (e3 b), by omega, e5, ?_⟩
    · rw [← e1]
      simp (disch := omega) only [f_TT_layers_43, f_TT_lengthensChain, jp_c, decide_eq_true_eq, n_lit, n_neg1, n_add, n_mul, n_sub, n_div, n_mod, n_le, n_lt, n_eq, n_cl, n_in, Nat.reduceEqDiff, Nat.reduceAdd, Nat.reduceMul, ite_true, ite_false, if_true, if_false, eq_self_iff_true, ↓reduceIte, and_self, and_true, true_and, and_false, false_and, not_true_eq_false, not_false_eq_true, if_pos, if_neg, m19, h1, a1, Option.bind_some, jg_t, q1, n_max]
    · intro b g1 g2
      by_cases hb : b = i
      · subst hb
        have := e3 b
        omega
      · exact e6 b (by omega) g2
theorem l_lay30 {A B : jp_M} {N : Nat} (hN : N ≤ 10) (h1 : A 19 1 = nI N) (hr : ∀ i, i < 10 → A 21 (2 * i) = B 132 i ∧ A 21 (2 * i + 1) = B 133 i) : ∀ d t, t + d = N → ∀ n, d < n → ∀ M f l, ivC A 63 N (Lr (cr B) N N) f M → (∀ b, b < N → Lr (cr B) N t b ≤ f b) → l ≤ mxr (Lr (cr B) N N) N 0 → (0 < t → ∀ b, b < N → Lr (cr B) N t b ≤ l) →
    ∃ M', f_TT_layers_30 n (nI l) (nI t) M = some (nI (mxr (Lr (cr B) N N) N 0), M') ∧ ∀ q, ¬ q = 63 → M' q = A q := by
  intro d
  induction d with
  | zero =>
    intro t ht n hn M f l hM hf hl hz
    obtain ⟨n, rfl⟩ : ∃ k, n = k + 1 := ⟨n - 1, by omega⟩
    have m19 := hM.1 19 (by decide)
    refine ⟨M, ?_, hM.1⟩
    have : l = mxr (Lr (cr B) N N) N 0 := by
      refine Nat.le_antisymm hl ?_
      rw [mxr_le]
      refine ⟨by omega, fun a ha => ?_⟩
      obtain rfl : t = N := by omega
      exact hz (by omega) a ha
    rw [← this]
    simp (disch := omega) only [f_TT_layers_30, jp_c, decide_eq_true_eq, n_lit, n_neg1, n_add, n_mul, n_sub, n_div, n_mod, n_le, n_lt, n_eq, n_cl, n_in, Nat.reduceEqDiff, Nat.reduceAdd, Nat.reduceMul, ite_true, ite_false, if_true, if_false, eq_self_iff_true, ↓reduceIte, and_self, and_true, true_and, and_false, false_and, not_true_eq_false, not_false_eq_true, if_pos, if_neg, m19, h1]
  | succ d ih =>
    intro t ht n hn M f l hM hf hl hz
    obtain ⟨n, rfl⟩ : ∃ k, n = k + 1 := ⟨n - 1, by omega⟩
    have m19 := hM.1 19 (by decide)
    obtain ⟨M1, f1, l1, a1, a2, a3, a4, a5, a6⟩ := l_lay43 hN h1 hr (t := t) (f_TT_layers_30 n) N 0 (by omega) jFu (jFu_lt (by omega)) M f l hM hf hl
    obtain ⟨M', e1, e2⟩ := ih (t + 1) (by omega) n (by omega) M1 f1 l1 a2 (fun b hb => (a6 b (by omega) hb).1) a5 (fun _ b hb => (a6 b (by omega) hb).2)
    refine ⟨M', ?_, e2⟩
    rw [← e1, ← a1]
    simp (disch := omega) only [f_TT_layers_30, jp_c, decide_eq_true_eq, n_lit, n_neg1, n_add, n_mul, n_sub, n_div, n_mod, n_le, n_lt, n_eq, n_cl, n_in, Nat.reduceEqDiff, Nat.reduceAdd, Nat.reduceMul, ite_true, ite_false, if_true, if_false, eq_self_iff_true, ↓reduceIte, and_self, and_true, true_and, and_false, false_and, not_true_eq_false, not_false_eq_true, if_pos, if_neg, m19, h1]
theorem l_lay4 {A : jp_M} {N : Nat} (hN : N ≤ 10) (h1 : A 19 1 = nI N) {H : Nat → Nat} (hH : ∀ b, 1 ≤ H b) : ∀ d i, i + d = N → ∀ n, d < n → ∀ M, (∀ q, ¬ q = 63 → M q = A q) → (∀ b, b < i → M 63 b = nI 1) → ∃ M', f_TT_layers_4 n (nI 0) (nI i) M = f_TT_layers_30 jFu (nI 0) (nI 0) M' ∧ ivC A 63 N H (fun _ => 1) M' := by
  intro d
  induction d with
  | zero =>
    intro i hi n hn M hM hb
    obtain ⟨n, rfl⟩ : ∃ k, n = k + 1 := ⟨n - 1, by omega⟩
    have m19 := hM 19 (by decide)
    refine ⟨M, ?_, hM, fun b hb' => ⟨hb b (by omega), hH b⟩⟩
    simp (disch := omega) only [f_TT_layers_4, jp_c, decide_eq_true_eq, n_lit, n_neg1, n_add, n_mul, n_sub, n_div, n_mod, n_le, n_lt, n_eq, n_cl, n_in, Nat.reduceEqDiff, Nat.reduceAdd, Nat.reduceMul, ite_true, ite_false, if_true, if_false, eq_self_iff_true, ↓reduceIte, and_self, and_true, true_and, and_false, false_and, not_true_eq_false, not_false_eq_true, if_pos, if_neg, m19, h1]
  | succ d ih =>
    intro i hi n hn M hM hb
    obtain ⟨n, rfl⟩ : ∃ k, n = k + 1 := ⟨n - 1, by omega⟩
    have m19 := hM 19 (by decide)
    obtain ⟨M', e1, e2⟩ := ih (i + 1) (by omega) n (by omega) (jp_set M 63 (upd (M 63) i (nI 1))) (fun q hq => by rw [st_ne hq, hM q hq]) (fun b hb' => by
      rw [st_same]
      by_cases h : b = i
      · rw [ud_eq h]
      · rw [ud_ne h]; exact hb b (by omega))
    refine ⟨M', ?_, e2⟩
    rw [← e1]
    simp (disch := omega) only [f_TT_layers_4, jp_c, decide_eq_true_eq, n_lit, n_neg1, n_add, n_mul, n_sub, n_div, n_mod, n_le, n_lt, n_eq, n_cl, n_in, Nat.reduceEqDiff, Nat.reduceAdd, Nat.reduceMul, ite_true, ite_false, if_true, if_false, eq_self_iff_true, ↓reduceIte, and_self, and_true, true_and, and_false, false_and, not_true_eq_false, not_false_eq_true, if_pos, if_neg, m19, h1, jg_t]
theorem l_layC {A B : jp_M} {N : Nat} (hN : N ≤ 10) (h1 : A 19 1 = nI N) (hr : ∀ i, i < 10 → A 21 (2 * i) = B 132 i ∧ A 21 (2 * i + 1) = B 133 i) : ∃ M', f_TT_layers A = some (nI (mxr (Lr (cr B) N N) N 0), M') ∧ ∀ q, ¬ q = 63 → M' q = A q := by
  obtain ⟨M1, e1, e2⟩ := l_lay4 hN h1 (H := Lr (cr B) N N) (fun b => Lr_pos _ _) N 0 (by omega) jFu (jFu_lt (by omega)) A (fun _ _ => rfl) (fun b hb => by omega)
  obtain ⟨M', e3, e4⟩ := l_lay30 hN h1 hr N 0 (by omega) jFu (jFu_lt (by omega)) M1 _ 0 e2 (fun b hb => Nat.le_refl _) (by omega) (fun h => by omega)
  exact ⟨M', by rw [← e3, ← e1]; rfl, e4⟩
theorem l_lm48 {B : jp_M} {N : Nat} (hN : N ≤ 10) (h2 : B 104 49 = nI N) {t a : Nat} (ha : a < N) (c17 : Int32 → Int32 → jp_M → Option (Int32 × jp_M)) (c23 : Int32 → Int32 → Int32 → jp_M → Option (Int32 × jp_M)) : ∀ d b, b + d = N → ∀ n, d < n → ∀ M f, ivC B 134 N (Lr (cr B) N N) f M → (∀ b, b < N → Lr (cr B) N t b ≤ f b) →
    ∃ M' f', f_M_layers_48 n c17 c23 (nI 0) (nI t) (nI a) (nI b) M = c23 (nI 0) (nI t) (nI (a + 1)) M' ∧ ivC B 134 N (Lr (cr B) N N) f' M' ∧ (∀ b, f b ≤ f' b) ∧ ∀ k, b ≤ k → k < N → cr B a k = true → Lr (cr B) N t a + 1 ≤ f' k := by
  intro d
  induction d with
  | zero =>
    intro b hb n hn M f hM hf
    obtain ⟨n, rfl⟩ : ∃ k, n = k + 1 := ⟨n - 1, by omega⟩
    refine ⟨M, f, ?_, hM, fun _ => Nat.le_refl _, fun k g1 g2 => by omega⟩
    have m19 := hM.1 104 (by decide)
    simp (disch := omega) only [f_M_layers_48, jp_c, decide_eq_true_eq, n_lit, n_neg1, n_add, n_mul, n_sub, n_div, n_mod, n_le, n_lt, n_eq, n_cl, n_in, Nat.reduceEqDiff, Nat.reduceAdd, Nat.reduceMul, ite_true, ite_false, if_true, if_false, eq_self_iff_true, ↓reduceIte, and_self, and_true, true_and, and_false, false_and, not_true_eq_false, not_false_eq_true, if_pos, if_neg, m19, h2]
  | succ d ih =>
    intro b hb n hn M f hM hf
    obtain ⟨n, rfl⟩ : ∃ k, n = k + 1 := ⟨n - 1, by omega⟩
    have m19 := hM.1 104 (by decide)
    have c1 := cr_M (B := B) (i := a) (j := b) (by omega) (by omega)
    rw [← cr_cgM (hM.1 132 (by decide)) (hM.1 133 (by decide))] at c1
    cases hc : cr B a b
    · obtain ⟨M', f', e1, e2, e3, e4⟩ := ih (b + 1) (by omega) n (by omega) M f hM hf
      refine ⟨M', f', ?_, e2, e3, ?_⟩
      · rw [← e1]
        simp (disch := omega) only [f_M_layers_48, f_M_layers_93, jp_c, decide_eq_true_eq, n_lit, n_neg1, n_add, n_mul, n_sub, n_div, n_mod, n_le, n_lt, n_eq, n_cl, n_in, Nat.reduceEqDiff, Nat.reduceAdd, Nat.reduceMul, ite_true, ite_false, if_true, if_false, eq_self_iff_true, ↓reduceIte, and_self, and_true, true_and, and_false, false_and, not_true_eq_false, not_false_eq_true, if_pos, if_neg, m19, h2, c1, hc, Option.bind_some, Bool.false_eq_true]
      · intro k g1 g2 g3
        by_cases hk : k = b
        · subst hk; rw [hc] at g3; exact absurd g3 (by decide)
        · exact e4 k (by omega) g2 g3
    · have q1 := hM.2 a ha
      have q2 := hM.2 b (by omega)
      have q3 := Lr_sol (N := N) (cr_p (B := B)) (a := a) (b := b) (by omega) hc
      have q4 := Lr_le (c := cr B) (N := N) N b
      have q5 := hf a ha
      obtain ⟨M', f', e1, e2, e3, e4⟩ := ih (b + 1) (by omega) n (by omega) _ _ (ivC_up hM (i := b) (v := max (f b) (f a + 1)) (by omega)) (by
        intro k hk
        have := hf k hk
        by_cases hkb : k = b
        · subst hkb; simp only [if_true]; omega
        · simp only [hkb, if_false]; exact this)
      have e3' : ∀ k, f k ≤ f' k := by
        intro k
        have := e3 k
        by_cases hkb : k = b
        · subst hkb; simp only [if_true] at this; omega
        · simp only [hkb, if_false] at this; exact this
      refine ⟨M', f', ?_, e2, e3', ?_⟩
      · rw [← e1]
        simp (disch := omega) only [f_M_layers_48, f_M_layers_93, jp_c, decide_eq_true_eq, n_lit, n_neg1, n_add, n_mul, n_sub, n_div, n_mod, n_le, n_lt, n_eq, n_cl, n_in, Nat.reduceEqDiff, Nat.reduceAdd, Nat.reduceMul, ite_true, ite_false, if_true, if_false, eq_self_iff_true, ↓reduceIte, and_self, and_true, true_and, and_false, false_and, not_true_eq_false, not_false_eq_true, if_pos, if_neg, m19, h2, c1, hc, Option.bind_some, jg_t, q1.1, q2.1, n_gr, n_max]
      · intro k g1 g2 g3
        by_cases hk : k = b
        · subst hk
          have := e3 k
          simp only [if_true] at this
          omega
        · exact e4 k (by omega) g2 g3
theorem l_lm37 {B : jp_M} {N : Nat} (hN : N ≤ 10) (h2 : B 104 49 = nI N) {t : Nat} (ht : t < N) (c17 : Int32 → Int32 → jp_M → Option (Int32 × jp_M)) : ∀ d a, a + d = N → ∀ n, d < n → ∀ M f, ivC B 134 N (Lr (cr B) N N) f M → (∀ b, b < N → Lr (cr B) N t b ≤ f b) →
    ∃ M' f', f_M_layers_37 n c17 (nI 0) (nI t) (nI a) M = c17 (nI 0) (nI (t + 1)) M' ∧ ivC B 134 N (Lr (cr B) N N) f' M' ∧ (∀ b, f b ≤ f' b) ∧ ∀ k a', a ≤ a' → a' < N → k < N → cr B a' k = true → Lr (cr B) N t a' + 1 ≤ f' k := by
  intro d
  induction d with
  | zero =>
    intro a ha n hn M f hM hf
    obtain ⟨n, rfl⟩ : ∃ k, n = k + 1 := ⟨n - 1, by omega⟩
    refine ⟨M, f, ?_, hM, fun _ => Nat.le_refl _, fun k a' g1 g2 => by omega⟩
    have m19 := hM.1 104 (by decide)
    simp (disch := omega) only [f_M_layers_37, jp_c, decide_eq_true_eq, n_lit, n_neg1, n_add, n_mul, n_sub, n_div, n_mod, n_le, n_lt, n_eq, n_cl, n_in, Nat.reduceEqDiff, Nat.reduceAdd, Nat.reduceMul, ite_true, ite_false, if_true, if_false, eq_self_iff_true, ↓reduceIte, and_self, and_true, true_and, and_false, false_and, not_true_eq_false, not_false_eq_true, if_pos, if_neg, m19, h2]
  | succ d ih =>
    intro a ha n hn M f hM hf
    obtain ⟨n, rfl⟩ : ∃ k, n = k + 1 := ⟨n - 1, by omega⟩
    have m19 := hM.1 104 (by decide)
    obtain ⟨M1, f1, a1, a2, a3, a4⟩ := l_lm48 hN h2 (t := t) (a := a) (by omega) c17 (f_M_layers_37 n c17) N 0 (by omega) jFu (jFu_lt (by omega)) M f hM hf
    obtain ⟨M', f', e1, e2, e3, e4⟩ := ih (a + 1) (by omega) n (by omega) M1 f1 a2 (fun b hb => Nat.le_trans (hf b hb) (a3 b))
    refine ⟨M', f', ?_, e2, fun b => Nat.le_trans (a3 b) (e3 b), ?_⟩
    · rw [← e1, ← a1]
      simp (disch := omega) only [f_M_layers_37, jp_c, decide_eq_true_eq, n_lit, n_neg1, n_add, n_mul, n_sub, n_div, n_mod, n_le, n_lt, n_eq, n_cl, n_in, Nat.reduceEqDiff, Nat.reduceAdd, Nat.reduceMul, ite_true, ite_false, if_true, if_false, eq_self_iff_true, ↓reduceIte, and_self, and_true, true_and, and_false, false_and, not_true_eq_false, not_false_eq_true, if_pos, if_neg, m19, h2]
    · intro k a' g1 g2 g3 g4
      by_cases h : a' = a
      · subst h
        exact Nat.le_trans (a4 k (by omega) g3 g4) (e3 k)
      · exact e4 k a' (by omega) g2 g3 g4
theorem l_lm27 {B : jp_M} {N : Nat} (hN : N ≤ 10) (h2 : B 104 49 = nI N) : ∀ d t, t + d = N → ∀ n, d < n → ∀ M f, ivC B 134 N (Lr (cr B) N N) f M → (∀ b, b < N → Lr (cr B) N t b ≤ f b) →
    ∃ M', f_M_layers_27 n (nI 0) (nI t) M = f_M_layers_113 jFu (nI 0) (nI 0) M' ∧ (∀ q, ¬ q = 134 → M' q = B q) ∧ ∀ b, b < N → M' 134 b = nI (Lr (cr B) N N b) := by
  intro d
  induction d with
  | zero =>
    intro t ht n hn M f hM hf
    obtain ⟨n, rfl⟩ : ∃ k, n = k + 1 := ⟨n - 1, by omega⟩
    have m19 := hM.1 104 (by decide)
    refine ⟨M, ?_, hM.1, fun b hb => ?_⟩
    · simp (disch := omega) only [f_M_layers_27, jp_c, decide_eq_true_eq, n_lit, n_neg1, n_add, n_mul, n_sub, n_div, n_mod, n_le, n_lt, n_eq, n_cl, n_in, Nat.reduceEqDiff, Nat.reduceAdd, Nat.reduceMul, ite_true, ite_false, if_true, if_false, eq_self_iff_true, ↓reduceIte, and_self, and_true, true_and, and_false, false_and, not_true_eq_false, not_false_eq_true, if_pos, if_neg, m19, h2]
    · obtain ⟨q1, q2⟩ := hM.2 b hb
      obtain rfl : t = N := by omega
      rw [q1, Nat.le_antisymm q2 (hf b hb)]
  | succ d ih =>
    intro t ht n hn M f hM hf
    obtain ⟨n, rfl⟩ : ∃ k, n = k + 1 := ⟨n - 1, by omega⟩
    have m19 := hM.1 104 (by decide)
    obtain ⟨M1, f1, a1, a2, a3, a4⟩ := l_lm37 hN h2 (t := t) (by omega) (f_M_layers_27 n) N 0 (by omega) jFu (jFu_lt (by omega)) M f hM hf
    obtain ⟨M', e1, e2, e3⟩ := ih (t + 1) (by omega) n (by omega) M1 f1 a2 (fun b hb => Lr_ub (by
      have := Lr_pos (c := cr B) (N := N) t b
      have := hf b hb
      have := a3 b
      omega) (fun a ha h => a4 b a (by omega) ha hb h))
    refine ⟨M', ?_, e2, e3⟩
    rw [← e1, ← a1]
    simp (disch := omega) only [f_M_layers_27, jp_c, decide_eq_true_eq, n_lit, n_neg1, n_add, n_mul, n_sub, n_div, n_mod, n_le, n_lt, n_eq, n_cl, n_in, Nat.reduceEqDiff, Nat.reduceAdd, Nat.reduceMul, ite_true, ite_false, if_true, if_false, eq_self_iff_true, ↓reduceIte, and_self, and_true, true_and, and_false, false_and, not_true_eq_false, not_false_eq_true, if_pos, if_neg, m19, h2]
theorem l_lm113 {B : jp_M} {N : Nat} (hN : N ≤ 10) (h2 : B 104 49 = nI N) {H : Nat → Nat} (hH : ∀ b, H b ≤ 20) {M : jp_M} (hM : M 104 49 = nI N) (hf : ∀ b, b < N → M 134 b = nI (H b)) : ∀ d i, i + d = N → ∀ n, d < n → f_M_layers_113 n (nI (mxr H i 0)) (nI i) M = some (nI (mxr H N 0), M) := by
  intro d
  induction d with
  | zero =>
    intro i hi n hn
    obtain ⟨n, rfl⟩ : ∃ k, n = k + 1 := ⟨n - 1, by omega⟩
    obtain rfl : i = N := by omega
    simp (disch := omega) only [f_M_layers_113, jp_c, decide_eq_true_eq, n_lit, n_neg1, n_add, n_mul, n_sub, n_div, n_mod, n_le, n_lt, n_eq, n_cl, n_in, Nat.reduceEqDiff, Nat.reduceAdd, Nat.reduceMul, ite_true, ite_false, if_true, if_false, eq_self_iff_true, ↓reduceIte, and_self, and_true, true_and, and_false, false_and, not_true_eq_false, not_false_eq_true, if_pos, if_neg, hM]
  | succ d ih =>
    intro i hi n hn
    obtain ⟨n, rfl⟩ : ∃ k, n = k + 1 := ⟨n - 1, by omega⟩
    have q := hf i (by omega)
    have q5 : mxr H i 0 ≤ 20 := by
      rw [mxr_le]
      exact ⟨by omega, fun a ha => hH a⟩
    have q6 := hH i
    rw [← ih (i + 1) (by omega) n (by omega)]
    simp (disch := omega) only [f_M_layers_113, jp_c, decide_eq_true_eq, n_lit, n_neg1, n_add, n_mul, n_sub, n_div, n_mod, n_le, n_lt, n_eq, n_cl, n_in, Nat.reduceEqDiff, Nat.reduceAdd, Nat.reduceMul, ite_true, ite_false, if_true, if_false, eq_self_iff_true, ↓reduceIte, and_self, and_true, true_and, and_false, false_and, not_true_eq_false, not_false_eq_true, if_pos, if_neg, hM, q, n_gr, n_max, jg_t, mxr]
theorem l_lm4 {B : jp_M} {N : Nat} (hN : N ≤ 10) (h2 : B 104 49 = nI N) {H : Nat → Nat} (hH : ∀ b, 1 ≤ H b) : ∀ d i, i + d = N → ∀ n, d < n → ∀ M, (∀ q, ¬ q = 134 → M q = B q) → (∀ b, b < i → M 134 b = nI 1) → ∃ M', f_M_layers_4 n (nI 0) (nI i) M = f_M_layers_27 jFu (nI 0) (nI 0) M' ∧ ivC B 134 N H (fun _ => 1) M' := by
  intro d
  induction d with
  | zero =>
    intro i hi n hn M hM hb
    obtain ⟨n, rfl⟩ : ∃ k, n = k + 1 := ⟨n - 1, by omega⟩
    have m19 := hM 104 (by decide)
    refine ⟨M, ?_, hM, fun b hb' => ⟨hb b (by omega), hH b⟩⟩
    simp (disch := omega) only [f_M_layers_4, jp_c, decide_eq_true_eq, n_lit, n_neg1, n_add, n_mul, n_sub, n_div, n_mod, n_le, n_lt, n_eq, n_cl, n_in, Nat.reduceEqDiff, Nat.reduceAdd, Nat.reduceMul, ite_true, ite_false, if_true, if_false, eq_self_iff_true, ↓reduceIte, and_self, and_true, true_and, and_false, false_and, not_true_eq_false, not_false_eq_true, if_pos, if_neg, m19, h2]
  | succ d ih =>
    intro i hi n hn M hM hb
    obtain ⟨n, rfl⟩ : ∃ k, n = k + 1 := ⟨n - 1, by omega⟩
    have m19 := hM 104 (by decide)
    obtain ⟨M', e1, e2⟩ := ih (i + 1) (by omega) n (by omega) (jp_set M 134 (upd (M 134) i (nI 1))) (fun q hq => by rw [st_ne hq, hM q hq]) (fun b hb' => by
      rw [st_same]
      by_cases h : b = i
      · rw [ud_eq h]
      · rw [ud_ne h]; exact hb b (by omega))
    refine ⟨M', ?_, e2⟩
    rw [← e1]
    simp (disch := omega) only [f_M_layers_4, jp_c, decide_eq_true_eq, n_lit, n_neg1, n_add, n_mul, n_sub, n_div, n_mod, n_le, n_lt, n_eq, n_cl, n_in, Nat.reduceEqDiff, Nat.reduceAdd, Nat.reduceMul, ite_true, ite_false, if_true, if_false, eq_self_iff_true, ↓reduceIte, and_self, and_true, true_and, and_false, false_and, not_true_eq_false, not_false_eq_true, if_pos, if_neg, m19, h2, jg_t]
theorem l_layM {B : jp_M} {N : Nat} (hN : N ≤ 10) (h2 : B 104 49 = nI N) : ∃ M', f_M_layers B = some (nI (mxr (Lr (cr B) N N) N 0), M') ∧ ∀ q, ¬ q = 134 → M' q = B q := by
  obtain ⟨M1, e1, e2⟩ := l_lm4 hN h2 (H := Lr (cr B) N N) (fun b => Lr_pos _ _) N 0 (by omega) jFu (jFu_lt (by omega)) B (fun _ _ => rfl) (fun b hb => by omega)
  obtain ⟨M', e3, e4, e5⟩ := l_lm27 hN h2 N 0 (by omega) jFu (jFu_lt (by omega)) M1 _ e2 (fun b hb => Nat.le_refl _)
  refine ⟨M', ?_, e4⟩
  have := l_lm113 hN h2 (H := Lr (cr B) N N) (fun b => by have := Lr_le (c := cr B) (N := N) N b; omega) (M := M') (by rw [e4 104 (by decide), h2]) e5 N 0 (by omega) jFu (jFu_lt (by omega))
  rw [← this, show mxr (Lr (cr B) N N) 0 0 = 0 from rfl, ← e3, ← e1]
  rfl
theorem p_strings (a : Int32) {A B : jp_M} (hR : Rel A B) : pOK (f_C_strings a A) (f_M_strings a B) := by
  have T := Rel_told (x := nI 0) hR
  generalize hB1 : jp_set B 104 (upd (B 104) 0 (nI 0)) = B1 at T
  have hT := T
  obtain ⟨⟨hW, hBk, hLw, hPe, hLe, hCi, hWi, hKi, hPo, hWy, hVo⟩, hPic, hKe, hTa, hFa, hTh, hWd⟩ := T
  obtain ⟨⟨N, hN, k1, k2⟩, k3⟩ := hKi
  by_cases h0 : a = nI 0
  · subst h0
    obtain ⟨s, e1, e2⟩ := l_cr2 hN k1 k2 k3 N 0 (by omega) jFu jFu (jFu_lt (by omega)) (jFu_lt (by omega)) (nI 0)
    have c1 : f_C_strings (nI 0) A = some (s, A) := by
      simp (disch := omega) only [f_C_strings, f_TT_crossings, jp_c, decide_eq_true_eq, n_lit, n_neg1, n_add, n_mul, n_sub, n_div, n_mod, n_le, n_lt, n_eq, n_cl, n_in, Nat.reduceEqDiff, Nat.reduceAdd, Nat.reduceMul, ite_true, ite_false, if_true, if_false, eq_self_iff_true, ↓reduceIte, and_self, and_true, true_and, and_false, false_and, not_true_eq_false, not_false_eq_true, if_pos, if_neg]
      rw [e1]; rfl
    have c2 : f_M_strings (nI 0) B = some (s, B1) := by
      rw [← e2]
      simp (disch := omega) only [f_M_strings, hB1, n_isIn, n_it0, jp_c, decide_eq_true_eq, n_lit, n_neg1, n_add, n_mul, n_sub, n_div, n_mod, n_le, n_lt, n_eq, n_cl, n_in, Nat.reduceEqDiff, Nat.reduceAdd, Nat.reduceMul, ite_true, ite_false, if_true, if_false, eq_self_iff_true, ↓reduceIte, and_self, and_true, true_and, and_false, false_and, not_true_eq_false, not_false_eq_true, if_pos, if_neg, Nat.zero_le, Nat.le_refl]
    rw [c1, c2]
    exact pOK_mk rfl hT
  · by_cases h1 : a = nI 1
    · subst h1
      obtain ⟨A', e1, e2⟩ := l_layC hN k1 k3
      obtain ⟨B', e3, e4⟩ := l_layM hN k2
      have c1 : f_C_strings (nI 1) A = some (nI (mxr (Lr (cr B1) N N) N 0), A') := by
        simp (disch := omega) only [f_C_strings, jp_c, decide_eq_true_eq, n_lit, n_neg1, n_add, n_mul, n_sub, n_div, n_mod, n_le, n_lt, n_eq, n_cl, n_in, Nat.reduceEqDiff, Nat.reduceAdd, Nat.reduceMul, ite_true, ite_false, if_true, if_false, eq_self_iff_true, ↓reduceIte, and_self, and_true, true_and, and_false, false_and, not_true_eq_false, not_false_eq_true, if_pos, if_neg, e1, Option.bind_some]
      have c2 : f_M_strings (nI 1) B = some (nI (mxr (Lr (cr B1) N N) N 0), B') := by
        simp (disch := omega) only [f_M_strings, hB1, n_isIn, n_it0, jp_c, decide_eq_true_eq, n_lit, n_neg1, n_add, n_mul, n_sub, n_div, n_mod, n_le, n_lt, n_eq, n_cl, n_in, Nat.reduceEqDiff, Nat.reduceAdd, Nat.reduceMul, ite_true, ite_false, if_true, if_false, eq_self_iff_true, ↓reduceIte, and_self, and_true, true_and, and_false, false_and, not_true_eq_false, not_false_eq_true, if_pos, if_neg, Nat.zero_le, Nat.le_refl, e3, Option.bind_some]
      rw [c1, c2]
      refine pOK_mk rfl (Rel_scA (fun p hp => e2 p ?_) (Rel_scB (fun p hp => e4 p ?_) (fun i hi => by rw [e4 104 (by decide)]) hT))
      · rintro rfl; exact hp (by decide)
      · rintro rfl; exact hp (by decide)
    · have h2 : ¬ (nI 0 ≤ a ∧ a ≤ nI 1) := by
        rintro ⟨g1, g2⟩
        obtain ⟨x, -, hx, rfl⟩ := n_rng (by omega) g1 (by omega) g2
        rw [n_eq (by omega) (by omega)] at h0 h1
        omega
      simp (disch := omega) only [f_C_strings, f_M_strings, hB1, n_isIn, n_it0, jp_c, decide_eq_true_eq, n_lit, n_neg1, n_add, n_mul, n_sub, n_div, n_mod, n_le, n_lt, n_eq, n_cl, n_in, Nat.reduceEqDiff, Nat.reduceAdd, Nat.reduceMul, ite_true, ite_false, if_true, if_false, eq_self_iff_true, ↓reduceIte, and_self, and_true, true_and, and_false, false_and, not_true_eq_false, not_false_eq_true, if_pos, if_neg, h0, h1, h2]
      exact pOK_mk rfl hT
