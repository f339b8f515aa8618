/-- two wishes share a day -/
def shd (B : jp_M) (i j : Nat) : Bool := decide (B 129 i ≤ B 130 j ∧ B 129 j ≤ B 130 i)
theorem shd_c (B : jp_M) (i j : Nat) : shd B i j = shd B j i := by
  unfold shd
  simp only [and_comm]
theorem shd_C {A B : jp_M} (hr : ∀ i, i < 8 → A 20 (3 * i) = B 129 i ∧ A 20 (3 * i + 1) = B 130 i) {i j : Nat} (hi : i < 8) (hj : j < 8) : f_TT_shareDay (nI (3 * i)) (nI (3 * j)) A = some (if shd B i j then nI 1 else nI 0) := by
  obtain ⟨a1, a2⟩ := hr i hi
  obtain ⟨b1, b2⟩ := hr j hj
  unfold shd
  by_cases h1 : B 130 j < B 129 i
  · have h3 : ¬ B 129 i ≤ B 130 j := Int32.not_le.mpr h1
    simp (disch := omega) only [f_TT_shareDay, jp_c, decide_eq_true_eq, n_lit, n_add, n_in, n_cl, Nat.reduceEqDiff, Nat.reduceAdd, Nat.reduceMul, ite_true, ite_false, if_true, if_false, eq_self_iff_true, ↓reduceIte, and_self, and_true, true_and, and_false, false_and, not_true_eq_false, not_false_eq_true, if_pos, if_neg, jg_t, a1, a2, b1, b2, h1, h3, decide_false, Bool.false_eq_true]
  · have h3 : B 129 i ≤ B 130 j := Int32.not_lt.mp h1
    by_cases h2 : B 130 i < B 129 j
    · have h4 : ¬ B 129 j ≤ B 130 i := Int32.not_le.mpr h2
      simp (disch := omega) only [f_TT_shareDay, jp_c, decide_eq_true_eq, n_lit, n_add, n_in, n_cl, Nat.reduceEqDiff, Nat.reduceAdd, Nat.reduceMul, ite_true, ite_false, if_true, if_false, eq_self_iff_true, ↓reduceIte, and_self, and_true, true_and, and_false, false_and, not_true_eq_false, not_false_eq_true, if_pos, if_neg, jg_t, a1, a2, b1, b2, h1, h2, h3, h4, decide_false, Bool.false_eq_true]
    · have h4 : B 129 j ≤ B 130 i := Int32.not_lt.mp h2
      simp (disch := omega) only [f_TT_shareDay, jp_c, decide_eq_true_eq, n_lit, n_add, n_in, n_cl, Nat.reduceEqDiff, Nat.reduceAdd, Nat.reduceMul, ite_true, ite_false, if_true, if_false, eq_self_iff_true, ↓reduceIte, and_self, and_true, true_and, and_false, false_and, not_true_eq_false, not_false_eq_true, if_pos, if_neg, jg_t, a1, a2, b1, b2, h1, h2, h3, h4, decide_true]
theorem l_cl1 {A B : jp_M} {N i : Nat} (hN : N ≤ 8) (hi : i < N) (h19 : A 19 0 = nI N) (hr : ∀ i, i < 8 → A 20 (3 * i) = B 129 i ∧ A 20 (3 * i + 1) = B 130 i) (k : Int32 → jp_M → Option jp_M) :
    ∀ d j, j + d = N → ∀ n, d < n → ∀ M c, (∀ q, ¬ q = 62 → M q = A q) → M 62 i = nI c → c < 256 → ∃ M' c', f_TT_learnsClashes_22 n k (nI i) (nI j) M = k (nI (i + 1)) M' ∧ (∀ q, ¬ q = 62 → M' q = A q) ∧ M' 62 i = nI c' ∧ c' < 256 ∧ (∀ x, ¬ x = i → M' 62 x = M 62 x) ∧ ∀ x, (c'.testBit x = true ↔ c.testBit x = true ∨ (j ≤ x ∧ x < N ∧ ¬ x = i ∧ shd B i x = true)) := by
  intro d
  induction d with
  | zero =>
    intro j hj n hn M c hM hc hc'
    obtain ⟨n, rfl⟩ : ∃ k, n = k + 1 := ⟨n - 1, by omega⟩
    have m19 := hM 19 (by decide)
    refine ⟨M, c, ?_, hM, hc, hc', fun _ _ => rfl, fun x => ⟨Or.inl, ?_⟩⟩
    · simp (disch := omega) only [f_TT_learnsClashes_22, jp_c, decide_eq_true_eq, n_lit, n_add, n_le, Nat.reduceEqDiff, Nat.reduceAdd, Nat.reduceMul, ite_true, ite_false, if_true, if_false, eq_self_iff_true, ↓reduceIte, and_self, and_true, true_and, and_false, false_and, not_true_eq_false, not_false_eq_true, if_pos, if_neg, m19, h19]
    · rintro (h | ⟨h1, h2, -⟩)
      · exact h
      · omega
  | succ d ih =>
    intro j hj n hn M c hM hc hc'
    obtain ⟨n, rfl⟩ : ∃ k, n = k + 1 := ⟨n - 1, by omega⟩
    have m19 := hM 19 (by decide)
    have hr' : ∀ i, i < 8 → M 20 (3 * i) = B 129 i ∧ M 20 (3 * i + 1) = B 130 i := by rw [hM 20 (by decide)]; exact hr
    have sd := shd_C hr' (i := i) (j := j) (by omega) (by omega)
    have nxt : ∀ c0 : Nat, (∀ x, (c0.testBit x = true ↔ c.testBit x = true ∨ (x = j ∧ ¬ x = i ∧ shd B i x = true))) → ∀ c' : Nat, (∀ x, (c'.testBit x = true ↔ c0.testBit x = true ∨ (j + 1 ≤ x ∧ x < N ∧ ¬ x = i ∧ shd B i x = true))) → ∀ x, (c'.testBit x = true ↔ c.testBit x = true ∨ (j ≤ x ∧ x < N ∧ ¬ x = i ∧ shd B i x = true)) := by
      intro c0 h0 c' h1 x
      rw [h1, h0]
      constructor
      · rintro ((h | ⟨h2, h3⟩) | ⟨h2, h3⟩)
        · exact Or.inl h
        · exact Or.inr ⟨by omega, by omega, h3⟩
        · exact Or.inr ⟨by omega, h3⟩
      · rintro (h | ⟨h2, h3, h4⟩)
        · exact Or.inl (Or.inl h)
        · by_cases hx : x = j
          · exact Or.inl (Or.inr ⟨hx, h4⟩)
          · exact Or.inr ⟨by omega, h3, h4⟩
    have same : (¬ j = i → shd B i j = false) → ∀ x, (c.testBit x = true ↔ c.testBit x = true ∨ (x = j ∧ ¬ x = i ∧ shd B i x = true)) := by
      intro h x
      refine ⟨Or.inl, ?_⟩
      rintro (h1 | ⟨rfl, h2, h3⟩)
      · exact h1
      · rw [h h2] at h3; exact absurd h3 (by decide)
    by_cases hji : j = i
    · obtain ⟨M', c', e1, e2, e3, e4, e5, e6⟩ := ih (j + 1) (by omega) n (by omega) M c hM hc hc'
      refine ⟨M', c', ?_, e2, e3, e4, e5, nxt c (same (fun h => absurd hji h)) c' e6⟩
      rw [← e1]
      simp (disch := omega) only [f_TT_learnsClashes_22, f_TT_learnsClashes_63, jp_c, decide_eq_true_eq, n_lit, n_add, n_le, n_eq, Nat.reduceEqDiff, Nat.reduceAdd, Nat.reduceMul, ite_true, ite_false, if_true, if_false, eq_self_iff_true, ↓reduceIte, and_self, and_true, true_and, and_false, false_and, not_true_eq_false, not_false_eq_true, if_pos, if_neg, m19, h19, hji]
    · cases hs : shd B i j
      · rw [hs] at sd
        obtain ⟨M', c', e1, e2, e3, e4, e5, e6⟩ := ih (j + 1) (by omega) n (by omega) M c hM hc hc'
        refine ⟨M', c', ?_, e2, e3, e4, e5, nxt c (same (fun _ => hs)) c' e6⟩
        rw [← e1]
        simp (disch := omega) only [f_TT_learnsClashes_22, f_TT_learnsClashes_63, jp_c, decide_eq_true_eq, n_lit, n_add, n_mul, n_le, n_eq, Nat.reduceEqDiff, Nat.reduceAdd, Nat.reduceMul, ite_true, ite_false, if_true, if_false, eq_self_iff_true, ↓reduceIte, and_self, and_true, true_and, and_false, false_and, not_true_eq_false, not_false_eq_true, if_pos, if_neg, m19, h19, hji, sd, Option.bind_some, Bool.false_eq_true]
      · rw [hs] at sd
        have p2 : 2 ^ j < 256 := Nat.pow_lt_pow_right (m := j) (n := 8) (by omega) (by omega)
        have sl := n_slI (k := j) (by omega)
        obtain ⟨M', c', e1, e2, e3, e4, e5, e6⟩ := ih (j + 1) (by omega) n (by omega) (jp_set M 62 (upd (M 62) i (nI (c ||| 2 ^ j)))) (c ||| 2 ^ j) (fun q hq => by rw [st_ne hq, hM q hq]) (by rw [st_same, ud_eq rfl]) (Nat.or_lt_two_pow (n := 8) hc' p2)
        refine ⟨M', c', ?_, e2, e3, e4, fun x hx => by rw [e5 x hx, st_same, ud_ne hx], nxt (c ||| 2 ^ j) (fun x => ?_) c' e6⟩
        · rw [← e1]
          simp (disch := omega) only [f_TT_learnsClashes_22, f_TT_learnsClashes_63, jp_c, decide_eq_true_eq, n_lit, n_add, n_mul, n_le, n_eq, n_in, n_cl, n_or, Nat.reduceEqDiff, Nat.reduceAdd, Nat.reduceMul, ite_true, ite_false, if_true, if_false, eq_self_iff_true, ↓reduceIte, and_self, and_true, true_and, and_false, false_and, not_true_eq_false, not_false_eq_true, if_pos, if_neg, m19, h19, hji, sd, sl, hc, jg_t, Option.bind_some]
        · rw [Nat.testBit_or, Bool.or_eq_true, Nat.testBit_two_pow, decide_eq_true_eq]
          constructor
          · rintro (h | rfl)
            · exact Or.inl h
            · exact Or.inr ⟨rfl, hji, hs⟩
          · rintro (h | ⟨h, -⟩)
            · exact Or.inl h
            · exact Or.inr h.symm
/-- the clashes that a wish has -/
def clG (B M : jp_M) (N i : Nat) : Prop := ∃ c, M 62 i = nI c ∧ c < 256 ∧ ∀ x, (c.testBit x = true ↔ x < N ∧ ¬ x = i ∧ shd B i x = true)
theorem l_cl2 {A B : jp_M} {N : Nat} (hN : N ≤ 8) (h19 : A 19 0 = nI N) (hr : ∀ i, i < 8 → A 20 (3 * i) = B 129 i ∧ A 20 (3 * i + 1) = B 130 i) :
    ∀ d i, i + d = N → ∀ n, d < n → ∀ M, (∀ q, ¬ q = 62 → M q = A q) → (∀ k, k < i → clG B M N k) → ∃ M', f_TT_learnsClashes_2 n (nI i) M = some M' ∧ (∀ q, ¬ q = 62 → M' q = A q) ∧ ∀ k, k < N → clG B M' N k := by
  intro d
  induction d with
  | zero =>
    intro i hi n hn M hM hk
    obtain ⟨n, rfl⟩ : ∃ k, n = k + 1 := ⟨n - 1, by omega⟩
    have m19 := hM 19 (by decide)
    refine ⟨M, ?_, hM, fun k hk' => hk k (by omega)⟩
    simp (disch := omega) only [f_TT_learnsClashes_2, jp_c, decide_eq_true_eq, n_lit, n_le, Nat.reduceEqDiff, Nat.reduceAdd, Nat.reduceMul, ite_true, ite_false, if_true, if_false, eq_self_iff_true, ↓reduceIte, and_self, and_true, true_and, and_false, false_and, not_true_eq_false, not_false_eq_true, if_pos, if_neg, m19, h19]
  | succ d ih =>
    intro i hi n hn M hM hk
    obtain ⟨n, rfl⟩ : ∃ k, n = k + 1 := ⟨n - 1, by omega⟩
    have m19 := hM 19 (by decide)
    obtain ⟨M1, c, a1, a2, a3, a4, a5, a6⟩ := l_cl1 hN (i := i) (by omega) h19 hr (f_TT_learnsClashes_2 n) N 0 (by omega) jFu (jFu_lt (by omega)) (jp_set M 62 (upd (M 62) i (nI 0))) 0 (fun q hq => by rw [st_ne hq, hM q hq]) (by rw [st_same, ud_eq rfl]) (by omega)
    obtain ⟨M', e1, e2, e3⟩ := ih (i + 1) (by omega) n (by omega) M1 a2 (by
      intro k hk'
      by_cases h : k = i
      · subst h
        refine ⟨c, a3, a4, fun x => ?_⟩
        rw [a6, Nat.zero_testBit]
        constructor
        · rintro (h | ⟨-, h⟩)
          · exact absurd h (by decide)
          · exact h
        · intro h; exact Or.inr ⟨by omega, h⟩
      · obtain ⟨c', c1, c2, c3⟩ := hk k (by omega)
        exact ⟨c', by rw [a5 k h, st_same, ud_ne h, c1], c2, c3⟩)
    refine ⟨M', ?_, e2, e3⟩
    rw [← e1, ← a1]
    simp (disch := omega) only [f_TT_learnsClashes_2, jp_c, decide_eq_true_eq, n_lit, n_le, n_in, n_cl, Nat.reduceEqDiff, Nat.reduceAdd, Nat.reduceMul, ite_true, ite_false, if_true, if_false, eq_self_iff_true, ↓reduceIte, and_self, and_true, true_and, and_false, false_and, not_true_eq_false, not_false_eq_true, if_pos, if_neg, m19, h19, jg_t]
/-- what a set of wishes is worth -/
def ws (w : Nat → Nat) (s : Nat) : Nat → Nat
  | 0 => 0
  | n + 1 => ws w s n + (if s.testBit n then w n else 0)
theorem ws_le {w : Nat → Nat} {s : Nat} (hw : ∀ i, w i ≤ 99) : ∀ n, ws w s n ≤ 99 * n := by
  intro n
  induction n with
  | zero => exact Nat.le_refl _
  | succ n ih =>
    rw [ws]
    have := hw n
    split <;> omega
theorem l_wC {B M : jp_M} {N s : Nat} {w : Nat → Nat} (hN : N ≤ 8) (hs : s < 256) (h19 : M 19 0 = nI N) (hw : ∀ i, w i ≤ 99) (hr : ∀ i, i < 8 → M 20 (3 * i + 2) = nI (w i)) (hc : ∀ k, k < N → clG B M N k) :
    ∀ d i, i + d = N → ∀ n, d < n → ∃ ok : Bool, f_TT_worthOf_4 n (nI s) (nI (ws w s i)) (nI i) M = some (if ok then nI (ws w s N) else nI 4294967295) ∧ (ok = true ↔ ∀ x, i ≤ x → x < N → s.testBit x = true → ∀ y, y < N → s.testBit y = true → ¬ y = x → shd B x y = false) := by
  intro d
  induction d with
  | zero =>
    intro i hi n hn
    obtain ⟨n, rfl⟩ : ∃ k, n = k + 1 := ⟨n - 1, by omega⟩
    obtain rfl : i = N := by omega
    refine ⟨true, ?_, fun _ x h1 h2 => by omega, fun _ => rfl⟩
    simp (disch := omega) only [f_TT_worthOf_4, jp_c, decide_eq_true_eq, n_lit, n_le, Nat.reduceEqDiff, Nat.reduceAdd, Nat.reduceMul, ite_true, ite_false, if_true, if_false, eq_self_iff_true, ↓reduceIte, and_self, and_true, true_and, and_false, false_and, not_true_eq_false, not_false_eq_true, if_pos, if_neg, h19]
  | succ d ih =>
    intro i hi n hn
    obtain ⟨n, rfl⟩ : ∃ k, n = k + 1 := ⟨n - 1, by omega⟩
    have b1 := n_btI (s := s) (k := i) (by omega) (by omega)
    have wl := ws_le (s := s) hw i
    have hwi := hw i
    obtain ⟨ok, e1, e2⟩ := ih (i + 1) (by omega) n (by omega)
    cases hb : s.testBit i
    · rw [hb] at b1
      have w1 : ws w s (i + 1) = ws w s i := by rw [ws, hb]; rfl
      rw [w1] at e1
      refine ⟨ok, ?_, ?_⟩
      · rw [← e1]
        simp (disch := omega) only [f_TT_worthOf_4, f_TT_worthOf_53, jp_c, decide_eq_true_eq, n_lit, n_add, n_le, n_eq, Nat.reduceEqDiff, Nat.reduceAdd, Nat.reduceMul, ite_true, ite_false, if_true, if_false, eq_self_iff_true, ↓reduceIte, and_self, and_true, true_and, and_false, false_and, not_true_eq_false, not_false_eq_true, if_pos, if_neg, h19, b1, Bool.false_eq_true]
      · rw [e2]
        refine ⟨fun h x h1 h2 h3 => ?_, fun h x h1 h2 h3 => h x (by omega) h2 h3⟩
        by_cases hx : x = i
        · subst hx; rw [hb] at h3; exact absurd h3 (by decide)
        · exact h x (by omega) h2 h3
    · rw [hb] at b1
      obtain ⟨c, c1, c2, c3⟩ := hc i (by omega)
      have an : nI c &&& nI s = nI (c &&& s) := n_and c s
      have al : c &&& s < 256 := Nat.lt_of_le_of_lt Nat.and_le_left c2
      have key : c &&& s = 0 ↔ ∀ y, y < N → s.testBit y = true → ¬ y = i → shd B i y = false := by
        constructor
        · intro h y y1 y2 y3
          have h1 := congrArg (fun z => Nat.testBit z y) h
          simp only [Nat.testBit_and, Nat.zero_testBit] at h1
          rw [y2, Bool.and_true] at h1
          cases hsd : shd B i y
          · rfl
          · rw [(c3 y).2 ⟨y1, y3, hsd⟩] at h1; exact absurd h1 (by decide)
        · intro h
          apply Nat.eq_of_testBit_eq
          intro y
          rw [Nat.testBit_and, Nat.zero_testBit]
          cases hy : s.testBit y
          · rw [Bool.and_false]
          · cases hcy : c.testBit y
            · rfl
            · obtain ⟨y1, y2, y3⟩ := (c3 y).1 hcy
              rw [h y y1 hy y2] at y3; exact absurd y3 (by decide)
      have w1 : ws w s (i + 1) = ws w s i + w i := by rw [ws, hb]; rfl
      rw [w1] at e1
      have hri := hr i (by omega)
      by_cases hk : c &&& s = 0
      · refine ⟨ok, ?_, ?_⟩
        · rw [← e1]
          simp (disch := omega) only [f_TT_worthOf_4, f_TT_worthOf_53, jp_c, decide_eq_true_eq, n_lit, n_add, n_mul, n_le, n_eq, n_in, n_cl, Nat.reduceEqDiff, Nat.reduceAdd, Nat.reduceMul, ite_true, ite_false, if_true, if_false, eq_self_iff_true, ↓reduceIte, and_self, and_true, true_and, and_false, false_and, not_true_eq_false, not_false_eq_true, if_pos, if_neg, h19, b1, c1, an, hk, hri, jg_t]
        · rw [e2]
          refine ⟨fun h x h1 h2 h3 => ?_, fun h x h1 h2 h3 => h x (by omega) h2 h3⟩
          by_cases hx : x = i
          · subst hx; exact key.1 hk
          · exact h x (by omega) h2 h3
      · refine ⟨false, ?_, ?_⟩
        · simp (disch := omega) only [f_TT_worthOf_4, f_TT_worthOf_53, jp_c, decide_eq_true_eq, n_lit, n_neg1, n_add, n_mul, n_le, n_eq, n_in, n_cl, Nat.reduceEqDiff, Nat.reduceAdd, Nat.reduceMul, ite_true, ite_false, if_true, if_false, eq_self_iff_true, ↓reduceIte, and_self, and_true, true_and, and_false, false_and, not_true_eq_false, not_false_eq_true, if_pos, if_neg, h19, b1, c1, an, hk, jg_t, Bool.false_eq_true]
        · refine ⟨fun h => absurd h (by decide), fun h => ?_⟩
          exact absurd (key.2 (h i (by omega) (by omega) hb)) hk
theorem l_wM {B : jp_M} {N s : Nat} {w : Nat → Nat} (hN : N ≤ 8) (hs : s < 256) (h45 : B 104 45 = nI N) (hw : ∀ i, w i ≤ 99) (hr : ∀ i, i < 8 → B 131 i = nI (w i)) :
    ∀ d i, i + d = N → ∀ n, d < n → f_M_worthOf_4 n (nI s) (nI (ws w s i)) (nI i) B = some (nI (ws w s N)) := by
  intro d
  induction d with
  | zero =>
    intro i hi n hn
    obtain ⟨n, rfl⟩ : ∃ k, n = k + 1 := ⟨n - 1, by omega⟩
    obtain rfl : i = N := by omega
    simp (disch := omega) only [f_M_worthOf_4, jp_c, decide_eq_true_eq, n_lit, n_le, Nat.reduceEqDiff, Nat.reduceAdd, Nat.reduceMul, ite_true, ite_false, if_true, if_false, eq_self_iff_true, ↓reduceIte, and_self, and_true, true_and, and_false, false_and, not_true_eq_false, not_false_eq_true, if_pos, if_neg, h45]
  | succ d ih =>
    intro i hi n hn
    obtain ⟨n, rfl⟩ : ∃ k, n = k + 1 := ⟨n - 1, by omega⟩
    have b2 := n_hasI (s := s) (k := i) (by omega) (by omega)
    have e1 := ih (i + 1) (by omega) n (by omega)
    have hri := hr i (by omega)
    cases hb : s.testBit i
    · rw [hb] at b2
      have w1 : ws w s (i + 1) = ws w s i := by rw [ws, hb]; rfl
      rw [w1] at e1
      rw [← e1]
      simp (disch := omega) only [f_M_worthOf_4, f_M_worthOf_30, jp_c, decide_eq_true_eq, n_lit, n_add, n_le, n_eq, Nat.reduceEqDiff, Nat.reduceAdd, Nat.reduceMul, ite_true, ite_false, if_true, if_false, eq_self_iff_true, ↓reduceIte, and_self, and_true, true_and, and_false, false_and, not_true_eq_false, not_false_eq_true, if_pos, if_neg, h45, b2, Bool.false_eq_true]
    · rw [hb] at b2
      have w1 : ws w s (i + 1) = ws w s i + w i := by rw [ws, hb]; rfl
      rw [w1] at e1
      rw [← e1]
      simp (disch := omega) only [f_M_worthOf_4, f_M_worthOf_30, jp_c, decide_eq_true_eq, n_lit, n_add, n_le, n_eq, n_in, n_cl, Nat.reduceEqDiff, Nat.reduceAdd, Nat.reduceMul, ite_true, ite_false, if_true, if_false, eq_self_iff_true, ↓reduceIte, and_self, and_true, true_and, and_false, false_and, not_true_eq_false, not_false_eq_true, if_pos, if_neg, h45, b2, hri, jg_t]
theorem l_ab1 {B : jp_M} {s i : Nat} (hi : i < 8) (hs : s < 256) (c2 : Int32 → Int32 → jp_M → Option Int32) :
    ∀ d k, k + d = i → ∀ n, d < n → ∃ ok : Bool, f_M_areBeside_12 n c2 (nI s) (nI i) (nI k) B = (if ok then c2 (nI s) (nI (i + 1)) B else some (nI 0)) ∧ (ok = true ↔ ∀ x, k ≤ x → x < i → s.testBit i = true → s.testBit x = true → shd B i x = false) := by
  intro d
  induction d with
  | zero =>
    intro k hk n hn
    obtain ⟨n, rfl⟩ : ∃ k, n = k + 1 := ⟨n - 1, by omega⟩
    refine ⟨true, ?_, fun _ x h1 h2 => by omega, fun _ => rfl⟩
    simp (disch := omega) only [f_M_areBeside_12, jp_c, decide_eq_true_eq, n_lit, n_add, n_le, Nat.reduceEqDiff, Nat.reduceAdd, Nat.reduceMul, ite_true, ite_false, if_true, if_false, eq_self_iff_true, ↓reduceIte, and_self, and_true, true_and, and_false, false_and, not_true_eq_false, not_false_eq_true, if_pos, if_neg]
  | succ d ih =>
    intro k hk n hn
    obtain ⟨n, rfl⟩ : ∃ k, n = k + 1 := ⟨n - 1, by omega⟩
    have b1 := n_hasI (s := s) (k := i) (by omega) (by omega)
    have b2 := n_hasI (s := s) (k := k) (by omega) (by omega)
    obtain ⟨ok, e1, e2⟩ := ih (k + 1) (by omega) n (by omega)
    have skip : (s.testBit i = true → s.testBit k = true → shd B i k = false) → (ok = true ↔ ∀ x, k ≤ x → x < i → s.testBit i = true → s.testBit x = true → shd B i x = false) := by
      intro h
      rw [e2]
      refine ⟨fun h' x h1 h2 h3 h4 => ?_, fun h' x h1 h2 h3 h4 => h' x (by omega) h2 h3 h4⟩
      by_cases hx : x = k
      · subst hx; exact h h3 h4
      · exact h' x (by omega) h2 h3 h4
    rcases Bool.eq_false_or_eq_true (s.testBit i) with hb1 | hb1
    · rw [hb1] at b1
      rcases Bool.eq_false_or_eq_true (s.testBit k) with hb2 | hb2
      · rw [hb2] at b2
        by_cases h1 : B 130 k < B 129 i
        · have hf : shd B i k = false := decide_eq_false (fun h => Int32.not_le.mpr h1 h.1)
          refine ⟨ok, ?_, ?_⟩
          · rw [← e1]
            simp (disch := omega) only [f_M_areBeside_12, f_M_areBeside_67, jp_c, decide_eq_true_eq, n_lit, n_add, n_le, n_eq, n_in, n_cl, Nat.reduceEqDiff, Nat.reduceAdd, Nat.reduceMul, ite_true, ite_false, if_true, if_false, eq_self_iff_true, ↓reduceIte, and_self, and_true, true_and, and_false, false_and, not_true_eq_false, not_false_eq_true, if_pos, if_neg, b1, b2, h1, jg_t]
          · exact skip (fun _ _ => hf)
        · by_cases h2 : B 130 i < B 129 k
          · have hf : shd B i k = false := decide_eq_false (fun h => Int32.not_le.mpr h2 h.2)
            refine ⟨ok, ?_, ?_⟩
            · rw [← e1]
              simp (disch := omega) only [f_M_areBeside_12, f_M_areBeside_67, jp_c, decide_eq_true_eq, n_lit, n_add, n_le, n_eq, n_in, n_cl, Nat.reduceEqDiff, Nat.reduceAdd, Nat.reduceMul, ite_true, ite_false, if_true, if_false, eq_self_iff_true, ↓reduceIte, and_self, and_true, true_and, and_false, false_and, not_true_eq_false, not_false_eq_true, if_pos, if_neg, b1, b2, h1, h2, jg_t]
            · exact skip (fun _ _ => hf)
          · have ht : shd B i k = true := decide_eq_true ⟨Int32.not_lt.mp h1, Int32.not_lt.mp h2⟩
            refine ⟨false, ?_, ?_⟩
            · simp (disch := omega) only [f_M_areBeside_12, f_M_areBeside_67, jp_c, decide_eq_true_eq, n_lit, n_add, n_le, n_eq, n_in, n_cl, Nat.reduceEqDiff, Nat.reduceAdd, Nat.reduceMul, ite_true, ite_false, if_true, if_false, eq_self_iff_true, ↓reduceIte, and_self, and_true, true_and, and_false, false_and, not_true_eq_false, not_false_eq_true, if_pos, if_neg, b1, b2, h1, h2, jg_t, Bool.false_eq_true]
            · refine ⟨fun h => absurd h (by decide), fun h => ?_⟩
              rw [h k (by omega) (by omega) hb1 hb2] at ht
              exact absurd ht (by decide)
      · rw [hb2] at b2
        refine ⟨ok, ?_, ?_⟩
        · rw [← e1]
          simp (disch := omega) only [f_M_areBeside_12, f_M_areBeside_67, jp_c, decide_eq_true_eq, n_lit, n_add, n_le, n_eq, Nat.reduceEqDiff, Nat.reduceAdd, Nat.reduceMul, ite_true, ite_false, if_true, if_false, eq_self_iff_true, ↓reduceIte, and_self, and_true, true_and, and_false, false_and, not_true_eq_false, not_false_eq_true, if_pos, if_neg, b1, b2, Bool.false_eq_true]
        · exact skip (fun _ h => by rw [hb2] at h; exact absurd h (by decide))
    · rw [hb1] at b1
      refine ⟨ok, ?_, ?_⟩
      · rw [← e1]
        simp (disch := omega) only [f_M_areBeside_12, f_M_areBeside_67, jp_c, decide_eq_true_eq, n_lit, n_add, n_le, n_eq, Nat.reduceEqDiff, Nat.reduceAdd, Nat.reduceMul, ite_true, ite_false, if_true, if_false, eq_self_iff_true, ↓reduceIte, and_self, and_true, true_and, and_false, false_and, not_true_eq_false, not_false_eq_true, if_pos, if_neg, b1, Bool.false_eq_true]
      · exact skip (fun h => by rw [hb1] at h; exact absurd h (by decide))
theorem l_ab2 {B : jp_M} {s N : Nat} (hN : N ≤ 8) (hs : s < 256) (h45 : B 104 45 = nI N) :
    ∀ d i, i + d = N → ∀ n, d < n → ∃ ok : Bool, f_M_areBeside_2 n (nI s) (nI i) B = some (if ok then nI 1 else nI 0) ∧ (ok = true ↔ ∀ y, i ≤ y → y < N → ∀ x, x < y → s.testBit y = true → s.testBit x = true → shd B y x = false) := by
  intro d
  induction d with
  | zero =>
    intro i hi n hn
    obtain ⟨n, rfl⟩ : ∃ k, n = k + 1 := ⟨n - 1, by omega⟩
    refine ⟨true, ?_, fun _ x h1 h2 => by omega, fun _ => rfl⟩
    simp (disch := omega) only [f_M_areBeside_2, jp_c, decide_eq_true_eq, n_lit, n_le, Nat.reduceEqDiff, Nat.reduceAdd, Nat.reduceMul, ite_true, ite_false, if_true, if_false, eq_self_iff_true, ↓reduceIte, and_self, and_true, true_and, and_false, false_and, not_true_eq_false, not_false_eq_true, if_pos, if_neg, h45]
  | succ d ih =>
    intro i hi n hn
    obtain ⟨n, rfl⟩ : ∃ k, n = k + 1 := ⟨n - 1, by omega⟩
    obtain ⟨ok, e1, e2⟩ := ih (i + 1) (by omega) n (by omega)
    obtain ⟨ok1, d1, d2⟩ := l_ab1 (B := B) (s := s) (i := i) (by omega) hs (f_M_areBeside_2 n) i 0 (by omega) jFu (jFu_lt (by omega))
    have e0 : f_M_areBeside_2 (n + 1) (nI s) (nI i) B = if ok1 then f_M_areBeside_2 n (nI s) (nI (i + 1)) B else some (nI 0) := by
      rw [← d1]
      simp (disch := omega) only [f_M_areBeside_2, jp_c, decide_eq_true_eq, n_lit, n_le, Nat.reduceEqDiff, Nat.reduceAdd, Nat.reduceMul, ite_true, ite_false, if_true, if_false, eq_self_iff_true, ↓reduceIte, and_self, and_true, true_and, and_false, false_and, not_true_eq_false, not_false_eq_true, if_pos, if_neg, h45]
    cases ok1
    · refine ⟨false, by rw [e0]; rfl, fun h => absurd h (by decide), fun h => ?_⟩
      exact absurd (d2.2 (fun x _ h1 => h i (by omega) (by omega) x h1)) (by decide)
    · refine ⟨ok, by rw [e0, if_pos rfl, e1], ?_⟩
      rw [e2]
      refine ⟨fun h y h1 h2 => ?_, fun h y h1 h2 => h y (by omega) h2⟩
      by_cases hy : y = i
      · subst hy; exact fun x hx => d2.1 rfl x (by omega) hx
      · exact h y (by omega) h2
theorem l_bs {A B : jp_M} {N : Nat} {w : Nat → Nat} (hN : N ≤ 8) (h19 : A 19 0 = nI N) (h45 : B 104 45 = nI N) (hw : ∀ i, w i ≤ 99) (hrC : ∀ i, i < 8 → A 20 (3 * i + 2) = nI (w i)) (hrM : ∀ i, i < 8 → B 131 i = nI (w i)) (hc : ∀ k, k < N → clG B A N k) (a : Int32) :
    ∀ d s, s + d = 2 ^ N → ∀ n m, d < n → d < m → ∀ M g, (∀ q, ¬ q = 61 → M q = A q) → g < 2 ^ N → M 61 7 = nI (ws w g N) → M 61 8 = nI g →
    ∃ M', f_TT_choosesWishes_16 n (nI s) M = some M' ∧ (∀ q, ¬ q = 61 → M' q = A q) ∧ f_M_beside_21 m a (nI g) (nI s) B = some (if a = nI 0 then M' 61 7 else M' 61 8, B) := by
  have p8 : 2 ^ N ≤ 256 := Nat.pow_le_pow_right (n := 2) (j := 8) (by omega) hN
  have sl := n_slI (k := N) (by omega)
  intro d
  induction d with
  | zero =>
    intro s hs n m hn hm M g hM hg h7 h8
    obtain ⟨n, rfl⟩ : ∃ k, n = k + 1 := ⟨n - 1, by omega⟩
    obtain ⟨m, rfl⟩ : ∃ k, m = k + 1 := ⟨m - 1, by omega⟩
    have m19 := hM 19 (by decide)
    have wg : f_M_worthOf (nI g) B = some (nI (ws w g N)) := l_wM (s := g) hN (by omega) h45 hw hrM N 0 (by omega) jFu (jFu_lt (by omega))
    refine ⟨M, ?_, hM, ?_⟩
    · simp (disch := omega) only [f_TT_choosesWishes_16, jp_c, decide_eq_true_eq, n_lit, n_le, Nat.reduceEqDiff, Nat.reduceAdd, Nat.reduceMul, ite_true, ite_false, if_true, if_false, eq_self_iff_true, ↓reduceIte, and_self, and_true, true_and, and_false, false_and, not_true_eq_false, not_false_eq_true, if_pos, if_neg, m19, h19, sl]
    · rw [h7, h8]
      by_cases hz : a = nI 0
      · simp (disch := omega) only [f_M_beside_21, jp_c, decide_eq_true_eq, n_lit, n_le, Nat.reduceEqDiff, Nat.reduceAdd, Nat.reduceMul, ite_true, ite_false, if_true, if_false, eq_self_iff_true, ↓reduceIte, and_self, and_true, true_and, and_false, false_and, not_true_eq_false, not_false_eq_true, if_pos, if_neg, h45, sl, hz, wg, Option.bind_some]
      · simp (disch := omega) only [f_M_beside_21, jp_c, decide_eq_true_eq, n_lit, n_le, Nat.reduceEqDiff, Nat.reduceAdd, Nat.reduceMul, ite_true, ite_false, if_true, if_false, eq_self_iff_true, ↓reduceIte, and_self, and_true, true_and, and_false, false_and, not_true_eq_false, not_false_eq_true, if_pos, if_neg, h45, sl, hz]
  | succ d ih =>
    intro s hs n m hn hm M g hM hg h7 h8
    obtain ⟨n, rfl⟩ : ∃ k, n = k + 1 := ⟨n - 1, by omega⟩
    obtain ⟨m, rfl⟩ : ∃ k, m = k + 1 := ⟨m - 1, by omega⟩
    have m19 := hM 19 (by decide)
    have wg : f_M_worthOf (nI g) B = some (nI (ws w g N)) := l_wM (s := g) hN (by omega) h45 hw hrM N 0 (by omega) jFu (jFu_lt (by omega))
    have wsM : f_M_worthOf (nI s) B = some (nI (ws w s N)) := l_wM (s := s) hN (by omega) h45 hw hrM N 0 (by omega) jFu (jFu_lt (by omega))
    obtain ⟨ok, c1, c2⟩ := l_wC (B := B) (M := M) (s := s) hN (by omega) (by rw [m19, h19]) hw (by rw [hM 20 (by decide)]; exact hrC) (by
      intro k hk
      obtain ⟨c, c1, c2, c3⟩ := hc k hk
      exact ⟨c, by rw [hM 62 (by decide), c1], c2, c3⟩) N 0 (by omega) jFu (jFu_lt (by omega))
    have c1' : f_TT_worthOf (nI s) M = some (if ok then nI (ws w s N) else nI 4294967295) := c1
    obtain ⟨ok', b1, b2⟩ := l_ab2 (B := B) (s := s) hN (by omega) h45 N 0 (by omega) jFu (jFu_lt (by omega))
    have b1' : f_M_areBeside (nI s) B = some (if ok' then nI 1 else nI 0) := b1
    have hok : ok' = ok := by
      rw [Bool.eq_iff_iff, b2, c2]
      constructor
      · intro h x _ x1 x2 y y1 y2 y3
        by_cases hxy : y < x
        · exact h x (by omega) x1 y hxy x2 y2
        · rw [shd_c]; exact h y (by omega) y1 x (by omega) y2 x2
      · intro h y _ y1 x x1 y2 x2
        exact h y (by omega) y1 y2 x (by omega) x2 (by omega)
    subst hok
    clear b2 c2
    have wl := ws_le (s := s) hw N
    have wl' := ws_le (s := g) hw N
    by_cases hle : ws w s N ≤ ws w g N
    · obtain ⟨M', e1, e2, e3⟩ := ih (s + 1) (by omega) n m (by omega) (by omega) M g hM hg h7 h8
      refine ⟨M', ?_, e2, ?_⟩
      · rw [← e1]
        cases ok'
        · have hneg : nI 4294967295 ≤ nI (ws w g N) := by
            refine Int32.le_trans (b := nI 0) (by decide) ?_
            rw [n_le (by omega) (by omega)]; omega
          simp (disch := omega) only [f_TT_choosesWishes_16, f_TT_choosesWishes_53, jp_c, decide_eq_true_eq, n_lit, n_add, n_le, Nat.reduceEqDiff, Nat.reduceAdd, Nat.reduceMul, ite_true, ite_false, if_true, if_false, eq_self_iff_true, ↓reduceIte, and_self, and_true, true_and, and_false, false_and, not_true_eq_false, not_false_eq_true, if_pos, if_neg, m19, h19, sl, c1', h7, hneg, Option.bind_some, Bool.false_eq_true]
        · simp (disch := omega) only [f_TT_choosesWishes_16, f_TT_choosesWishes_53, jp_c, decide_eq_true_eq, n_lit, n_add, n_le, Nat.reduceEqDiff, Nat.reduceAdd, Nat.reduceMul, ite_true, ite_false, if_true, if_false, eq_self_iff_true, ↓reduceIte, and_self, and_true, true_and, and_false, false_and, not_true_eq_false, not_false_eq_true, if_pos, if_neg, m19, h19, sl, c1', h7, hle, Option.bind_some]
      · rw [← e3]
        simp (disch := omega) only [f_M_beside_21, f_M_beside_54, jp_c, decide_eq_true_eq, n_lit, n_add, n_le, Nat.reduceEqDiff, Nat.reduceAdd, Nat.reduceMul, ite_true, ite_false, if_true, if_false, eq_self_iff_true, ↓reduceIte, and_self, and_true, true_and, and_false, false_and, not_true_eq_false, not_false_eq_true, if_pos, if_neg, h45, sl, wg, wsM, hle, Option.bind_some]
    · cases ok'
      · obtain ⟨M', e1, e2, e3⟩ := ih (s + 1) (by omega) n m (by omega) (by omega) M g hM hg h7 h8
        refine ⟨M', ?_, e2, ?_⟩
        · rw [← e1]
          have hneg : nI 4294967295 ≤ nI (ws w g N) := by
            refine Int32.le_trans (b := nI 0) (by decide) ?_
            rw [n_le (by omega) (by omega)]; omega
          simp (disch := omega) only [f_TT_choosesWishes_16, f_TT_choosesWishes_53, jp_c, decide_eq_true_eq, n_lit, n_add, n_le, Nat.reduceEqDiff, Nat.reduceAdd, Nat.reduceMul, ite_true, ite_false, if_true, if_false, eq_self_iff_true, ↓reduceIte, and_self, and_true, true_and, and_false, false_and, not_true_eq_false, not_false_eq_true, if_pos, if_neg, m19, h19, sl, c1', h7, hneg, Option.bind_some, Bool.false_eq_true]
        · rw [← e3]
          simp (disch := omega) only [f_M_beside_21, f_M_beside_54, jp_c, decide_eq_true_eq, n_lit, n_add, n_le, n_eq, Nat.reduceEqDiff, Nat.reduceAdd, Nat.reduceMul, ite_true, ite_false, if_true, if_false, eq_self_iff_true, ↓reduceIte, and_self, and_true, true_and, and_false, false_and, not_true_eq_false, not_false_eq_true, if_pos, if_neg, h45, sl, wg, wsM, hle, b1', Option.bind_some, Bool.false_eq_true]
      · obtain ⟨M', e1, e2, e3⟩ := ih (s + 1) (by omega) n m (by omega) (by omega) (jp_set (jp_set M 61 (upd (M 61) 7 (nI (ws w s N)))) 61 (upd (upd (M 61) 7 (nI (ws w s N))) 8 (nI s))) s (fun q hq => by rw [st_ne hq, st_ne hq, hM q hq]) (by omega) (by rw [st_same, ud_ne (by decide), ud_eq rfl]) (by rw [st_same, ud_eq rfl])
        refine ⟨M', ?_, e2, ?_⟩
        · rw [← e1]
          simp (disch := omega) only [f_TT_choosesWishes_16, f_TT_choosesWishes_53, jp_c, decide_eq_true_eq, n_lit, n_add, n_le, Nat.reduceEqDiff, Nat.reduceAdd, Nat.reduceMul, ite_true, ite_false, if_true, if_false, eq_self_iff_true, ↓reduceIte, and_self, and_true, true_and, and_false, false_and, not_true_eq_false, not_false_eq_true, if_pos, if_neg, m19, h19, sl, c1', h7, hle, Option.bind_some, st_ap]
        · rw [← e3]
          simp (disch := omega) only [f_M_beside_21, f_M_beside_54, jp_c, decide_eq_true_eq, n_lit, n_add, n_le, n_eq, Nat.reduceEqDiff, Nat.reduceAdd, Nat.reduceMul, ite_true, ite_false, if_true, if_false, eq_self_iff_true, ↓reduceIte, and_self, and_true, true_and, and_false, false_and, not_true_eq_false, not_false_eq_true, if_pos, if_neg, h45, sl, wg, wsM, hle, b1', Option.bind_some]
theorem ws_0 {w : Nat → Nat} : ∀ n, ws w 0 n = 0 := by
  intro n
  induction n with
  | zero => rfl
  | succ n ih => rw [ws, ih, Nat.zero_testBit]; rfl
theorem p_beside (a : Int32) {A B : jp_M} (hR : Rel A B) : pOK (f_C_beside a A) (f_M_beside a B) := by
  have T := Rel_told (x := nI 0) hR
  generalize hB1 : jp_set B 104 (upd (B 104) 0 (nI 0)) = B1 at T
  have hT := T
  obtain ⟨⟨hW, hBk, hLw, hPe, hLe, hCi, hWi, hKi, hPo, hWy, hVo⟩, hPic, hKe, hTa, hFa, hTh, hWd⟩ := T
  obtain ⟨⟨N, hN, k1, k2⟩, k3⟩ := hWi
  by_cases h1 : nI 0 ≤ a ∧ a ≤ nI 1
  · have hr : ∀ i, i < 8 → A 20 (3 * i) = B1 129 i ∧ A 20 (3 * i + 1) = B1 130 i := by
      intro i hi
      obtain ⟨x, y, z, -, -, -, x1, x2, y1, y2, -⟩ := k3 i hi
      exact ⟨by rw [x1, x2], by rw [y1, y2]⟩
    have hex : ∃ w : Nat → Nat, (∀ i, w i ≤ 99) ∧ ∀ i, i < 8 → A 20 (3 * i + 2) = nI (w i) ∧ B1 131 i = nI (w i) := by
      refine ⟨fun i => if h : i < 8 then (k3 i h).choose_spec.choose_spec.choose else 0, fun i => ?_, fun i hi => ?_⟩
      · by_cases h : i < 8
        · simp only [h, dif_pos]
          exact (k3 i h).choose_spec.choose_spec.choose_spec.2.2.1
        · simp only [h, dif_neg, not_false_eq_true]; omega
      · simp only [hi, dif_pos]
        have := (k3 i hi).choose_spec.choose_spec.choose_spec
        exact ⟨this.2.2.2.2.2.2.2.1, this.2.2.2.2.2.2.2.2⟩
    obtain ⟨w, hw, hww⟩ := hex
    obtain ⟨A1, a1, a2, a3⟩ := l_cl2 hN k1 hr N 0 (by omega) jFu (jFu_lt (by omega)) A (fun _ _ => rfl) (fun k hk => by omega)
    have a1' : f_TT_learnsClashes A = some A1 := a1
    have pp : 0 < 2 ^ N := Nat.two_pow_pos N
    have p8 : 2 ^ N ≤ 256 := Nat.pow_le_pow_right (n := 2) (j := 8) (by omega) hN
    obtain ⟨M', e1, e2, e3⟩ := l_bs (A := A1) (B := B1) (w := w) hN (by rw [a2 19 (by decide), k1]) k2 hw (fun i hi => by rw [a2 20 (by decide)]; exact (hww i hi).1) (fun i hi => (hww i hi).2) a3 a (2 ^ N - 1) 1 (by omega) jFu jFu (jFu_lt (by omega)) (jFu_lt (by omega))
      (jp_set (jp_set A1 61 (upd (A1 61) 7 (nI 0))) 61 (upd (upd (A1 61) 7 (nI 0)) 8 (nI 0))) 0 (fun q hq => by rw [st_ne hq, st_ne hq]) pp (by rw [st_same, ud_ne (by decide), ud_eq rfl, ws_0]) (by rw [st_same, ud_eq rfl])
    have c0 : f_TT_choosesWishes A = some M' := by
      rw [f_TT_choosesWishes, a1', Option.bind_some, ← e1]
      simp only [n_lit, Nat.reduceEqDiff, Nat.reduceAdd, Nat.reduceMul, ite_true, ite_false, if_true, if_false, eq_self_iff_true, ↓reduceIte, and_self, and_true, true_and, and_false, false_and, not_true_eq_false, not_false_eq_true, if_pos, if_neg, st_ap]
    have c1 : f_C_beside a A = some (if a = nI 0 then M' 61 7 else M' 61 8, M') := by
      simp (disch := omega) only [f_C_beside, n_within, n_it0, jp_c, decide_eq_true_eq, n_lit, n_eq, Nat.reduceEqDiff, Nat.reduceAdd, Nat.reduceMul, ite_true, ite_false, if_true, if_false, eq_self_iff_true, ↓reduceIte, and_self, and_true, true_and, and_false, false_and, not_true_eq_false, not_false_eq_true, if_pos, if_neg, h1, c0, Option.bind_some]
      by_cases hz : a = nI 0 <;> simp [hz]
    have c2 : f_M_beside a B = some (if a = nI 0 then M' 61 7 else M' 61 8, B1) := by
      rw [← e3]
      simp (disch := omega) only [f_M_beside, hB1, n_isIn, n_it0, jp_c, decide_eq_true_eq, n_lit, n_eq, Nat.reduceEqDiff, Nat.reduceAdd, Nat.reduceMul, ite_true, ite_false, if_true, if_false, eq_self_iff_true, ↓reduceIte, and_self, and_true, true_and, and_false, false_and, not_true_eq_false, not_false_eq_true, if_pos, if_neg, h1]
    rw [c1, c2]
    refine pOK_mk rfl (Rel_scA (fun p hp => ?_) hT)
    rw [e2 p (by rintro rfl; exact hp (by decide)), a2 p (by rintro rfl; exact hp (by decide))]
  · simp (disch := omega) only [f_C_beside, f_M_beside, hB1, n_within, n_isIn, n_it0, jp_c, decide_eq_true_eq, n_lit, n_neg1, Nat.reduceEqDiff, Nat.reduceAdd, Nat.reduceMul, ite_true, ite_false, if_true, if_false, eq_self_iff_true, ↓reduceIte, and_self, and_true, true_and, and_false, false_and, not_true_eq_false, not_false_eq_true, if_pos, if_neg, h1]
    exact pOK_mk rfl hT
