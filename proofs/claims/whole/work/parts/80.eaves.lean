theorem ev_b : ∀ s, s < 64 → ∀ e, e < 6 → s.testBit e = false → s ||| 2 ^ e < 64 ∧ s < s ||| 2 ^ e ∧ oc (s ||| 2 ^ e) = oc s + 1 := by decide +kernel
theorem ev_n : ∀ s, s < 63 → ∃ e, e < 6 ∧ s.testBit e = false := by decide +kernel
theorem ev_o : ∀ s, s < 63 → oc s ≤ 5 := by decide +kernel
/-- what the rest costs is known from here up -/
def evI (A MC MM : jp_M) (c : Nat) : Prop := ∀ u, c ≤ u → u ≤ 63 → ∃ m, MC 64 u = nI m ∧ MM 136 u = nI m ∧ m ≤ 99 * (6 - oc u) ∧ (u < 63 → ∃ e m' w, e < 6 ∧ u.testBit e = false ∧ MC 64 (u ||| 2 ^ e) = nI m' ∧ A 23 (6 * oc u + e) = nI w ∧ w + m' = m)
theorem ev_cC {A M : jp_M} (h23 : M 23 = A 23) {s e w m' : Nat} (hs : s < 63) (he : e < 6) (hb : s.testBit e = false) (hw : A 23 (6 * oc s + e) = nI w) (hm : M 64 (s ||| 2 ^ e) = nI m') : f_TT_costOf (nI (oc s)) (nI e) (nI s) M = some (nI (w + m')) := by
  obtain ⟨b1, b2, b3⟩ := ev_b s (by omega) e he hb
  have o := ev_o s hs
  have sl := n_slI (k := e) (by omega)
  have h1 : 6 * oc s + e ≤ 35 := by omega
  have h2 : s ||| 2 ^ e ≤ 63 := by omega
  simp (disch := omega) only [f_TT_costOf, f_TT_costOf_53, n_within, n_it0, jp_c, decide_eq_true_eq, n_lit, n_add, n_mul, n_sub, n_or, sl, n_le, n_eq, n_in, n_cl, Nat.reduceEqDiff, Nat.reduceAdd, Nat.reduceMul, ite_true, ite_false, if_true, if_false, eq_self_iff_true, ↓reduceIte, and_self, and_true, true_and, and_false, false_and, not_true_eq_false, not_false_eq_true, if_pos, if_neg, Nat.reduceSub, Nat.zero_le, h1, h2, jg_t, h23, hw, hm]
theorem ev_cM {B M : jp_M} (h135 : M 135 = B 135) {s e w m' : Nat} (hs : s < 63) (he : e < 6) (hb : s.testBit e = false) (hw : B 135 (6 * oc s + e) = nI w) (hm : M 136 (s ||| 2 ^ e) = nI m') : f_M_leastBy (nI (oc s)) (nI e) (nI s) M = some (nI (w + m')) := by
  obtain ⟨b1, b2, b3⟩ := ev_b s (by omega) e he hb
  have o := ev_o s hs
  have sl := n_slI (k := e) (by omega)
  simp (disch := omega) only [f_M_leastBy, n_lit, n_add, n_mul, n_or, sl, n_in, n_cl, Nat.reduceEqDiff, Nat.reduceAdd, Nat.reduceMul, ite_true, ite_false, if_true, if_false, eq_self_iff_true, ↓reduceIte, and_self, and_true, true_and, and_false, false_and, not_true_eq_false, not_false_eq_true, if_pos, if_neg, jg_t, h135, hw, hm]
/-- one set -/
theorem l_ev1 {A B MC MM : jp_M} (hA : MC 23 = A 23) (hB : MM 135 = B 135) (hw : ∀ j, j < 36 → ∃ x, x ≤ 99 ∧ A 23 j = nI x ∧ B 135 j = nI x) {s : Nat} (hs : s < 63) (hI : evI A MC MM (s + 1)) (c11 : Int32 → jp_M → Option (Int32 × jp_M)) (c2 : Int32 → jp_M → Option jp_M) :
    ∀ d e, e + d = 6 → ∀ n m, d < n → d < m → ∀ lc lm, ((lc = 594 ∧ lm = 100000000 ∧ ∀ e', e' < e → s.testBit e' = true) ∨ (lc = lm ∧ lc ≤ 99 * (6 - oc s) ∧ ∃ e' m' w, e' < 6 ∧ s.testBit e' = false ∧ MC 64 (s ||| 2 ^ e') = nI m' ∧ A 23 (6 * oc s + e') = nI w ∧ w + m' = lc)) →
    ∃ x, x ≤ 99 * (6 - oc s) ∧ (∃ e' m' w, e' < 6 ∧ s.testBit e' = false ∧ MC 64 (s ||| 2 ^ e') = nI m' ∧ A 23 (6 * oc s + e') = nI w ∧ w + m' = x) ∧ f_TT_leastWays_31 n c11 (nI s) (nI (oc s)) (nI lc) (nI e) MC = c11 (nI s + nI 4294967295) (jp_set MC 64 (upd (MC 64) s (nI x))) ∧
      f_M_findsEaves_30 m c2 (nI s) (nI (oc s)) (nI lm) (nI e) MM = c2 (nI s + nI 4294967295) (jp_set MM 136 (upd (MM 136) s (nI x))) := by
  have o := ev_o s hs
  intro d
  induction d with
  | zero =>
    intro e he n m hn hm lc lm hl
    obtain ⟨n, rfl⟩ : ∃ k, n = k + 1 := ⟨n - 1, by omega⟩
    obtain ⟨m, rfl⟩ : ∃ k, m = k + 1 := ⟨m - 1, by omega⟩
    rcases hl with ⟨-, -, hl⟩ | ⟨h1, h2, h3⟩
    · obtain ⟨e', h1, h2⟩ := ev_n s hs
      rw [hl e' (by omega)] at h2
      exact absurd h2 (by decide)
    · subst h1
      refine ⟨lc, h2, h3, ?_, ?_⟩
      · simp (disch := omega) only [f_TT_leastWays_31, jp_c, decide_eq_true_eq, n_lit, n_neg1, n_le, n_in, n_cl, Nat.reduceEqDiff, Nat.reduceAdd, Nat.reduceMul, ite_true, ite_false, if_true, if_false, eq_self_iff_true, ↓reduceIte, and_self, and_true, true_and, and_false, false_and, not_true_eq_false, not_false_eq_true, if_pos, if_neg, jg_t]
      · simp (disch := omega) only [f_M_findsEaves_30, f_M_findsEaves_73, jp_c, decide_eq_true_eq, n_lit, n_neg1, n_le, n_in, n_cl, Nat.reduceEqDiff, Nat.reduceAdd, Nat.reduceMul, ite_true, ite_false, if_true, if_false, eq_self_iff_true, ↓reduceIte, and_self, and_true, true_and, and_false, false_and, not_true_eq_false, not_false_eq_true, if_pos, if_neg, jg_t]
  | succ d ih =>
    intro e he n m hn hm lc lm hl
    obtain ⟨n, rfl⟩ : ∃ k, n = k + 1 := ⟨n - 1, by omega⟩
    obtain ⟨m, rfl⟩ : ∃ k, m = k + 1 := ⟨m - 1, by omega⟩
    have b1 := n_btI (s := s) (k := e) (by omega) (by omega)
    have b2 := n_hasI (s := s) (k := e) (by omega) (by omega)
    cases hb : s.testBit e
    · rw [hb] at b1 b2
      obtain ⟨w, w0, w1, w2⟩ := hw (6 * oc s + e) (by omega)
      obtain ⟨p1, p2, p3⟩ := ev_b s (by omega) e (by omega) hb
      obtain ⟨m', m1, m2, m3, -⟩ := hI (s ||| 2 ^ e) (by omega) (by omega)
      rw [p3] at m3
      have cC := ev_cC hA hs (by omega) hb w1 m1
      have cM := ev_cM hB hs (by omega) hb w2 m2
      have hlc : lc ≤ 594 := by rcases hl with ⟨h1, -⟩ | ⟨-, h2, -⟩ <;> omega
      have hlm : lm ≤ 100000000 := by rcases hl with ⟨-, h1, -⟩ | ⟨h1, h2, -⟩ <;> omega
      obtain ⟨x, x1, x2, x3, x4⟩ := ih (e + 1) (by omega) n m (by omega) (by omega) (min lc (w + m')) (min lm (w + m')) (Or.inr (by
        rcases hl with ⟨h1, h2, -⟩ | ⟨h1, h2, h3⟩
        · refine ⟨by omega, by omega, e, m', w, by omega, hb, m1, w1, by omega⟩
        · refine ⟨by omega, by omega, ?_⟩
          by_cases hc : lc ≤ w + m'
          · rw [Nat.min_eq_left hc]; exact h3
          · exact ⟨e, m', w, by omega, hb, m1, w1, by omega⟩))
      refine ⟨x, x1, x2, ?_, ?_⟩
      · rw [← x3]
        simp (disch := omega) only [f_TT_leastWays_31, f_TT_leastWays_62, jp_c, decide_eq_true_eq, n_lit, n_add, n_le, n_eq, Nat.reduceEqDiff, Nat.reduceAdd, Nat.reduceMul, ite_true, ite_false, if_true, if_false, eq_self_iff_true, ↓reduceIte, and_self, and_true, true_and, and_false, false_and, not_true_eq_false, not_false_eq_true, if_pos, if_neg, b1, cC, n_min, Option.bind_some, Bool.false_eq_true]
      · rw [← x4]
        simp (disch := omega) only [f_M_findsEaves_30, f_M_findsEaves_67, jp_c, decide_eq_true_eq, n_lit, n_add, n_le, n_eq, Nat.reduceEqDiff, Nat.reduceAdd, Nat.reduceMul, ite_true, ite_false, if_true, if_false, eq_self_iff_true, ↓reduceIte, and_self, and_true, true_and, and_false, false_and, not_true_eq_false, not_false_eq_true, if_pos, if_neg, b2, cM, n_ls, n_min, Option.bind_some, Bool.false_eq_true]
    · rw [hb] at b1 b2
      obtain ⟨x, x1, x2, x3, x4⟩ := ih (e + 1) (by omega) n m (by omega) (by omega) lc lm (by
        rcases hl with ⟨h1, h2, h3⟩ | h
        · refine Or.inl ⟨h1, h2, fun e' he' => ?_⟩
          by_cases h : e' = e
          · subst h; exact hb
          · exact h3 e' (by omega)
        · exact Or.inr h)
      refine ⟨x, x1, x2, ?_, ?_⟩
      · rw [← x3]
        simp (disch := omega) only [f_TT_leastWays_31, f_TT_leastWays_62, jp_c, decide_eq_true_eq, n_lit, n_add, n_le, n_eq, Nat.reduceEqDiff, Nat.reduceAdd, Nat.reduceMul, ite_true, ite_false, if_true, if_false, eq_self_iff_true, ↓reduceIte, and_self, and_true, true_and, and_false, false_and, not_true_eq_false, not_false_eq_true, if_pos, if_neg, b1]
      · rw [← x4]
        simp (disch := omega) only [f_M_findsEaves_30, f_M_findsEaves_67, jp_c, decide_eq_true_eq, n_lit, n_add, n_le, n_eq, Nat.reduceEqDiff, Nat.reduceAdd, Nat.reduceMul, ite_true, ite_false, if_true, if_false, eq_self_iff_true, ↓reduceIte, and_self, and_true, true_and, and_false, false_and, not_true_eq_false, not_false_eq_true, if_pos, if_neg, b2]
/-- all sets, from the greatest down -/
theorem l_ev2 {A B : jp_M} (hw : ∀ j, j < 36 → ∃ x, x ≤ 99 ∧ A 23 j = nI x ∧ B 135 j = nI x) : ∀ c, c ≤ 63 → ∀ n m, c < n → c < m → ∀ MC MM, (∀ q, ¬ q = 64 → MC q = A q) → (∀ q, ¬ q = 136 → MM q = B q) → evI A MC MM c →
    ∃ MC' MM', f_TT_leastWays_14 n (nI c + nI 4294967295) MC = some (MC' 64 0, MC') ∧ f_M_findsEaves_3 m (nI c + nI 4294967295) MM = some MM' ∧ (∀ q, ¬ q = 64 → MC' q = A q) ∧ (∀ q, ¬ q = 136 → MM' q = B q) ∧ evI A MC' MM' 0 := by
  intro c
  induction c with
  | zero =>
    intro _ n m hn hm MC MM hC hM hI
    obtain ⟨n, rfl⟩ : ∃ k, n = k + 1 := ⟨n - 1, by omega⟩
    obtain ⟨m, rfl⟩ : ∃ k, m = k + 1 := ⟨m - 1, by omega⟩
    have hz : nI 0 + nI 4294967295 < nI 0 := by decide
    refine ⟨MC, MM, ?_, ?_, hC, hM, hI⟩
    · simp (disch := omega) only [f_TT_leastWays_14, jp_c, decide_eq_true_eq, n_lit, hz, Nat.reduceEqDiff, Nat.reduceAdd, Nat.reduceMul, ite_true, ite_false, if_true, if_false, eq_self_iff_true, ↓reduceIte, and_self, and_true, true_and, and_false, false_and, not_true_eq_false, not_false_eq_true, if_pos, if_neg]
    · simp (disch := omega) only [f_M_findsEaves_3, jp_c, decide_eq_true_eq, n_lit, hz, Nat.reduceEqDiff, Nat.reduceAdd, Nat.reduceMul, ite_true, ite_false, if_true, if_false, eq_self_iff_true, ↓reduceIte, and_self, and_true, true_and, and_false, false_and, not_true_eq_false, not_false_eq_true, if_pos, if_neg]
  | succ s ih =>
    intro hs n m hn hm MC MM hC hM hI
    obtain ⟨n, rfl⟩ : ∃ k, n = k + 1 := ⟨n - 1, by omega⟩
    obtain ⟨m, rfl⟩ : ∃ k, m = k + 1 := ⟨m - 1, by omega⟩
    have o := ev_o s (by omega)
    obtain ⟨x, x1, x2, x3, x4⟩ := l_ev1 (hC 23 (by decide)) (hM 135 (by decide)) hw (s := s) (by omega) hI (f_TT_leastWays_14 n) (f_M_findsEaves_3 m) 6 0 (by omega) jFu jFu (jFu_lt (by omega)) (jFu_lt (by omega)) 594 100000000 (Or.inl ⟨rfl, rfl, fun e' h => by omega⟩)
    obtain ⟨MC', MM', e1, e2, e3, e4, e5⟩ := ih (by omega) n m (by omega) (by omega) (jp_set MC 64 (upd (MC 64) s (nI x))) (jp_set MM 136 (upd (MM 136) s (nI x))) (fun q hq => by rw [st_ne hq, hC q hq]) (fun q hq => by rw [st_ne hq, hM q hq]) (by
      intro u u1 u2
      rw [st_same, st_same]
      by_cases hu : u = s
      · subst hu
        refine ⟨x, ud_eq rfl, ud_eq rfl, x1, fun _ => ?_⟩
        obtain ⟨e', m', w, g1, g2, g3, g4, g5⟩ := x2
        obtain ⟨p1, p2, p3⟩ := ev_b u (by omega) e' g1 g2
        exact ⟨e', m', w, g1, g2, by rw [ud_ne (by omega)]; exact g3, g4, g5⟩
      · obtain ⟨y, y1, y2, y3, y4⟩ := hI u (by omega) u2
        refine ⟨y, by rw [ud_ne hu, y1], by rw [ud_ne hu, y2], y3, fun h => ?_⟩
        obtain ⟨e', m', w, g1, g2, g3, g4, g5⟩ := y4 h
        obtain ⟨p1, p2, p3⟩ := ev_b u (by omega) e' g1 g2
        exact ⟨e', m', w, g1, g2, by rw [ud_ne (by omega)]; exact g3, g4, g5⟩)
    have hpm : nI (s + 1) + nI 4294967295 = nI s := n_pm1 (by omega)
    have oC := oc_C s (by omega)
    have oM := oc_M (s := s) (by omega)
    have o6 : ¬ oc s = 6 := by omega
    have ol := oc_l s
    refine ⟨MC', MM', ?_, ?_, e3, e4, e5⟩
    · rw [← e1, ← x3, hpm]
      have hs0 : ¬ s < 0 := by omega
      simp (disch := omega) only [f_TT_leastWays_14, jp_c, decide_eq_true_eq, n_lit, n_lt, Nat.reduceEqDiff, Nat.reduceAdd, Nat.reduceMul, ite_true, ite_false, if_true, if_false, eq_self_iff_true, ↓reduceIte, and_self, and_true, true_and, and_false, false_and, not_true_eq_false, not_false_eq_true, if_pos, if_neg, hs0, oC]
    · rw [← e2, ← x4, hpm]
      have hs0 : ¬ s < 0 := by omega
      simp (disch := omega) only [f_M_findsEaves_3, f_M_findsEaves_26, jp_c, decide_eq_true_eq, n_lit, n_lt, n_eq, Nat.reduceEqDiff, Nat.reduceAdd, Nat.reduceMul, ite_true, ite_false, if_true, if_false, eq_self_iff_true, ↓reduceIte, and_self, and_true, true_and, and_false, false_and, not_true_eq_false, not_false_eq_true, if_pos, if_neg, hs0, oM, o6, Option.bind_some]
theorem p_ev {A B : jp_M} (hw : ∀ j, j < 36 → ∃ x, x ≤ 99 ∧ A 23 j = nI x ∧ B 135 j = nI x) : ∃ MC MM, f_TT_leastWays A = some (MC 64 0, MC) ∧ f_M_findsEaves B = some MM ∧ (∀ q, ¬ q = 64 → MC q = A q) ∧ (∀ q, ¬ q = 136 → MM q = B q) ∧ evI A MC MM 0 := by
  obtain ⟨MC, MM, e1, e2, e3, e4, e5⟩ := l_ev2 hw 63 (by omega) jFu 99999 (jFu_lt (by omega)) (by omega) (jp_set A 64 (upd (A 64) 63 (nI 0))) (jp_set B 136 (upd (B 136) 63 (nI 0))) (fun q hq => st_ne hq) (fun q hq => st_ne hq) (by
    intro u u1 u2
    obtain rfl : u = 63 := by omega
    exact ⟨0, by rw [st_same, ud_eq rfl], by rw [st_same, ud_eq rfl], by omega, fun h => by omega⟩)
  refine ⟨MC, MM, ?_, ?_, e3, e4, e5⟩
  · rw [← e1]
    have : nI 63 + nI 4294967295 = nI 62 := n_pm1 (by omega)
    rw [this]
    simp (disch := omega) only [f_TT_leastWays, n_lit, n_sub, Nat.reduceSub]
  · rw [← e2]
    have h1 : ∀ m, f_M_findsEaves_30 (m + 1) (f_M_findsEaves_3 99999) (nI 63) (nI 6) (nI 0) (nI 0) B = f_M_findsEaves_3 99999 (nI 63 + nI 4294967295) (jp_set B 136 (upd (B 136) 63 (nI 0))) := by
      intro m
      simp (disch := omega) only [f_M_findsEaves_30, f_M_findsEaves_73, jp_c, decide_eq_true_eq, n_lit, n_neg1, n_le, n_in, n_cl, Nat.reduceEqDiff, Nat.reduceAdd, Nat.reduceMul, ite_true, ite_false, if_true, if_false, eq_self_iff_true, ↓reduceIte, and_self, and_true, true_and, and_false, false_and, not_true_eq_false, not_false_eq_true, if_pos, if_neg, jg_t]
    have h1' : f_M_findsEaves_30 jFu (f_M_findsEaves_3 99999) (nI 63) (nI 6) (nI 0) (nI 0) B = f_M_findsEaves_3 99999 (nI 63 + nI 4294967295) (jp_set B 136 (upd (B 136) 63 (nI 0))) := h1 99999
    have h2 : ∀ n, f_M_findsEaves_3 (n + 1) (nI 63) B = f_M_findsEaves_30 jFu (f_M_findsEaves_3 n) (nI 63) (nI 6) (nI 0) (nI 0) B := by
      intro n
      have oM : f_M_onesOf (nI 63) = some (nI 6) := oc_M (s := 63) (by omega)
      simp (disch := omega) only [f_M_findsEaves_3, f_M_findsEaves_26, jp_c, decide_eq_true_eq, n_lit, n_lt, n_eq, Nat.reduceEqDiff, Nat.reduceAdd, Nat.reduceMul, ite_true, ite_false, if_true, if_false, eq_self_iff_true, ↓reduceIte, and_self, and_true, true_and, and_false, false_and, not_true_eq_false, not_false_eq_true, if_pos, if_neg, oM, Option.bind_some, Nat.not_lt_zero]
    have h2' : f_M_findsEaves B = f_M_findsEaves_30 jFu (f_M_findsEaves_3 99999) (nI 63) (nI 6) (nI 0) (nI 0) B := h2 99999
    rw [h2', h1']
/-- the first eave that keeps to the least -/
theorem l_ev3 {A B MC MM : jp_M} (hA : MC 23 = A 23) (hB : MM 135 = B 135) (hw : ∀ j, j < 36 → ∃ x, x ≤ 99 ∧ A 23 j = nI x ∧ B 135 j = nI x) {s : Nat} (hs : s < 63) (hI : evI A MC MM 0) {m0 : Nat} (hm0 : m0 ≤ 594) (z1 : MC 64 s = nI m0) (z2 : MM 136 s = nI m0)
    (c9 : Int32 → Int32 → Int32 → Int32 → jp_M → Option (Int32 × jp_M)) (c28 : Int32 → Int32 → Int32 → Int32 → jp_M → Option (Int32 × jp_M)) (la lb : Int32) :
    ∀ d e, e + d = 6 → ∀ n m, d + 1 < n → d + 1 < m → (∃ e' m' w, e ≤ e' ∧ e' < 6 ∧ s.testBit e' = false ∧ MC 64 (s ||| 2 ^ e') = nI m' ∧ A 23 (6 * oc s + e') = nI w ∧ w + m' = m0) →
    ∃ f, f < 6 ∧ s.testBit f = false ∧ f_TT_eaveOf_23 n c9 la (nI s) (nI 4294967295) (nI (oc s)) (nI e) MC = c9 la (nI (s ||| 2 ^ f)) (nI f) (nI (oc s + 1)) MC ∧ f_M_eaves_56 m c28 lb (nI s) (nI e) (nI (oc s)) MM = c28 lb (nI (s ||| 2 ^ f)) (nI f) (nI (oc s + 1)) MM := by
  have o := ev_o s hs
  intro d
  induction d with
  | zero =>
    intro e he n m hn hm hex
    obtain ⟨e', m', w, h1, h2, -⟩ := hex
    omega
  | succ d ih =>
    intro e he n m hn hm hex
    obtain ⟨n, rfl⟩ : ∃ k, n = k + 1 + 1 := ⟨n - 2, by omega⟩
    obtain ⟨m, rfl⟩ : ∃ k, m = k + 1 := ⟨m - 1, by omega⟩
    have b1 := n_btI (s := s) (k := e) (by omega) (by omega)
    have b2 := n_hasI (s := s) (k := e) (by omega) (by omega)
    have sl := n_slI (k := e) (by omega)
    cases hb : s.testBit e
    · rw [hb] at b1 b2
      obtain ⟨w, w0, w1, w2⟩ := hw (6 * oc s + e) (by omega)
      obtain ⟨p1, p2, p3⟩ := ev_b s (by omega) e (by omega) hb
      obtain ⟨m', m1, m2, m3, -⟩ := hI (s ||| 2 ^ e) (by omega) (by omega)
      rw [p3] at m3
      have cC := ev_cC hA hs (by omega) hb w1 m1
      have cM := ev_cM hB hs (by omega) hb w2 m2
      by_cases hc : w + m' = m0
      · refine ⟨e, by omega, hb, ?_, ?_⟩
        · have hne : ¬ nI e = nI 4294967295 := by rw [n_eq (by omega) (by omega)]; omega
          have e1 : f_TT_eaveOf_23 (n + 1 + 1) c9 la (nI s) (nI 4294967295) (nI (oc s)) (nI e) MC = f_TT_eaveOf_23 (n + 1) c9 la (nI s) (nI e) (nI (oc s)) (nI (e + 1)) MC := by
            generalize n + 1 = n1
            simp (disch := omega) only [f_TT_eaveOf_23, f_TT_eaveOf_65, jp_c, decide_eq_true_eq, n_lit, n_neg1, n_add, n_le, n_eq, n_in, n_cl, Nat.reduceEqDiff, Nat.reduceAdd, Nat.reduceMul, ite_true, ite_false, if_true, if_false, eq_self_iff_true, ↓reduceIte, and_self, and_true, true_and, and_false, false_and, not_true_eq_false, not_false_eq_true, if_pos, if_neg, b1, cC, z1, hc, jg_t, Option.bind_some, Bool.false_eq_true]
          rw [e1]
          have hmx : jp_max (nI 0) (nI e) = nI e := by rw [n_max (by omega) (by omega), show max 0 e = e by omega]
          by_cases h6 : 6 ≤ e + 1
          · simp (disch := omega) only [f_TT_eaveOf_23, f_TT_eaveOf_71, jp_c, decide_eq_true_eq, n_lit, n_neg1, n_add, n_le, Nat.reduceEqDiff, Nat.reduceAdd, Nat.reduceMul, ite_true, ite_false, if_true, if_false, eq_self_iff_true, ↓reduceIte, and_self, and_true, true_and, and_false, false_and, not_true_eq_false, not_false_eq_true, if_pos, if_neg, h6, hmx, sl, n_or]
          · simp (disch := omega) only [f_TT_eaveOf_23, f_TT_eaveOf_71, jp_c, decide_eq_true_eq, n_lit, n_neg1, n_add, n_le, Nat.reduceEqDiff, Nat.reduceAdd, Nat.reduceMul, ite_true, ite_false, if_true, if_false, eq_self_iff_true, ↓reduceIte, and_self, and_true, true_and, and_false, false_and, not_true_eq_false, not_false_eq_true, if_pos, if_neg, h6, hne, hmx, sl, n_or]
        · simp (disch := omega) only [f_M_eaves_56, jp_c, decide_eq_true_eq, n_lit, n_add, n_eq, n_in, n_cl, Nat.reduceEqDiff, Nat.reduceAdd, Nat.reduceMul, ite_true, ite_false, if_true, if_false, eq_self_iff_true, ↓reduceIte, and_self, and_true, true_and, and_false, false_and, not_true_eq_false, not_false_eq_true, if_pos, if_neg, b2, cM, z2, hc, jg_t, sl, n_or, Option.bind_some, Bool.false_eq_true]
      · obtain ⟨f, f1, f2, f3, f4⟩ := ih (e + 1) (by omega) (n + 1) m (by omega) (by omega) (by
          obtain ⟨e', m2', w', g1, g2, g3, g4, g5, g6⟩ := hex
          refine ⟨e', m2', w', ?_, g2, g3, g4, g5, g6⟩
          by_cases h : e' = e
          · subst h
            rw [m1, n_eq (by omega) (by omega)] at g4
            rw [w1, n_eq (by omega) (by omega)] at g5
            omega
          · omega)
        refine ⟨f, f1, f2, ?_, ?_⟩
        · rw [← f3]
          generalize n + 1 = n1
          simp (disch := omega) only [f_TT_eaveOf_23, f_TT_eaveOf_65, jp_c, decide_eq_true_eq, n_lit, n_neg1, n_add, n_le, n_eq, n_in, n_cl, Nat.reduceEqDiff, Nat.reduceAdd, Nat.reduceMul, ite_true, ite_false, if_true, if_false, eq_self_iff_true, ↓reduceIte, and_self, and_true, true_and, and_false, false_and, not_true_eq_false, not_false_eq_true, if_pos, if_neg, b1, cC, z1, hc, jg_t, Option.bind_some, Bool.false_eq_true]
        · rw [← f4]
          simp (disch := omega) only [f_M_eaves_56, f_M_eaves_82, jp_c, decide_eq_true_eq, n_lit, n_add, n_eq, n_in, n_cl, Nat.reduceEqDiff, Nat.reduceAdd, Nat.reduceMul, ite_true, ite_false, if_true, if_false, eq_self_iff_true, ↓reduceIte, and_self, and_true, true_and, and_false, false_and, not_true_eq_false, not_false_eq_true, if_pos, if_neg, b2, cM, z2, hc, jg_t, Option.bind_some, Bool.false_eq_true]
    · rw [hb] at b1 b2
      obtain ⟨f, f1, f2, f3, f4⟩ := ih (e + 1) (by omega) (n + 1) m (by omega) (by omega) (by
        obtain ⟨e', m2', w', g1, g2, g3, g4, g5, g6⟩ := hex
        refine ⟨e', m2', w', ?_, g2, g3, g4, g5, g6⟩
        by_cases h : e' = e
        · subst h; rw [hb] at g3; exact absurd g3 (by decide)
        · omega)
      refine ⟨f, f1, f2, ?_, ?_⟩
      · rw [← f3]
        generalize n + 1 = n1
        simp (disch := omega) only [f_TT_eaveOf_23, f_TT_eaveOf_65, jp_c, decide_eq_true_eq, n_lit, n_neg1, n_add, n_le, n_eq, n_in, n_cl, Nat.reduceEqDiff, Nat.reduceAdd, Nat.reduceMul, ite_true, ite_false, if_true, if_false, eq_self_iff_true, ↓reduceIte, and_self, and_true, true_and, and_false, false_and, not_true_eq_false, not_false_eq_true, if_pos, if_neg, b1]
      · rw [← f4]
        simp (disch := omega) only [f_M_eaves_56, f_M_eaves_82, jp_c, decide_eq_true_eq, n_lit, n_add, n_eq, n_in, n_cl, Nat.reduceEqDiff, Nat.reduceAdd, Nat.reduceMul, ite_true, ite_false, if_true, if_false, eq_self_iff_true, ↓reduceIte, and_self, and_true, true_and, and_false, false_and, not_true_eq_false, not_false_eq_true, if_pos, if_neg, b2]
theorem l_ev4 {A B MC MM : jp_M} (hA : MC 23 = A 23) (hB : MM 135 = B 135) (hw : ∀ j, j < 36 → ∃ x, x ≤ 99 ∧ A 23 j = nI x ∧ B 135 j = nI x) (hI : evI A MC MM 0) {w : Nat} (hw5 : w ≤ 5) :
    ∀ d k, k + d = w + 1 → ∀ n m, d < n → d < m → ∀ s f, s < 64 → oc s = k → ∃ r, f_TT_eaveOf_12 n (nI w) (nI s) f (nI k) MC = some (r, MC) ∧ f_M_eaves_45 m (nI (w + 10)) (nI s) f (nI k) MM = some (r, MM) := by
  intro d
  induction d with
  | zero =>
    intro k hk n m hn hm s f hs ho
    obtain ⟨n, rfl⟩ : ∃ k, n = k + 1 := ⟨n - 1, by omega⟩
    obtain ⟨m, rfl⟩ : ∃ k, m = k + 1 := ⟨m - 1, by omega⟩
    refine ⟨f, ?_, ?_⟩
    · simp (disch := omega) only [f_TT_eaveOf_12, jp_c, decide_eq_true_eq, n_lit, n_lt, Nat.reduceEqDiff, Nat.reduceAdd, Nat.reduceMul, ite_true, ite_false, if_true, if_false, eq_self_iff_true, ↓reduceIte, and_self, and_true, true_and, and_false, false_and, not_true_eq_false, not_false_eq_true, if_pos, if_neg]
    · simp (disch := omega) only [f_M_eaves_45, jp_c, decide_eq_true_eq, n_lit, n_sub, n_lt, Nat.reduceEqDiff, Nat.reduceAdd, Nat.reduceMul, ite_true, ite_false, if_true, if_false, eq_self_iff_true, ↓reduceIte, and_self, and_true, true_and, and_false, false_and, not_true_eq_false, not_false_eq_true, if_pos, if_neg]
  | succ d ih =>
    intro k hk n m hn hm s f hs ho
    obtain ⟨n, rfl⟩ : ∃ k, n = k + 1 := ⟨n - 1, by omega⟩
    obtain ⟨m, rfl⟩ : ∃ k, m = k + 1 := ⟨m - 1, by omega⟩
    have hs63 : s < 63 := by
      have : ¬ s = 63 := by
        rintro rfl
        have : oc 63 = 6 := by decide
        omega
      omega
    obtain ⟨m0, z1, z2, z3, z4⟩ := hI s (by omega) (by omega)
    obtain ⟨e', m', w', g1, g2, g3, g4, g5⟩ := z4 hs63
    obtain ⟨f', f1, f2, f3, f4⟩ := l_ev3 hA hB hw hs63 hI (m0 := m0) (by omega) z1 z2 (f_TT_eaveOf_12 n) (f_M_eaves_45 m) (nI w) (nI (w + 10)) 6 0 (by omega) jFu jFu (jFu_lt (by omega)) (jFu_lt (by omega)) ⟨e', m', w', by omega, g1, g2, g3, g4, g5⟩
    obtain ⟨p1, p2, p3⟩ := ev_b s hs f' f1 f2
    obtain ⟨r, r1, r2⟩ := ih (k + 1) (by omega) n m (by omega) (by omega) (s ||| 2 ^ f') (nI f') p1 (by omega)
    rw [ho] at f3 f4
    have hkw : ¬ w < k := by omega
    refine ⟨r, ?_, ?_⟩
    · rw [← r1, ← f3]
      simp (disch := omega) only [f_TT_eaveOf_12, jp_c, decide_eq_true_eq, n_lit, n_neg1, n_lt, Nat.reduceEqDiff, Nat.reduceAdd, Nat.reduceMul, ite_true, ite_false, if_true, if_false, eq_self_iff_true, ↓reduceIte, and_self, and_true, true_and, and_false, false_and, not_true_eq_false, not_false_eq_true, if_pos, if_neg, hkw]
    · rw [← r2, ← f4]
      have hkw' : ¬ w + 10 - 10 < k := by omega
      simp (disch := omega) only [f_M_eaves_45, jp_c, decide_eq_true_eq, n_lit, n_sub, n_lt, Nat.reduceEqDiff, Nat.reduceAdd, Nat.reduceMul, ite_true, ite_false, if_true, if_false, eq_self_iff_true, ↓reduceIte, and_self, and_true, true_and, and_false, false_and, not_true_eq_false, not_false_eq_true, if_pos, if_neg, hkw']
theorem p_eaves (a : Int32) {A B : jp_M} (hR : Rel A B) : pOK (f_C_eaves a A) (f_M_eaves a B) := by
  have T := Rel_told (x := nI 0) hR
  generalize hB1 : jp_set B 104 (upd (B 104) 0 (nI 0)) = B1 at T
  have hT := T
  obtain ⟨⟨hW, hBk, hLw, hPe, hLe, hCi, hWi, hKi, hPo, hWy, hVo⟩, hPic, hKe, hTa, hFa, hTh, hWd⟩ := T
  obtain ⟨MC, MM, e1, e2, e3, e4, e5⟩ := p_ev (A := A) (B := B1) hWy
  have hRR : Rel MC MM := by
    refine Rel_scA (A := A) (fun p hp => e3 p ?_) (Rel_scB (fun p hp => e4 p ?_) (fun i hi => by rw [e4 104 (by decide)]) hT)
    · rintro rfl; exact hp (by decide)
    · rintro rfl; exact hp (by decide)
  by_cases h0 : a = nI 0
  · subst h0
    obtain ⟨m, m1, m2, -⟩ := e5 0 (by omega) (by omega)
    have c1 : f_C_eaves (nI 0) A = some (nI m, MC) := by
      simp (disch := omega) only [f_C_eaves, jp_c, decide_eq_true_eq, n_lit, Nat.reduceEqDiff, Nat.reduceAdd, Nat.reduceMul, ite_true, ite_false, if_true, if_false, eq_self_iff_true, ↓reduceIte, and_self, and_true, true_and, and_false, false_and, not_true_eq_false, not_false_eq_true, if_pos, if_neg, e1, m1, Option.bind_some]
    have c2 : f_M_eaves (nI 0) B = some (nI m, MM) := by
      simp (disch := omega) only [f_M_eaves, f_M_eaves_23, hB1, jp_c, decide_eq_true_eq, n_lit, Nat.reduceEqDiff, Nat.reduceAdd, Nat.reduceMul, ite_true, ite_false, if_true, if_false, eq_self_iff_true, ↓reduceIte, and_self, and_true, true_and, and_false, false_and, not_true_eq_false, not_false_eq_true, if_pos, if_neg, e2, m2, Option.bind_some]
    rw [c1, c2]
    exact pOK_mk rfl hRR
  · by_cases h1 : nI 10 ≤ a ∧ a ≤ nI 15
    · obtain ⟨x, hx0, hx, rfl⟩ := n_rng (by omega) h1.1 (by omega) h1.2
      obtain ⟨w, rfl⟩ : ∃ w, x = w + 10 := ⟨x - 10, by omega⟩
      obtain ⟨r, r1, r2⟩ := l_ev4 (e3 23 (by decide)) (e4 135 (by decide)) hWy e5 (w := w) (by omega) (w + 1) 0 (by omega) jFu jFu (jFu_lt (by omega)) (jFu_lt (by omega)) 0 (nI 4294967295) (by omega) (by decide)
      have c1 : f_C_eaves (nI (w + 10)) A = some (r, MC) := by
        have q1 : ¬ w + 10 < 10 := by omega
        have q2 : ¬ 16 ≤ w + 10 := by omega
        have q3 : nI (w + 10) - nI 10 = nI w := by rw [n_sub (by omega), Nat.add_sub_cancel]
        have q4 : f_TT_eaveOf (nI w) A = some (r, MC) := by
          rw [f_TT_eaveOf, e1, Option.bind_some]
          simp only [n_lit, n_neg1]
          exact r1
        have q5 : ¬ w + 10 = 0 := by omega
        simp (disch := omega) only [f_C_eaves, jp_c, decide_eq_true_eq, n_lit, n_eq, n_lt, n_le, Nat.reduceEqDiff, Nat.reduceAdd, Nat.reduceMul, ite_true, ite_false, if_true, if_false, eq_self_iff_true, ↓reduceIte, and_self, and_true, true_and, and_false, false_and, not_true_eq_false, not_false_eq_true, if_pos, if_neg, q1, q2, q3, q4, q5, Option.bind_some]
      have c2 : f_M_eaves (nI (w + 10)) B = some (r, MM) := by
        have q5 : ¬ w + 10 = 0 := by omega
        simp (disch := omega) only [f_M_eaves, f_M_eaves_23, hB1, n_isIn, n_it0, jp_c, decide_eq_true_eq, n_lit, n_neg1, n_eq, n_le, Nat.reduceEqDiff, Nat.reduceAdd, Nat.reduceMul, ite_true, ite_false, if_true, if_false, eq_self_iff_true, ↓reduceIte, and_self, and_true, true_and, and_false, false_and, not_true_eq_false, not_false_eq_true, if_pos, if_neg, hx0, hx, q5, e2, Option.bind_some]
        exact r2
      rw [c1, c2]
      exact pOK_mk rfl hRR
    · have c2 : f_M_eaves a B = some (nI 4294967295, B1) := by
        simp (disch := omega) only [f_M_eaves, hB1, n_isIn, n_it0, jp_c, decide_eq_true_eq, n_lit, n_neg1, Nat.reduceEqDiff, Nat.reduceAdd, Nat.reduceMul, ite_true, ite_false, if_true, if_false, eq_self_iff_true, ↓reduceIte, and_self, and_true, true_and, and_false, false_and, not_true_eq_false, not_false_eq_true, if_pos, if_neg, h0, h1]
      have c1 : f_C_eaves a A = some (nI 4294967295, A) := by
        by_cases q1 : a < nI 10
        · simp (disch := omega) only [f_C_eaves, jp_c, decide_eq_true_eq, n_lit, n_neg1, Nat.reduceEqDiff, Nat.reduceAdd, Nat.reduceMul, ite_true, ite_false, if_true, if_false, eq_self_iff_true, ↓reduceIte, and_self, and_true, true_and, and_false, false_and, not_true_eq_false, not_false_eq_true, if_pos, if_neg, h0, q1]
        · have q2 : nI 16 ≤ a := by
            clear e5
            simp only [Int32.le_iff_toInt_le, Int32.lt_iff_toInt_lt] at *
            simp (disch := omega) only [n_ti] at *
            omega
          simp (disch := omega) only [f_C_eaves, jp_c, decide_eq_true_eq, n_lit, n_neg1, Nat.reduceEqDiff, Nat.reduceAdd, Nat.reduceMul, ite_true, ite_false, if_true, if_false, eq_self_iff_true, ↓reduceIte, and_self, and_true, true_and, and_false, false_and, not_true_eq_false, not_false_eq_true, if_pos, if_neg, h0, q1, q2]
      rw [c1, c2]
      exact pOK_mk rfl hT
