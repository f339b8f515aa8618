theorem jenc_pos (o : Nat × Int32) : 0 < (jenc o).length := by
  unfold jenc
  split <;> simp
theorem fm_pos {l : List (Nat × Int32)} (h : ¬ l = []) : 0 < (l.flatMap jenc).length := by
  cases l with
  | nil => exact absurd rfl h
  | cons o l =>
    rw [List.flatMap_cons, List.length_append]
    have := jenc_pos o
    omega
/-- a part of a line is worth the same in both -/
theorem p_val {A B : jp_M} {LN : Nat} (h7 : A 7 1 = nI LN) (hLN : LN ≤ 400) (hf : ∀ k, k < 10 → A 12 k = B 125 k) {l : List (Nat × Int32)} {x pc pm : Nat} (ht : jtyp l [] [x]) (hc : pc + (l.flatMap jenc).length ≤ LN) (hm : pm + l.length ≤ 400)
    (g1 : jsegC (A 11) pc (l.flatMap jenc)) (g2 : jsegR (B 119) (B 120) pm l) {MC MM : jp_M} (hC : ∀ q, ¬ q = 13 → MC q = A q) (hM : ∀ q, ¬ q = 126 → MM q = B q) :
    ∃ v MC' MM', f_L_value (nI pc) (nI (pc + (l.flatMap jenc).length)) MC = some (v, MC') ∧ f_M_runs (nI 0) (nI pm) (nI (pm + l.length)) MM = some (v, MM') ∧ (∀ q, ¬ q = 13 → MC' q = A q) ∧ (∀ q, ¬ q = 126 → MM' q = B q) := by
  obtain ⟨MC', MM', st', e1, e2, e3, e4, e5, e6, e7⟩ := l_eval h7 hc hLN hm hf l [] [x] [] MC MM pc pm jFu jFu ht trivial trivial trivial hC hM rfl rfl g1 g2 (jFu_lt (by omega)) (jFu_lt (by omega))
  obtain ⟨v, t, rfl, -, -, hk⟩ := kd_1 e3
  cases t with
  | cons _ _ => exact hk.elim
  | nil =>
    have c1 : MC' 13 0 = v := e4.1
    have c2 : MM' 126 0 = v := e5.1
    refine ⟨v, MC', MM', ?_, ?_, e6, e7⟩
    · rw [f_L_value, show (0 : Int32) = nI ([] : List Int32).length from rfl, e1]
      simp (disch := omega) only [f_L_value_123, List.length_cons, List.length_nil, jp_c, decide_eq_true_eq, n_lit, n_neg1, n_add, n_mul, n_sub, n_div, n_mod, n_le, n_lt, n_eq, n_cl, n_in, Nat.reduceEqDiff, Nat.reduceAdd, Nat.reduceMul, ite_true, ite_false, if_true, if_false, eq_self_iff_true, ↓reduceIte, and_self, and_true, true_and, and_false, false_and, not_true_eq_false, not_false_eq_true, if_pos, if_neg, jg_t, Nat.reduceSub, Nat.sub_self, c1]
    · rw [f_M_runs, show ((400 : Int32) * nI 0 + nI pm) = nI pm by simp only [n_lit, n_mul, n_add, Nat.mul_zero, Nat.zero_add], show (0 : Int32) = nI ([] : List Int32).length from rfl, e2, c2]
/-- what the reference does with the line that it found -/
def KT (most u : Int32) (q1 : Int32 × jp_M) : Option (Int32 × jp_M) :=
  if jp_c .ne q1.1 (-1 : Int32) = true then (
  jg (jp_in q1.1 48) (
  jg (jp_in q1.1 48) (
  (f_M_runs (0 : Int32) (q1.2 116 (Int32.toNatClampNeg q1.1)) (q1.2 117 (Int32.toNatClampNeg q1.1)) q1.2).bind fun q4 => (
  f_M_lawTells_37 most (q4.1) (q4.2))))) else (
  f_M_lawTells_37 most u (q1.2))
theorem l_tells {A B : jp_M} {n : Nat} {ps : Nat → Nat} (hn : n ≤ 16) (a0 : A 7 0 = nI n) (b0 : B 114 0 = nI n) (p0 : ps 0 = 0) (pn : ps n ≤ 400) (a1 : A 7 1 = nI (ps n))
    (hl : ∀ l, l < n → ps l ≤ ps (l + 1) ∧ jLine (A 11) (B 119) (B 120) (A 8 l) (B 115 l) (A 9 l) (A 10 l) (B 116 l) (B 117 l) (B 118 l) (ps l) (ps (l + 1))) (hf : ∀ k, k < 10 → A 12 k = B 125 k) {w : Nat} (hw : w < 3) (u most : Int32) :
    ∀ d i, i + d = n → ∀ N m, d < N → d < m → ∀ MC MM : jp_M, (∀ q, ¬ q = 13 → MC q = A q) → (∀ q, ¬ q = 126 → MM q = B q) →
    ∃ v MC' MM', f_L_tells_18 N (nI w) u (nI i) MC = f_L_tells_128 (nI w) v MC' ∧ (f_M_lineOf_2 m (nI w) (nI i) MM).bind (KT most u) = f_M_lawTells_37 most v MM' ∧ (∀ q, ¬ q = 13 → MC' q = A q) ∧ (∀ q, ¬ q = 126 → MM' q = B q) := by
  have pm : ∀ d i, i + d ≤ n → ps i ≤ ps (i + d) := by
    intro d
    induction d with
    | zero => intro i _; exact Nat.le_refl _
    | succ d ih =>
      intro i hi
      exact Nat.le_trans (ih i (by omega)) (hl (i + d) (by omega)).1
  intro d
  induction d with
  | zero =>
    intro i hi N m hN hm MC MM hC hM
    obtain ⟨N, rfl⟩ : ∃ k, N = k + 1 := ⟨N - 1, by omega⟩
    obtain ⟨m, rfl⟩ : ∃ k, m = k + 1 := ⟨m - 1, by omega⟩
    refine ⟨u, MC, MM, ?_, ?_, hC, hM⟩
    · have := hC 7 (by decide)
      simp (disch := omega) only [f_L_tells_18, jp_c, decide_eq_true_eq, n_lit, n_neg1, n_add, n_mul, n_sub, n_div, n_mod, n_le, n_lt, n_eq, n_cl, n_in, Nat.reduceEqDiff, Nat.reduceAdd, Nat.reduceMul, ite_true, ite_false, if_true, if_false, eq_self_iff_true, ↓reduceIte, and_self, and_true, true_and, and_false, false_and, not_true_eq_false, not_false_eq_true, if_pos, if_neg, this, a0]
    · have := hM 114 (by decide)
      simp (disch := omega) only [f_M_lineOf_2, KT, jp_c, decide_eq_true_eq, n_lit, n_neg1, n_add, n_mul, n_sub, n_div, n_mod, n_le, n_lt, n_eq, n_cl, n_in, Nat.reduceEqDiff, Nat.reduceAdd, Nat.reduceMul, ite_true, ite_false, if_true, if_false, eq_self_iff_true, ↓reduceIte, and_self, and_true, true_and, and_false, false_and, not_true_eq_false, not_false_eq_true, if_pos, if_neg, this, b0, Option.bind_some]
  | succ d ih =>
    intro i hi N m hN hm MC MM hC hM
    obtain ⟨N, rfl⟩ : ∃ k, N = k + 1 := ⟨N - 1, by omega⟩
    obtain ⟨m, rfl⟩ : ∃ k, m = k + 1 := ⟨m - 1, by omega⟩
    obtain ⟨hp, wd, r1, E, C, w0, w1, w2, l1, l2, l3, l4, l5, l6, l7, l8, s1, s2, s3, s4, ⟨x, hx, hE⟩, hCt⟩ := hl i (by omega)
    have hps := pm (n - (i + 1)) (i + 1) (by omega)
    rw [show i + 1 + (n - (i + 1)) = n by omega] at hps
    have nxt : ∀ MC MM : jp_M, (∀ q, ¬ q = 13 → MC q = A q) → (∀ q, ¬ q = 126 → MM q = B q) → ∃ v MC' MM', f_L_tells_18 N (nI w) u (nI (i + 1)) MC = f_L_tells_128 (nI w) v MC' ∧ (f_M_lineOf_2 m (nI w) (nI (i + 1)) MM).bind (KT most u) = f_M_lawTells_37 most v MM' ∧ (∀ q, ¬ q = 13 → MC' q = A q) ∧ (∀ q, ¬ q = 126 → MM' q = B q) :=
      fun MC MM h1 h2 => ih (i + 1) (by omega) N m (by omega) (by omega) MC MM h1 h2
    have cm : ∀ MC : jp_M, (∀ q, ¬ q = 13 → MC q = A q) → MC 7 0 = nI n ∧ MC 8 i = nI wd ∧ MC 9 i = nI (ps i + (E.flatMap jenc).length) ∧ MC 10 i = nI (ps (i + 1)) := by
      intro MC h
      refine ⟨by rw [h 7 (by decide), a0], by rw [h 8 (by decide), w1], by rw [h 9 (by decide), l5], by rw [h 10 (by decide), l6]⟩
    have mm : ∀ MM : jp_M, (∀ q, ¬ q = 126 → MM q = B q) → MM 114 0 = nI n ∧ MM 115 i = nI wd ∧ MM 116 i = nI r1 ∧ MM 117 i = nI (r1 + E.length) ∧ MM 118 i = nI (r1 + E.length + C.length) := by
      intro MM h
      refine ⟨by rw [h 114 (by decide), b0], by rw [h 115 (by decide), w2], by rw [h 116 (by decide), l1], by rw [h 117 (by decide), l2], by rw [h 118 (by decide), l3]⟩
    -- the line is taken
    have tk : ∀ MC MM : jp_M, (∀ q, ¬ q = 13 → MC q = A q) → (∀ q, ¬ q = 126 → MM q = B q) → ∃ v MC' MM', f_L_tells_88 (nI w) (nI i) MC = f_L_tells_128 (nI w) v MC' ∧ KT most u (nI i, MM) = f_M_lawTells_37 most v MM' ∧ (∀ q, ¬ q = 13 → MC' q = A q) ∧ (∀ q, ¬ q = 126 → MM' q = B q) := by
      intro MC MM h1 h2
      obtain ⟨v, MC', MM', v1, v2, v3, v4⟩ := p_val a1 pn hf hE (pc := ps i) (pm := r1) (by omega) (by omega) s1 s3 h1 h2
      obtain ⟨-, -, m9, -⟩ := cm MC h1
      obtain ⟨-, -, m116, m117, -⟩ := mm MM h2
      refine ⟨v, MC', MM', ?_, ?_, v3, v4⟩
      · by_cases hi0 : i = 0
        · subst hi0
          rw [p0] at v1 m9
          simp (disch := omega) only [f_L_tells_88, f_L_tells_107, jp_c, decide_eq_true_eq, n_lit, n_neg1, n_add, n_mul, n_sub, n_div, n_mod, n_le, n_lt, n_eq, n_cl, n_in, Nat.reduceEqDiff, Nat.reduceAdd, Nat.reduceMul, ite_true, ite_false, if_true, if_false, eq_self_iff_true, ↓reduceIte, and_self, and_true, true_and, and_false, false_and, not_true_eq_false, not_false_eq_true, if_pos, if_neg, jg_t, m9]
          rw [v1]; rfl
        · have m10 : MC 10 (i - 1) = nI (ps i) := by
            obtain ⟨_, _, _, _, _, _, _, _, _, _, _, _, _, l6', _⟩ := hl (i - 1) (by omega)
            rw [h1 10 (by decide), l6', show i - 1 + 1 = i by omega]
          simp (disch := omega) only [f_L_tells_88, f_L_tells_107, jp_c, decide_eq_true_eq, n_lit, n_neg1, n_add, n_mul, n_sub, n_div, n_mod, n_le, n_lt, n_eq, n_cl, n_in, Nat.reduceEqDiff, Nat.reduceAdd, Nat.reduceMul, ite_true, ite_false, if_true, if_false, eq_self_iff_true, ↓reduceIte, and_self, and_true, true_and, and_false, false_and, not_true_eq_false, not_false_eq_true, if_pos, if_neg, jg_t, m9, m10, hi0]
          rw [v1]; rfl
      · simp (disch := omega) only [KT, jp_c, decide_eq_true_eq, n_lit, n_neg1, n_add, n_mul, n_sub, n_div, n_mod, n_le, n_lt, n_eq, n_cl, n_in, Nat.reduceEqDiff, Nat.reduceAdd, Nat.reduceMul, ite_true, ite_false, if_true, if_false, eq_self_iff_true, ↓reduceIte, and_self, and_true, true_and, and_false, false_and, not_true_eq_false, not_false_eq_true, if_pos, if_neg, jg_t, m116, m117]
        rw [v2]; rfl
    obtain ⟨c7, c8, c9, c10⟩ := cm MC hC
    obtain ⟨d114, d115, d116, d117, d118⟩ := mm MM hM
    by_cases hwd : wd = w
    · subst hwd
      by_cases hC0 : C = []
      · subst hC0
        simp only [List.flatMap_nil, List.length_nil, Nat.add_zero] at l7 d118
        obtain ⟨v, MC', MM', t1, t2, t3, t4⟩ := tk MC MM hC hM
        refine ⟨v, MC', MM', ?_, ?_, t3, t4⟩
        · rw [← t1]
          rw [l7] at c10
          simp (disch := omega) only [f_L_tells_18, f_L_tells_49, jp_c, decide_eq_true_eq, n_lit, n_neg1, n_add, n_mul, n_sub, n_div, n_mod, n_le, n_lt, n_eq, n_cl, n_in, Nat.reduceEqDiff, Nat.reduceAdd, Nat.reduceMul, ite_true, ite_false, if_true, if_false, eq_self_iff_true, ↓reduceIte, and_self, and_true, true_and, and_false, false_and, not_true_eq_false, not_false_eq_true, if_pos, if_neg, jg_t, c7, c8, c9, c10]
        · rw [← t2]
          simp (disch := omega) only [f_M_lineOf_2, jp_c, decide_eq_true_eq, n_lit, n_neg1, n_add, n_mul, n_sub, n_div, n_mod, n_le, n_lt, n_eq, n_cl, n_in, Nat.reduceEqDiff, Nat.reduceAdd, Nat.reduceMul, ite_true, ite_false, if_true, if_false, eq_self_iff_true, ↓reduceIte, and_self, and_true, true_and, and_false, false_and, not_true_eq_false, not_false_eq_true, if_pos, if_neg, jg_t, d114, d115, d117, d118, Option.bind_some]
      · have hCt' := hCt.resolve_left hC0
        have hp1 := fm_pos hC0
        have hp2 : 0 < C.length := List.length_pos_iff.mpr hC0
        obtain ⟨v, MC1, MM1, v1, v2, v3, v4⟩ := p_val a1 pn hf hCt' (pc := ps i + (E.flatMap jenc).length) (pm := r1 + E.length) (by omega) (by omega) s2 s4 hC hM
        rw [← l7] at v1
        have e9 : ¬ ps i + (E.flatMap jenc).length = ps (i + 1) := by omega
        have e117 : ¬ r1 + E.length = r1 + E.length + C.length := by omega
        by_cases hv : v = nI 0
        · obtain ⟨w', MC', MM', t1, t2, t3, t4⟩ := nxt MC1 MM1 v3 v4
          refine ⟨w', MC', MM', ?_, ?_, t3, t4⟩
          · rw [← t1]
            simp (disch := omega) only [f_L_tells_18, f_L_tells_49, f_L_tells_122, jp_c, decide_eq_true_eq, n_lit, n_neg1, n_add, n_mul, n_sub, n_div, n_mod, n_le, n_lt, n_eq, n_cl, n_in, Nat.reduceEqDiff, Nat.reduceAdd, Nat.reduceMul, ite_true, ite_false, if_true, if_false, eq_self_iff_true, ↓reduceIte, and_self, and_true, true_and, and_false, false_and, not_true_eq_false, not_false_eq_true, if_pos, if_neg, jg_t, c7, c8, c9, c10, e9, v1, hv, Option.bind_some]
          · rw [← t2]
            simp (disch := omega) only [f_M_lineOf_2, f_M_lineOf_59, jp_c, decide_eq_true_eq, n_lit, n_neg1, n_add, n_mul, n_sub, n_div, n_mod, n_le, n_lt, n_eq, n_cl, n_in, Nat.reduceEqDiff, Nat.reduceAdd, Nat.reduceMul, ite_true, ite_false, if_true, if_false, eq_self_iff_true, ↓reduceIte, and_self, and_true, true_and, and_false, false_and, not_true_eq_false, not_false_eq_true, if_pos, if_neg, jg_t, d114, d115, d117, d118, e117, v2, hv, Option.bind_some]
        · obtain ⟨w', MC', MM', t1, t2, t3, t4⟩ := tk MC1 MM1 v3 v4
          refine ⟨w', MC', MM', ?_, ?_, t3, t4⟩
          · rw [← t1]
            simp (disch := omega) only [f_L_tells_18, f_L_tells_49, f_L_tells_122, jp_c, decide_eq_true_eq, n_lit, n_neg1, n_add, n_mul, n_sub, n_div, n_mod, n_le, n_lt, n_eq, n_cl, n_in, Nat.reduceEqDiff, Nat.reduceAdd, Nat.reduceMul, ite_true, ite_false, if_true, if_false, eq_self_iff_true, ↓reduceIte, and_self, and_true, true_and, and_false, false_and, not_true_eq_false, not_false_eq_true, if_pos, if_neg, jg_t, c7, c8, c9, c10, e9, v1, hv, Option.bind_some]
          · rw [← t2]
            simp (disch := omega) only [f_M_lineOf_2, f_M_lineOf_59, jp_c, decide_eq_true_eq, n_lit, n_neg1, n_add, n_mul, n_sub, n_div, n_mod, n_le, n_lt, n_eq, n_cl, n_in, Nat.reduceEqDiff, Nat.reduceAdd, Nat.reduceMul, ite_true, ite_false, if_true, if_false, eq_self_iff_true, ↓reduceIte, and_self, and_true, true_and, and_false, false_and, not_true_eq_false, not_false_eq_true, if_pos, if_neg, jg_t, d114, d115, d117, d118, e117, v2, hv, Option.bind_some]
    · obtain ⟨v, MC', MM', t1, t2, t3, t4⟩ := nxt MC MM hC hM
      refine ⟨v, MC', MM', ?_, ?_, t3, t4⟩
      · rw [← t1]
        by_cases hq : ps i + (E.flatMap jenc).length = ps (i + 1) <;> simp (disch := omega) only [f_L_tells_18, f_L_tells_49, f_L_tells_122, jp_c, decide_eq_true_eq, n_lit, n_neg1, n_add, n_mul, n_sub, n_div, n_mod, n_le, n_lt, n_eq, n_cl, n_in, Nat.reduceEqDiff, Nat.reduceAdd, Nat.reduceMul, ite_true, ite_false, if_true, if_false, eq_self_iff_true, ↓reduceIte, and_self, and_true, true_and, and_false, false_and, not_true_eq_false, not_false_eq_true, if_pos, if_neg, jg_t, c7, c8, c9, c10, hwd, hq]
      · rw [← t2]
        simp (disch := omega) only [f_M_lineOf_2, f_M_lineOf_59, jp_c, decide_eq_true_eq, n_lit, n_neg1, n_add, n_mul, n_sub, n_div, n_mod, n_le, n_lt, n_eq, n_cl, n_in, Nat.reduceEqDiff, Nat.reduceAdd, Nat.reduceMul, ite_true, ite_false, if_true, if_false, eq_self_iff_true, ↓reduceIte, and_self, and_true, true_and, and_false, false_and, not_true_eq_false, not_false_eq_true, if_pos, if_neg, jg_t, d114, d115, hwd]
theorem n_held {v : Int32} {m : Nat} (hm : m < 2147483648) : ∃ k, k ≤ m ∧ f_M_held v 0 (nI m) = nI k ∧ jp_max 0 (jp_min (nI m) v) = nI k := by
  have h0 : (0 : Int32) ≤ nI m := by rw [n_lit, n_le (by omega) hm]; omega
  by_cases h1 : 0 ≤ v
  · by_cases h2 : v ≤ nI m
    · obtain ⟨k, -, hk, rfl⟩ := n_rng (a := 0) hm h1 (by omega) h2
      refine ⟨k, hk, ?_, ?_⟩
      · simp only [f_M_held, jp_c, decide_eq_true_eq, h1, h2, if_true]
      · rw [n_min hm (by omega), show min m k = k by omega, n_lit, n_max (by omega) (by omega)]
        rw [show max 0 k = k by omega]
    · refine ⟨m, Nat.le_refl _, ?_, ?_⟩
      · simp only [f_M_held, jp_c, decide_eq_true_eq, h1, h2, if_true, if_false]
      · have : jp_min (nI m) v = nI m := by
          unfold jp_min
          rw [if_neg]
          intro h
          exact h2 (Int32.le_of_lt h)
        rw [this, n_lit, n_max (by omega) (by omega)]
        rw [show max 0 m = m by omega]
  · refine ⟨0, by omega, ?_, ?_⟩
    · simp only [f_M_held, jp_c, decide_eq_true_eq, h1, if_false]; rfl
    · have hv : v < 0 := Int32.not_le.mp h1
      have : jp_min (nI m) v = v := by
        unfold jp_min
        rw [if_pos (Int32.lt_of_lt_of_le hv h0)]
      rw [this]
      unfold jp_max
      rw [if_neg]
      · rfl
      · intro h
        exact h1 (Int32.le_of_lt h)
/-- the law tells the same in both -/
theorem p_law {A B : jp_M} (hLw : rLaw (A 7) (A 8) (A 9) (A 10) (A 11) (B 114) (B 115) (B 116) (B 117) (B 118) (B 119) (B 120)) (hf : ∀ k, k < 10 → A 12 k = B 125 k) {w most : Nat} (hw : w < 3) (hm : most = if w = 0 then 1000 else 999) (u : Int32) :
    ∃ v A' B', f_L_tells_18 jFu (nI w) u (nI 0) A = some (nI v, A') ∧ f_M_lawTells (nI w) u (nI most) B = some (nI v, B') ∧ v ≤ most ∧ (∀ q, ¬ q = 13 → A' q = A q) ∧ (∀ q, ¬ q = 126 → B' q = B q) := by
  obtain ⟨n, ps, hn, a0, b0, p0, pn, a1, hl⟩ := hLw
  obtain ⟨v, A', B', e1, e2, e3, e4⟩ := l_tells hn a0 b0 p0 pn a1 hl hf hw u (nI most) n 0 (by omega) jFu jFu (jFu_lt (by omega)) (jFu_lt (by omega)) A B (fun _ _ => rfl) (fun _ _ => rfl)
  have hm' : most ≤ 1000 := by rw [hm]; split <;> omega
  obtain ⟨k, k1, k2, k3⟩ := n_held (v := v) (m := most) (by omega)
  refine ⟨k, A', B', ?_, ?_, k1, e3, e4⟩
  · rw [e1, ← k3]
    by_cases h0 : w = 0
    · subst h0
      rw [if_pos rfl] at hm
      subst hm
      simp (disch := omega) only [f_L_tells_128, f_L_tells_142, jp_c, decide_eq_true_eq, n_lit, n_neg1, n_add, n_mul, n_sub, n_div, n_mod, n_le, n_lt, n_eq, n_cl, n_in, Nat.reduceEqDiff, Nat.reduceAdd, Nat.reduceMul, ite_true, ite_false, if_true, if_false, eq_self_iff_true, ↓reduceIte, and_self, and_true, true_and, and_false, false_and, not_true_eq_false, not_false_eq_true, if_pos, if_neg]
    · rw [if_neg h0] at hm
      subst hm
      simp (disch := omega) only [f_L_tells_128, f_L_tells_142, jp_c, decide_eq_true_eq, n_lit, n_neg1, n_add, n_mul, n_sub, n_div, n_mod, n_le, n_lt, n_eq, n_cl, n_in, Nat.reduceEqDiff, Nat.reduceAdd, Nat.reduceMul, ite_true, ite_false, if_true, if_false, eq_self_iff_true, ↓reduceIte, and_self, and_true, true_and, and_false, false_and, not_true_eq_false, not_false_eq_true, if_pos, if_neg, h0]
  · have : f_M_lawTells (nI w) u (nI most) B = (f_M_lineOf_2 jFu (nI w) (nI 0) B).bind (KT (nI most) u) := rfl
    rw [this, e2, f_M_lawTells_37, k2]
theorem t1_eq : ∀ n, f_L_tells_1_18 n = f_L_tells_18 n := by
  intro n
  induction n with
  | zero => rfl
  | succ n ih =>
    funext a b c M
    simp only [f_L_tells_1_18, f_L_tells_18, f_L_tells_1_49, f_L_tells_49, f_L_tells_1_122, f_L_tells_122, f_L_tells_1_88, f_L_tells_88, f_L_tells_1_107, f_L_tells_107, f_L_tells_1_128, f_L_tells_128, f_L_tells_1_142, f_L_tells_142, ih]
