/-- with no height left nothing is found -/
theorem l_w0 {A B : jp_M} {U : Nat} (hU : U ≤ 16) (h2 : B 105 5 = nI U) {a b : Int32} {w r h : Nat} (hw : w ≤ 80) (hr : r < 10) (hh : h < 8) (hf : ∀ r, r < 10 → frA A (B 105) U r) (c17 : Int32 → Int32 → Int32 → Int32 → jp_M → Option (Int32 × jp_M)) (c22 : Int32 → Int32 → Int32 → Int32 → Int32 → jp_M → Option (Int32 × jp_M)) :
    ∀ d l, l + d = 10 → r ≤ l → ∀ m, d < m → f_M_wide_49 m c17 c22 a (nI w) b (nI r) (nI h) (nI 0) (nI l) B = c22 a (nI w) b (nI r) (nI (h + 1)) B := by
  intro d
  induction d with
  | zero =>
    intro l hl hrl m hm
    obtain ⟨m, rfl⟩ : ∃ k, m = k + 1 := ⟨m - 1, by omega⟩
    simp (disch := omega) only [f_M_wide_49, jp_c, decide_eq_true_eq, n_lit, n_neg1, n_add, n_mul, n_sub, n_div, n_mod, n_le, n_lt, n_eq, n_cl, n_in, Nat.reduceEqDiff, Nat.reduceAdd, Nat.reduceMul, ite_true, ite_false, if_true, if_false, eq_self_iff_true, ↓reduceIte, and_self, and_true, true_and, and_false, false_and, not_true_eq_false, not_false_eq_true, if_pos, if_neg]
  | succ d ih =>
    intro l hl hrl m hm
    obtain ⟨m, rfl⟩ : ∃ k, m = k + 1 := ⟨m - 1, by omega⟩
    obtain ⟨v, v0, -, v2⟩ := p_run (h := h) hU h2 (show l < 10 by omega) (by omega) (hf l (by omega))
    rw [← ih (l + 1) (by omega) (by omega) m (by omega)]
    simp (disch := omega) only [f_M_wide_49, f_M_wide_102, jp_c, decide_eq_true_eq, n_lit, n_neg1, n_add, n_mul, n_sub, n_div, n_mod, n_le, n_lt, n_eq, n_cl, n_in, Nat.reduceEqDiff, Nat.reduceAdd, Nat.reduceMul, ite_true, ite_false, if_true, if_false, eq_self_iff_true, ↓reduceIte, and_self, and_true, true_and, and_false, false_and, not_true_eq_false, not_false_eq_true, if_pos, if_neg, v2, Option.bind_some, n_ls, n_min, n_gr, n_max, Nat.zero_min, Nat.zero_mul, Nat.zero_le, Nat.max_zero]
theorem l_w1 {A B : jp_M} {U : Nat} (hU : U ≤ 16) (h2 : B 105 5 = nI U) {a : Int32} {r h : Nat} (hr : r < 10) (hh : h < 8) (hf : ∀ r, r < 10 → frA A (B 105) U r) (c17 : Int32 → Int32 → Int32 → Int32 → jp_M → Option (Int32 × jp_M)) (c22 : Int32 → Int32 → Int32 → Int32 → Int32 → jp_M → Option (Int32 × jp_M)) :
    ∀ d l, l + d = 10 → r ≤ l → ∀ n m, d < n → d < m → ∀ t w b M, t ≤ 8 → w ≤ 80 → (∀ q, ¬ q = 56 → M q = A q) → M 56 8 = nI w → M 56 9 = b →
    ∃ M' w' b', f_T_widensFrom_6 n (nI r) (nI h) (nI t) (nI l) M = some M' ∧ w' ≤ 80 ∧ (∀ q, ¬ q = 56 → M' q = A q) ∧ M' 56 8 = nI w' ∧ M' 56 9 = b' ∧ f_M_wide_49 m c17 c22 a (nI w) b (nI r) (nI h) (nI t) (nI l) B = c22 a (nI w') b' (nI r) (nI (h + 1)) B := by
  intro d
  induction d with
  | zero =>
    intro l hl hrl n m hn hm t w b M ht hw hM h8 h9
    obtain ⟨n, rfl⟩ : ∃ k, n = k + 1 := ⟨n - 1, by omega⟩
    obtain ⟨m, rfl⟩ : ∃ k, m = k + 1 := ⟨m - 1, by omega⟩
    refine ⟨M, w, b, ?_, hw, hM, h8, h9, ?_⟩
    · simp (disch := omega) only [f_T_widensFrom_6, jp_c, decide_eq_true_eq, n_lit, n_neg1, n_add, n_mul, n_sub, n_div, n_mod, n_le, n_lt, n_eq, n_cl, n_in, Nat.reduceEqDiff, Nat.reduceAdd, Nat.reduceMul, ite_true, ite_false, if_true, if_false, eq_self_iff_true, ↓reduceIte, and_self, and_true, true_and, and_false, false_and, not_true_eq_false, not_false_eq_true, if_pos, if_neg]
    · simp (disch := omega) only [f_M_wide_49, jp_c, decide_eq_true_eq, n_lit, n_neg1, n_add, n_mul, n_sub, n_div, n_mod, n_le, n_lt, n_eq, n_cl, n_in, Nat.reduceEqDiff, Nat.reduceAdd, Nat.reduceMul, ite_true, ite_false, if_true, if_false, eq_self_iff_true, ↓reduceIte, and_self, and_true, true_and, and_false, false_and, not_true_eq_false, not_false_eq_true, if_pos, if_neg]
  | succ d ih =>
    intro l hl hrl n m hn hm t w b M ht hw hM h8 h9
    by_cases ht0 : t = 0
    · subst ht0
      refine ⟨M, w, b, ?_, hw, hM, h8, h9, l_w0 hU h2 hw hr hh hf c17 c22 (d + 1) l hl hrl m hm⟩
      obtain ⟨n, rfl⟩ : ∃ k, n = k + 1 := ⟨n - 1, by omega⟩
      simp (disch := omega) only [f_T_widensFrom_6, jp_c, decide_eq_true_eq, n_lit, n_neg1, n_add, n_mul, n_sub, n_div, n_mod, n_le, n_lt, n_eq, n_cl, n_in, Nat.reduceEqDiff, Nat.reduceAdd, Nat.reduceMul, ite_true, ite_false, if_true, if_false, eq_self_iff_true, ↓reduceIte, and_self, and_true, true_and, and_false, false_and, not_true_eq_false, not_false_eq_true, if_pos, if_neg, Nat.le_refl, ite_self]
    · obtain ⟨n, rfl⟩ : ∃ k, n = k + 1 := ⟨n - 1, by omega⟩
      obtain ⟨m, rfl⟩ : ∃ k, m = k + 1 := ⟨m - 1, by omega⟩
      have ht1 : ¬ t ≤ 0 := by omega
      have hfM : frA M (B 105) U l := by
        obtain ⟨w, w1, w2, w3⟩ := hf l (by omega)
        exact ⟨w, w1, by rw [hM 57 (by decide), w2], w3⟩
      obtain ⟨v, v0, v1, v2⟩ := p_run (h := h) hU h2 (show l < 10 by omega) (by omega) hfM
      have hmul : min t v * (l - r + 1) ≤ 80 := Nat.le_trans (Nat.mul_le_mul (show min t v ≤ 8 by omega) (show l - r + 1 ≤ 10 by omega)) (by omega)
      by_cases hc : min t v * (l - r + 1) ≤ w
      · obtain ⟨M', w', b', e1, e2, e3, e4, e5, e6⟩ := ih (l + 1) (by omega) (by omega) n m (by omega) (by omega) (min t v) w b M (by omega) hw hM h8 h9
        refine ⟨M', w', b', ?_, e2, e3, e4, e5, ?_⟩
        · rw [← e1]
          simp (disch := omega) only [f_T_widensFrom_6, f_T_widensFrom_64, jp_c, decide_eq_true_eq, n_lit, n_neg1, n_add, n_mul, n_sub, n_div, n_mod, n_le, n_lt, n_eq, n_cl, n_in, Nat.reduceEqDiff, Nat.reduceAdd, Nat.reduceMul, ite_true, ite_false, if_true, if_false, eq_self_iff_true, ↓reduceIte, and_self, and_true, true_and, and_false, false_and, not_true_eq_false, not_false_eq_true, if_pos, if_neg, v1, Option.bind_some, n_min, h8, hc, ht1]
        · rw [← e6]
          simp (disch := omega) only [f_M_wide_49, f_M_wide_102, jp_c, decide_eq_true_eq, n_lit, n_neg1, n_add, n_mul, n_sub, n_div, n_mod, n_le, n_lt, n_eq, n_cl, n_in, Nat.reduceEqDiff, Nat.reduceAdd, Nat.reduceMul, ite_true, ite_false, if_true, if_false, eq_self_iff_true, ↓reduceIte, and_self, and_true, true_and, and_false, false_and, not_true_eq_false, not_false_eq_true, if_pos, if_neg, v2, Option.bind_some, n_ls, n_min, n_gr, n_max, hc]
          rw [Nat.max_eq_left hc]
      · obtain ⟨M', w', b', e1, e2, e3, e4, e5, e6⟩ := ih (l + 1) (by omega) (by omega) n m (by omega) (by omega) (min t v) (min t v * (l - r + 1)) (nI (10 * r + h))
          (jp_set (jp_set M 56 (upd (M 56) 8 (nI (min t v * (l - r + 1))))) 56 (upd (upd (M 56) 8 (nI (min t v * (l - r + 1)))) 9 (nI (10 * r + h)))) (by omega) hmul (fun q hq => by rw [st_ne hq, st_ne hq, hM q hq])
          (by rw [st_same, ud_ne (by decide), ud_eq rfl]) (by rw [st_same, ud_eq rfl])
        refine ⟨M', w', b', ?_, e2, e3, e4, e5, ?_⟩
        · rw [← e1]
          simp (disch := omega) only [f_T_widensFrom_6, f_T_widensFrom_64, jp_c, decide_eq_true_eq, n_lit, n_neg1, n_add, n_mul, n_sub, n_div, n_mod, n_le, n_lt, n_eq, n_cl, n_in, st_ap, ud_ap, Nat.reduceEqDiff, Nat.reduceAdd, Nat.reduceMul, ite_true, ite_false, if_true, if_false, eq_self_iff_true, ↓reduceIte, and_self, and_true, true_and, and_false, false_and, not_true_eq_false, not_false_eq_true, if_pos, if_neg, v1, Option.bind_some, n_min, h8, hc, ht1]
        · rw [← e6]
          simp (disch := omega) only [f_M_wide_49, f_M_wide_102, jp_c, decide_eq_true_eq, n_lit, n_neg1, n_add, n_mul, n_sub, n_div, n_mod, n_le, n_lt, n_eq, n_cl, n_in, Nat.reduceEqDiff, Nat.reduceAdd, Nat.reduceMul, ite_true, ite_false, if_true, if_false, eq_self_iff_true, ↓reduceIte, and_self, and_true, true_and, and_false, false_and, not_true_eq_false, not_false_eq_true, if_pos, if_neg, v2, Option.bind_some, n_ls, n_min, n_gr, n_max, hc]
          rw [Nat.max_eq_right (by omega)]
theorem l_w2 {A B : jp_M} {U : Nat} (hU : U ≤ 16) (h2 : B 105 5 = nI U) {a : Int32} {r : Nat} (hr : r < 10) (hf : ∀ r, r < 10 → frA A (B 105) U r) (c10 : Int32 → jp_M → Option jp_M) (c17 : Int32 → Int32 → Int32 → Int32 → jp_M → Option (Int32 × jp_M)) :
    ∀ d h, h + d = 8 → ∀ n m, d < n → d < m → ∀ w b M, w ≤ 80 → (∀ q, ¬ q = 56 → M q = A q) → M 56 8 = nI w → M 56 9 = b →
    ∃ M' w' b', f_T_widens_24 n c10 (nI r) (nI h) M = c10 (nI (r + 1)) M' ∧ w' ≤ 80 ∧ (∀ q, ¬ q = 56 → M' q = A q) ∧ M' 56 8 = nI w' ∧ M' 56 9 = b' ∧ f_M_wide_34 m c17 a (nI w) b (nI r) (nI h) B = c17 a (nI w') b' (nI (r + 1)) B := by
  intro d
  induction d with
  | zero =>
    intro h hh n m hn hm w b M hw hM h8 h9
    obtain ⟨n, rfl⟩ : ∃ k, n = k + 1 := ⟨n - 1, by omega⟩
    obtain ⟨m, rfl⟩ : ∃ k, m = k + 1 := ⟨m - 1, by omega⟩
    refine ⟨M, w, b, ?_, hw, hM, h8, h9, ?_⟩
    · simp (disch := omega) only [f_T_widens_24, jp_c, decide_eq_true_eq, n_lit, n_neg1, n_add, n_mul, n_sub, n_div, n_mod, n_le, n_lt, n_eq, n_cl, n_in, Nat.reduceEqDiff, Nat.reduceAdd, Nat.reduceMul, ite_true, ite_false, if_true, if_false, eq_self_iff_true, ↓reduceIte, and_self, and_true, true_and, and_false, false_and, not_true_eq_false, not_false_eq_true, if_pos, if_neg]
    · simp (disch := omega) only [f_M_wide_34, jp_c, decide_eq_true_eq, n_lit, n_neg1, n_add, n_mul, n_sub, n_div, n_mod, n_le, n_lt, n_eq, n_cl, n_in, Nat.reduceEqDiff, Nat.reduceAdd, Nat.reduceMul, ite_true, ite_false, if_true, if_false, eq_self_iff_true, ↓reduceIte, and_self, and_true, true_and, and_false, false_and, not_true_eq_false, not_false_eq_true, if_pos, if_neg]
  | succ d ih =>
    intro h hh n m hn hm w b M hw hM h8 h9
    obtain ⟨n, rfl⟩ : ∃ k, n = k + 1 := ⟨n - 1, by omega⟩
    obtain ⟨m, rfl⟩ : ∃ k, m = k + 1 := ⟨m - 1, by omega⟩
    obtain ⟨M1, w1, b1, a1, a2, a3, a4, a5, a6⟩ := l_w1 hU h2 (a := a) (r := r) (h := h) hr (by omega) hf c17 (f_M_wide_34 m c17) (10 - r) r (by omega) (by omega) jFu jFu (jFu_lt (by omega)) (jFu_lt (by omega)) 8 w b M (by omega) hw hM h8 h9
    obtain ⟨M', w', b', e1, e2, e3, e4, e5, e6⟩ := ih (h + 1) (by omega) n m (by omega) (by omega) w1 b1 M1 a2 a3 a4 a5
    have a1' : f_T_widensFrom (nI r) (nI h) M = some M1 := a1
    refine ⟨M', w', b', ?_, e2, e3, e4, e5, ?_⟩
    · rw [← e1]
      simp (disch := omega) only [f_T_widens_24, jp_c, decide_eq_true_eq, n_lit, n_neg1, n_add, n_mul, n_sub, n_div, n_mod, n_le, n_lt, n_eq, n_cl, n_in, Nat.reduceEqDiff, Nat.reduceAdd, Nat.reduceMul, ite_true, ite_false, if_true, if_false, eq_self_iff_true, ↓reduceIte, and_self, and_true, true_and, and_false, false_and, not_true_eq_false, not_false_eq_true, if_pos, if_neg, a1', Option.bind_some]
    · rw [← e6, ← a6]
      simp (disch := omega) only [f_M_wide_34, jp_c, decide_eq_true_eq, n_lit, n_neg1, n_add, n_mul, n_sub, n_div, n_mod, n_le, n_lt, n_eq, n_cl, n_in, Nat.reduceEqDiff, Nat.reduceAdd, Nat.reduceMul, ite_true, ite_false, if_true, if_false, eq_self_iff_true, ↓reduceIte, and_self, and_true, true_and, and_false, false_and, not_true_eq_false, not_false_eq_true, if_pos, if_neg]
theorem l_w3 {A B : jp_M} {U : Nat} (hU : U ≤ 16) (h2 : B 105 5 = nI U) {a : Int32} (hf : ∀ r, r < 10 → frA A (B 105) U r) :
    ∀ d r, r + d = 10 → ∀ n m, d < n → d < m → ∀ w b M, w ≤ 80 → (∀ q, ¬ q = 56 → M q = A q) → M 56 8 = nI w → M 56 9 = b →
    ∃ M', f_T_widens_16 n (nI r) M = some M' ∧ (∀ q, ¬ q = 56 → M' q = A q) ∧ f_M_wide_24 m a (nI w) b (nI r) B = some (if a = nI 0 then M' 56 8 else M' 56 9, B) := by
  intro d
  induction d with
  | zero =>
    intro r hr n m hn hm w b M hw hM h8 h9
    obtain ⟨n, rfl⟩ : ∃ k, n = k + 1 := ⟨n - 1, by omega⟩
    obtain ⟨m, rfl⟩ : ∃ k, m = k + 1 := ⟨m - 1, by omega⟩
    refine ⟨M, ?_, hM, ?_⟩
    · simp (disch := omega) only [f_T_widens_16, jp_c, decide_eq_true_eq, n_lit, n_neg1, n_add, n_mul, n_sub, n_div, n_mod, n_le, n_lt, n_eq, n_cl, n_in, Nat.reduceEqDiff, Nat.reduceAdd, Nat.reduceMul, ite_true, ite_false, if_true, if_false, eq_self_iff_true, ↓reduceIte, and_self, and_true, true_and, and_false, false_and, not_true_eq_false, not_false_eq_true, if_pos, if_neg]
    · simp (disch := omega) only [f_M_wide_24, jp_c, decide_eq_true_eq, n_lit, n_neg1, n_add, n_mul, n_sub, n_div, n_mod, n_le, n_lt, n_eq, n_cl, n_in, Nat.reduceEqDiff, Nat.reduceAdd, Nat.reduceMul, ite_true, ite_false, if_true, if_false, eq_self_iff_true, ↓reduceIte, and_self, and_true, true_and, and_false, false_and, not_true_eq_false, not_false_eq_true, if_pos, if_neg, h8, h9]
      by_cases hz : a = nI 0 <;> simp [hz]
  | succ d ih =>
    intro r hr n m hn hm w b M hw hM h8 h9
    obtain ⟨n, rfl⟩ : ∃ k, n = k + 1 := ⟨n - 1, by omega⟩
    obtain ⟨m, rfl⟩ : ∃ k, m = k + 1 := ⟨m - 1, by omega⟩
    obtain ⟨M1, w1, b1, a1, a2, a3, a4, a5, a6⟩ := l_w2 hU h2 (a := a) (r := r) (by omega) hf (f_T_widens_16 n) (f_M_wide_24 m) 8 0 (by omega) jFu jFu (jFu_lt (by omega)) (jFu_lt (by omega)) w b M hw hM h8 h9
    obtain ⟨M', e1, e2, e3⟩ := ih (r + 1) (by omega) n m (by omega) (by omega) w1 b1 M1 a2 a3 a4 a5
    refine ⟨M', ?_, e2, ?_⟩
    · rw [← e1, ← a1]
      simp (disch := omega) only [f_T_widens_16, jp_c, decide_eq_true_eq, n_lit, n_neg1, n_add, n_mul, n_sub, n_div, n_mod, n_le, n_lt, n_eq, n_cl, n_in, Nat.reduceEqDiff, Nat.reduceAdd, Nat.reduceMul, ite_true, ite_false, if_true, if_false, eq_self_iff_true, ↓reduceIte, and_self, and_true, true_and, and_false, false_and, not_true_eq_false, not_false_eq_true, if_pos, if_neg]
    · rw [← e3, ← a6]
      simp (disch := omega) only [f_M_wide_24, jp_c, decide_eq_true_eq, n_lit, n_neg1, n_add, n_mul, n_sub, n_div, n_mod, n_le, n_lt, n_eq, n_cl, n_in, Nat.reduceEqDiff, Nat.reduceAdd, Nat.reduceMul, ite_true, ite_false, if_true, if_false, eq_self_iff_true, ↓reduceIte, and_self, and_true, true_and, and_false, false_and, not_true_eq_false, not_false_eq_true, if_pos, if_neg]
theorem p_wide (a : Int32) {A B : jp_M} (hR : Rel A B) : pOK (f_C_wide a A) (f_M_wide a B) := by
  have T := Rel_told (x := nI 0) hR
  generalize hB1 : jp_set B 104 (upd (B 104) 0 (nI 0)) = B1 at T
  have hT := T
  obtain ⟨⟨hW, hBk, hLw, hPe, hLe, hCi, hWi, hKi, hPo, hWy, hVo⟩, hPic, hKe, hTa, hFa, hTh, hWd⟩ := T
  obtain ⟨U, hu⟩ := uF_rel hW
  by_cases h1 : nI 0 ≤ a ∧ a ≤ nI 1
  · obtain ⟨A', m1, m2, m3⟩ := p_lf hu
    obtain ⟨M', e1, e2, e3⟩ := l_w3 (A := A') (a := a) hu.1 hu.2.2.1 m3 10 0 (by omega) jFu jFu (jFu_lt (by omega)) (jFu_lt (by omega)) 0 (-1 : Int32) (jp_set (jp_set A' 56 (upd (A' 56) 8 (0 : Int32))) 56 (upd ((jp_set A' 56 (upd (A' 56) 8 (0 : Int32))) 56) 9 (-1 : Int32)))
      (by omega) (fun q hq => by rw [st_ne hq, st_ne hq]) (by rw [st_same, ud_ne (by decide), st_same, ud_eq rfl]; rfl) (by rw [st_same, ud_eq rfl])
    have c0 : f_T_widens A = some M' := by
      rw [f_T_widens, m1, Option.bind_some]
      exact e1
    have c1 : f_C_wide a A = some (if a = nI 0 then M' 56 8 else M' 56 9, M') := by
      simp (disch := omega) only [f_C_wide, n_within, n_it0, jp_c, decide_eq_true_eq, n_lit, n_neg1, n_add, n_mul, n_sub, n_div, n_mod, n_le, n_lt, n_eq, n_cl, n_in, Nat.reduceEqDiff, Nat.reduceAdd, Nat.reduceMul, ite_true, ite_false, if_true, if_false, eq_self_iff_true, ↓reduceIte, and_self, and_true, true_and, and_false, false_and, not_true_eq_false, not_false_eq_true, if_pos, if_neg, h1, c0, Option.bind_some]
      by_cases hz : a = nI 0 <;> simp [hz]
    have c2 : f_M_wide a B = some (if a = nI 0 then M' 56 8 else M' 56 9, B1) := by
      rw [← e3]
      simp (disch := omega) only [f_M_wide, hB1, n_isIn, n_it0, jp_c, decide_eq_true_eq, n_lit, n_neg1, n_add, n_mul, n_sub, n_div, n_mod, n_le, n_lt, n_eq, n_cl, n_in, Nat.reduceEqDiff, Nat.reduceAdd, Nat.reduceMul, ite_true, ite_false, if_true, if_false, eq_self_iff_true, ↓reduceIte, and_self, and_true, true_and, and_false, false_and, not_true_eq_false, not_false_eq_true, if_pos, if_neg, h1]
    rw [c1, c2]
    refine pOK_mk rfl (Rel_scA (fun p hp => ?_) hT)
    rw [e2 p (by rintro rfl; exact hp (by decide)), m2 p (by rintro rfl; exact hp (by decide))]
  · simp (disch := omega) only [f_C_wide, f_M_wide, hB1, n_within, n_isIn, n_it0, jp_c, decide_eq_true_eq, n_lit, n_neg1, n_add, n_mul, n_sub, n_div, n_mod, n_le, n_lt, n_eq, n_cl, n_in, Nat.reduceEqDiff, Nat.reduceAdd, Nat.reduceMul, ite_true, ite_false, if_true, if_false, eq_self_iff_true, ↓reduceIte, and_self, and_true, true_and, and_false, false_and, not_true_eq_false, not_false_eq_true, if_pos, if_neg, h1]
    exact pOK_mk rfl hT
/-- leaps: the reference's loop over the roofs before -/
theorem l_lp1 {B M : jp_M} {U r : Nat} (hU : U ≤ 16) (h2 : B 105 5 = nI U) (hr0 : 0 < r) (hr : r < 10) (hM : M 105 = B 105) (h0 : M 127 r = nI 0) {a : Int32} (c : Int32 → Int32 → jp_M → Option (Int32 × jp_M)) (n : Nat) :
    ∃ M' v, f_M_leaps_42 (n + 1 + 1 + 1 + 1) c a (nI r) (nI 1) M = c a (nI (r + 1)) M' ∧ (∀ q, ¬ q = 127 → M' q = M q) ∧ (∀ j, ¬ j = r → M' 127 j = M 127 j) ∧ M' 127 r = v ∧
    v = (if fr (B 105) U (nI r) 0 then M 127 (r - 1) + (if 2 ≤ r then M 127 (r - 2) else nI 0) + (if 3 ≤ r then M 127 (r - 3) else nI 0) else nI 0) := by
  have q : ∀ N : jp_M, N 105 = B 105 → f_M_isFree (nI r) (nI 0) N = some (if fr (B 105) U (nI r) 0 then nI 1 else nI 0) := by
    intro N hN
    rw [p_isFree hU (by rw [hN, h2]) (nI r) 0, hN]
  cases hfr : fr (B 105) U (nI r) 0
  · refine ⟨M, nI 0, ?_, fun _ _ => rfl, fun _ _ => rfl, h0, by simp⟩
    have q0 := q M hM
    rw [hfr] at q0
    simp (disch := omega) only [f_M_leaps_42, f_M_leaps_88, n_ls, n_min, jp_c, decide_eq_true_eq, n_lit, n_neg1, n_add, n_mul, n_sub, n_div, n_mod, n_le, n_lt, n_eq, n_cl, n_in, Nat.reduceEqDiff, Nat.reduceAdd, Nat.reduceMul, ite_true, ite_false, if_true, if_false, eq_self_iff_true, ↓reduceIte, and_self, and_true, true_and, and_false, false_and, not_true_eq_false, not_false_eq_true, if_pos, if_neg, q0, Option.bind_some, Bool.false_eq_true]
  · rw [hfr] at q
    have z0 : ∀ x : Int32, nI 0 + x = x := fun x => Int32.zero_add x
    have q0 := q M hM
    have q1 : ∀ f, f_M_isFree (nI r) (nI 0) (jp_set M 127 f) = some (if true = true then nI 1 else nI 0) := fun f => q _ (by rw [st_ne (by decide), hM])
    have q2 : ∀ f g, f_M_isFree (nI r) (nI 0) (jp_set (jp_set M 127 f) 127 g) = some (if true = true then nI 1 else nI 0) := fun f g => q _ (by rw [st_ne (by decide), st_ne (by decide), hM])
    have q3 : ∀ f g h, f_M_isFree (nI r) (nI 0) (jp_set (jp_set (jp_set M 127 f) 127 g) 127 h) = some (if true = true then nI 1 else nI 0) := fun f g h => q _ (by rw [st_ne (by decide), st_ne (by decide), st_ne (by decide), hM])
    have hr' : r = 1 ∨ r = 2 ∨ 3 ≤ r := by omega
    rcases hr' with rfl | rfl | h3
    · refine ⟨jp_set M 127 (upd (M 127) 1 (M 127 0)), M 127 0, ?_, fun q hq => st_ne hq, fun j hj => by rw [st_same, ud_ne hj], by rw [st_same, ud_eq rfl], ?_⟩
      · simp (disch := omega) only [f_M_leaps_42, f_M_leaps_88, n_ls, n_min, jp_c, decide_eq_true_eq, n_lit, n_neg1, n_add, n_mul, n_sub, n_div, n_mod, n_le, n_lt, n_eq, n_cl, n_in, Nat.reduceEqDiff, Nat.reduceAdd, Nat.reduceMul, ite_true, ite_false, if_true, if_false, eq_self_iff_true, ↓reduceIte, and_self, and_true, true_and, and_false, false_and, not_true_eq_false, not_false_eq_true, if_pos, if_neg, q0, q1, Option.bind_some, jg_t, jg_T, h0, show min 3 1 = 1 from rfl, Nat.reduceSub, Nat.sub_self, Nat.reduceLT, Nat.reduceLeDiff, z0]
      · simp only [↓reduceIte, Nat.reduceLeDiff, Nat.sub_self]
        rw [show nI 0 = 0 from rfl, Int32.add_zero, Int32.add_zero]
    · refine ⟨jp_set (jp_set M 127 (upd (M 127) 2 (M 127 1))) 127 (upd (upd (M 127) 2 (M 127 1)) 2 (M 127 1 + M 127 0)), M 127 1 + M 127 0, ?_, fun q hq => by rw [st_ne hq, st_ne hq], fun j hj => by rw [st_same, ud_ne hj, ud_ne hj], by rw [st_same, ud_eq rfl], ?_⟩
      · simp (disch := omega) only [f_M_leaps_42, f_M_leaps_88, n_ls, n_min, jp_c, decide_eq_true_eq, n_lit, n_neg1, n_add, n_mul, n_sub, n_div, n_mod, n_le, n_lt, n_eq, n_cl, n_in, st_ap, ud_ap, Nat.reduceEqDiff, Nat.reduceAdd, Nat.reduceMul, ite_true, ite_false, if_true, if_false, eq_self_iff_true, ↓reduceIte, and_self, and_true, true_and, and_false, false_and, not_true_eq_false, not_false_eq_true, if_pos, if_neg, q0, q1, q2, Option.bind_some, jg_t, jg_T, h0, show min 3 2 = 2 from rfl, Nat.reduceSub, Nat.sub_self, Nat.reduceLT, Nat.reduceLeDiff, z0]
      · simp only [↓reduceIte, Nat.reduceLeDiff, Nat.sub_self, Nat.le_refl, Nat.reduceSub]
        rw [show nI 0 = 0 from rfl, Int32.add_zero]
    · have hm : min 3 r = 3 := by omega
      have n1 : ¬ r - 1 = r := by omega
      have n2 : ¬ r - 2 = r := by omega
      have n3 : ¬ r - 3 = r := by omega
      refine ⟨jp_set (jp_set (jp_set M 127 (upd (M 127) r (M 127 (r - 1)))) 127 (upd (upd (M 127) r (M 127 (r - 1))) r (M 127 (r - 1) + M 127 (r - 2)))) 127 (upd (upd (upd (M 127) r (M 127 (r - 1))) r (M 127 (r - 1) + M 127 (r - 2))) r (M 127 (r - 1) + M 127 (r - 2) + M 127 (r - 3))), M 127 (r - 1) + M 127 (r - 2) + M 127 (r - 3), ?_, fun q hq => by rw [st_ne hq, st_ne hq, st_ne hq], fun j hj => by rw [st_same, ud_ne hj, ud_ne hj, ud_ne hj], by rw [st_same, ud_eq rfl], ?_⟩
      · simp (disch := omega) only [f_M_leaps_42, f_M_leaps_88, n_ls, n_min, jp_c, decide_eq_true_eq, n_lit, n_neg1, n_add, n_mul, n_sub, n_div, n_mod, n_le, n_lt, n_eq, n_cl, n_in, st_ap, ud_ap, Nat.reduceEqDiff, Nat.reduceAdd, Nat.reduceMul, ite_true, ite_false, if_true, if_false, eq_self_iff_true, ↓reduceIte, and_self, and_true, true_and, and_false, false_and, not_true_eq_false, not_false_eq_true, if_pos, if_neg, q0, q1, q2, q3, Option.bind_some, jg_t, jg_T, h0, hm, n1, n2, n3, Nat.reduceLT, Nat.reduceLeDiff, z0]
      · rw [if_pos rfl, if_pos (by omega), if_pos h3]
theorem l_lp2 {A B : jp_M} {U a : Nat} (hU : U ≤ 16) (h2 : B 105 5 = nI U) (hf : ∀ r, r < 10 → frA A (B 105) U r) (ha : a < 10) :
    ∀ d r, r + d = a + 1 → 0 < r → ∀ n m, d < n → d < m → ∀ M, (∀ q, ¬ q = 127 → M q = B q) →
    ∃ v M', f_T_leapWays_14 n (nI a) (if 2 ≤ r then M 127 (r - 2) else nI 0) (if 3 ≤ r then M 127 (r - 3) else nI 0) (M 127 (r - 1)) (nI r) A = some (v, A) ∧ f_M_leaps_20 m (nI a) (nI r) M = some (v, M') ∧ ∀ q, ¬ q = 127 → M' q = B q := by
  intro d
  induction d with
  | zero =>
    intro r hr h0 n m hn hm M hM
    obtain ⟨n, rfl⟩ : ∃ k, n = k + 1 := ⟨n - 1, by omega⟩
    obtain ⟨m, rfl⟩ : ∃ k, m = k + 1 := ⟨m - 1, by omega⟩
    have hra : r - 1 = a := by omega
    refine ⟨M 127 a, M, ?_, ?_, hM⟩
    · simp (disch := omega) only [f_T_leapWays_14, jp_c, decide_eq_true_eq, n_lit, n_neg1, n_add, n_mul, n_sub, n_div, n_mod, n_le, n_lt, n_eq, n_cl, n_in, Nat.reduceEqDiff, Nat.reduceAdd, Nat.reduceMul, ite_true, ite_false, if_true, if_false, eq_self_iff_true, ↓reduceIte, and_self, and_true, true_and, and_false, false_and, not_true_eq_false, not_false_eq_true, if_pos, if_neg, hra]
    · simp (disch := omega) only [f_M_leaps_20, jp_c, decide_eq_true_eq, n_lit, n_neg1, n_add, n_mul, n_sub, n_div, n_mod, n_le, n_lt, n_eq, n_cl, n_in, Nat.reduceEqDiff, Nat.reduceAdd, Nat.reduceMul, ite_true, ite_false, if_true, if_false, eq_self_iff_true, ↓reduceIte, and_self, and_true, true_and, and_false, false_and, not_true_eq_false, not_false_eq_true, if_pos, if_neg, jg_t]
  | succ d ih =>
    intro r hr h0 n m hn hm M hM
    obtain ⟨n, rfl⟩ : ∃ k, n = k + 1 := ⟨n - 1, by omega⟩
    obtain ⟨m, rfl⟩ : ∃ k, m = k + 1 := ⟨m - 1, by omega⟩
    have q1 := p_tf (h := 0) (hf r (by omega)) (by omega) (by omega)
    obtain ⟨M1, v1, a1, a2, a3, a4, a5⟩ := l_lp1 (M := jp_set M 127 (upd (M 127) r (nI 0))) hU h2 h0 (show r < 10 by omega) (by rw [st_ne (by decide), hM 105 (by decide)]) (by rw [st_same, ud_eq rfl]) (a := nI a) (f_M_leaps_20 m) 99996
    obtain ⟨v, M', e1, e2, e3⟩ := ih (r + 1) (by omega) (by omega) n m (by omega) (by omega) M1 (fun q hq => by rw [a2 q hq, st_ne hq, hM q hq])
    have k : ∀ j, ¬ j = r → M1 127 j = M 127 j := by
      intro j hj
      rw [a3 j hj, st_same, ud_ne hj]
    rw [st_same, ud_ne (by omega), ud_ne (by omega), ud_ne (by omega)] at a5
    have k1 : M1 127 (r + 1 - 1) = v1 := by rw [Nat.add_sub_cancel, a4]
    have k2 : (if 2 ≤ r + 1 then M1 127 (r + 1 - 2) else nI 0) = M 127 (r - 1) := by
      rw [if_pos (by omega), show r + 1 - 2 = r - 1 by omega, k _ (by omega)]
    have k3 : (if 3 ≤ r + 1 then M1 127 (r + 1 - 3) else nI 0) = (if 2 ≤ r then M 127 (r - 2) else nI 0) := by
      by_cases h : 2 ≤ r
      · rw [if_pos h, if_pos (by omega), show r + 1 - 3 = r - 2 by omega, k _ (by omega)]
      · rw [if_neg h, if_neg (by omega)]
    rw [k1, k2, k3] at e1
    have hr0 : ¬ r = 0 := by omega
    have hra : ¬ a < r := by omega
    refine ⟨v, M', ?_, ?_, e3⟩
    · rw [← e1, a5]
      cases hfr : fr (B 105) U (nI r) 0
      · rw [hfr] at q1
        simp (disch := omega) only [f_T_leapWays_14, f_T_leapWays_40, jp_c, decide_eq_true_eq, n_lit, n_neg1, n_add, n_le, n_lt, n_eq, Nat.reduceEqDiff, Nat.reduceAdd, ↓reduceIte, hra, q1, Option.bind_some, Bool.false_eq_true]
      · rw [hfr] at q1
        simp (disch := omega) only [f_T_leapWays_14, f_T_leapWays_40, jp_c, decide_eq_true_eq, n_lit, n_neg1, n_add, n_le, n_lt, n_eq, Nat.reduceEqDiff, Nat.reduceAdd, ↓reduceIte, hra, q1, Option.bind_some]
    · rw [← e2, ← a1, show 99996 + 1 + 1 + 1 + 1 = jFu from rfl]
      simp (disch := omega) only [f_M_leaps_20, f_M_leaps_39, jp_c, decide_eq_true_eq, n_lit, n_neg1, n_add, n_mul, n_sub, n_div, n_mod, n_le, n_lt, n_eq, n_cl, n_in, Nat.reduceEqDiff, Nat.reduceAdd, Nat.reduceMul, ite_true, ite_false, if_true, if_false, eq_self_iff_true, ↓reduceIte, and_self, and_true, true_and, and_false, false_and, not_true_eq_false, not_false_eq_true, if_pos, if_neg, hr0, jg_t]
theorem l_lp00 {x : Nat} {M : jp_M} (c : Int32 → Int32 → jp_M → Option (Int32 × jp_M)) (n : Nat) : f_M_leaps_42 (n + 1) c (nI x) (nI 0) (nI 1) M = c (nI x) (nI 1) M := by
  simp (disch := omega) only [f_M_leaps_42, f_M_leaps_88, n_ls, n_min, jp_c, decide_eq_true_eq, n_lit, n_neg1, n_add, n_mul, n_sub, n_div, n_mod, n_le, n_lt, n_eq, n_cl, n_in, Nat.reduceEqDiff, Nat.reduceAdd, Nat.reduceMul, ite_true, ite_false, if_true, if_false, eq_self_iff_true, ↓reduceIte, and_self, and_true, true_and, and_false, false_and, not_true_eq_false, not_false_eq_true, if_pos, if_neg, Nat.min_zero, Nat.zero_lt_one]
theorem l_lp0 {x : Nat} {B1 : jp_M} (n : Nat) (hx0 : 1 ≤ x) (hx : x ≤ 9) : f_M_leaps_20 (n + 1) (nI x) (nI 0) B1 = f_M_leaps_20 n (nI x) (nI 1) (jp_set B1 127 (upd (B1 127) 0 (nI 1))) := by
  have t := l_lp00 (x := x) (M := jp_set B1 127 (upd (B1 127) 0 (nI 1))) (f_M_leaps_20 n) 99999
  have t' : f_M_leaps_42 jFu (f_M_leaps_20 n) (nI x) (nI 0) (nI 1) (jp_set B1 127 (upd (B1 127) 0 (nI 1))) = f_M_leaps_20 n (nI x) (nI 1) (jp_set B1 127 (upd (B1 127) 0 (nI 1))) := t
  simp (disch := omega) only [f_M_leaps_20, f_M_leaps_39, jp_c, decide_eq_true_eq, n_lit, n_neg1, n_add, n_mul, n_sub, n_div, n_mod, n_le, n_lt, n_eq, n_cl, n_in, Nat.reduceEqDiff, Nat.reduceAdd, Nat.reduceMul, ite_true, ite_false, if_true, if_false, eq_self_iff_true, ↓reduceIte, and_self, and_true, true_and, and_false, false_and, not_true_eq_false, not_false_eq_true, if_pos, if_neg, jg_t, t']
theorem p_leaps (a : Int32) {A B : jp_M} (hR : Rel A B) : pOK (f_C_leaps a A) (f_M_leaps a B) := by
  have T := Rel_told (x := nI 0) hR
  generalize hB1 : jp_set B 104 (upd (B 104) 0 (nI 0)) = B1 at T
  have hT := T
  obtain ⟨⟨hW, hBk, hLw, hPe, hLe, hCi, hWi, hKi, hPo, hWy, hVo⟩, hPic, hKe, hTa, hFa, hTh, hWd⟩ := T
  obtain ⟨U, hu⟩ := uF_rel hW
  by_cases h1 : nI 1 ≤ a ∧ a ≤ nI 9
  · obtain ⟨x, hx0, hx, rfl⟩ := n_rng (by omega) h1.1 (by omega) h1.2
    obtain ⟨A', m1, m2, m3⟩ := p_lf hu
    obtain ⟨v, M', e1, e2, e3⟩ := l_lp2 hu.1 hu.2.2.1 m3 (show x < 10 by omega) x 1 (by omega) (by omega) jFu 99999 (jFu_lt (by omega)) (by omega) (jp_set B1 127 (upd (B1 127) 0 (nI 1))) (fun q hq => st_ne hq)
    have k0 : (jp_set B1 127 (upd (B1 127) 0 (nI 1))) 127 (1 - 1) = nI 1 := by rw [st_same, ud_eq rfl]
    rw [k0, if_neg (by omega), if_neg (by omega)] at e1
    have c1 : f_C_leaps (nI x) A = some (v, A') := by
      simp (disch := omega) only [f_C_leaps, f_T_leapWays, jp_c, decide_eq_true_eq, n_lit, n_neg1, n_add, n_mul, n_sub, n_div, n_mod, n_le, n_lt, n_eq, n_cl, n_in, Nat.reduceEqDiff, Nat.reduceAdd, Nat.reduceMul, ite_true, ite_false, if_true, if_false, eq_self_iff_true, ↓reduceIte, and_self, and_true, true_and, and_false, false_and, not_true_eq_false, not_false_eq_true, if_pos, if_neg, m1, Option.bind_some]
      rw [e1]
      rfl
    have c2 : f_M_leaps (nI x) B = some (v, M') := by
      rw [← e2]
      have : f_M_leaps_20 jFu (nI x) (nI 0) B1 = f_M_leaps_20 99999 (nI x) (nI 1) (jp_set B1 127 (upd (B1 127) 0 (nI 1))) := l_lp0 99999 hx0 hx
      rw [← this]
      simp (disch := omega) only [f_M_leaps, hB1, n_isIn, n_it0, jp_c, decide_eq_true_eq, n_lit, n_neg1, n_add, n_mul, n_sub, n_div, n_mod, n_le, n_lt, n_eq, n_cl, n_in, Nat.reduceEqDiff, Nat.reduceAdd, Nat.reduceMul, ite_true, ite_false, if_true, if_false, eq_self_iff_true, ↓reduceIte, and_self, and_true, true_and, and_false, false_and, not_true_eq_false, not_false_eq_true, if_pos, if_neg, hx0, hx]
    rw [c1, c2]
    refine pOK_mk rfl (Rel_scA (fun p hp => m2 p ?_) (Rel_scB (fun p hp => e3 p ?_) (fun i hi => by rw [e3 104 (by decide)]) hT))
    · rintro rfl; exact hp (by decide)
    · rintro rfl; exact hp (by decide)
  · have c2 : f_M_leaps a B = some (nI 4294967295, B1) := by
      simp (disch := omega) only [f_M_leaps, hB1, n_isIn, n_it0, jp_c, decide_eq_true_eq, n_lit, n_neg1, n_add, n_mul, n_sub, n_div, n_mod, n_le, n_lt, n_eq, n_cl, n_in, Nat.reduceEqDiff, Nat.reduceAdd, Nat.reduceMul, ite_true, ite_false, if_true, if_false, eq_self_iff_true, ↓reduceIte, and_self, and_true, true_and, and_false, false_and, not_true_eq_false, not_false_eq_true, if_pos, if_neg, h1]
    have c1 : f_C_leaps a A = some (nI 4294967295, A) := by
      unfold f_C_leaps
      (repeat' split) <;> first | rfl | (exfalso; apply h1; simp only [jp_c, decide_eq_true_eq, Int32.le_iff_toInt_le, Int32.lt_iff_toInt_lt, n_lit] at *; simp (disch := omega) only [n_ti] at *; omega)
    rw [c1, c2]
    exact pOK_mk rfl hT
