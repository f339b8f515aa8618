theorem n_sadd (x k : Nat) : nI x - nI (x + k) = 0 - nI k := by
  rw [← n_add]
  simp only [Int32.sub_eq_add_neg, Int32.neg_add, Int32.zero_add]
  rw [← Int32.add_assoc, Int32.add_right_neg, Int32.zero_add]
theorem n_ngn {k : Nat} (h0 : 0 < k) (hk : k < 2147483648) : ¬ (0 : Int32) ≤ 0 - nI k := by
  intro h
  have h1 := n_of h
  obtain ⟨n, hn, h2⟩ := h1
  have h3 : nI (n + k) = nI 0 := by
    rw [← n_add, ← h2]
    simp only [Int32.sub_eq_add_neg, Int32.zero_add]
    exact Int32.add_left_neg _
  rw [n_eq (by omega) (by omega)] at h3
  omega
theorem n_ab {x z : Nat} (hx : x < 2147483648) (hz : z < 2147483648) : jp_abs (nI x - nI z) = nI (x - z + (z - x)) := by
  unfold jp_abs
  by_cases h : z ≤ x
  · rw [n_sub h, if_pos (by rw [n_lit, n_le (by omega) (by omega)]; omega)]
    congr 1; omega
  · obtain ⟨k, rfl⟩ : ∃ k, z = x + k := ⟨z - x, by omega⟩
    rw [n_sadd, if_neg (n_ngn (by omega) (by omega))]
    rw [show x - (x + k) + (x + k - x) = k by omega]
    simp only [Int32.sub_eq_add_neg, Int32.zero_add, Int32.neg_neg]
theorem n_apt {x z : Nat} (hx : x < 2147483648) (hz : z < 2147483648) : f_M_apart (nI x) (nI z) = nI (x - z + (z - x)) := by
  unfold f_M_apart
  simp only [jp_c, decide_eq_true_eq, n_le hx hz]
  split
  · next h => rw [n_sub h]; congr 1; omega
  · next h => rw [n_sub (by omega)]; congr 1; omega
theorem l_arb {A B : jp_M} {N : Nat} (hN : N ≤ 8) (h1 : A 19 2 = nI N) (h2 : B 104 56 = nI N)
    (hr : ∀ i, i < 8 → ∃ x y z v, x ≤ 999 ∧ y ≤ 999 ∧ z ≤ 999 ∧ v ≤ 9 ∧ A 22 (4 * i) = nI x ∧ B 138 i = nI x ∧ A 22 (4 * i + 1) = nI y ∧ B 139 i = nI y ∧ A 22 (4 * i + 2) = nI z ∧ B 140 i = nI z ∧ A 22 (4 * i + 3) = nI v ∧ B 141 i = nI v) (a : Int32) :
    ∀ d i, i + d = N → ∀ n m, d < n → d < m → ∀ s c M, (∀ q, ¬ q = 61 → M q = A q) → M 61 7 = s → M 61 9 = c →
    ∃ M', f_TT_arbitrates_12 n (nI (4 * i)) M = some M' ∧ (∀ q, ¬ q = 61 → M' q = A q) ∧ f_M_arbiter_24 m a s c (nI i) B = some (if a = nI 0 then M' 61 7 else M' 61 9, B) := by
  intro d
  induction d with
  | zero =>
    intro i hi n m hn hm s c M hM h7 h9
    obtain ⟨n, rfl⟩ : ∃ k, n = k + 1 := ⟨n - 1, by omega⟩
    obtain ⟨m, rfl⟩ : ∃ k, m = k + 1 := ⟨m - 1, by omega⟩
    have m19 := hM 19 (by decide)
    refine ⟨M, ?_, hM, ?_⟩
    · simp (disch := omega) only [f_TT_arbitrates_12, jp_c, decide_eq_true_eq, n_lit, n_neg1, n_add, n_mul, n_sub, n_div, n_mod, n_le, n_lt, n_eq, n_cl, n_in, Nat.reduceEqDiff, Nat.reduceAdd, Nat.reduceMul, ite_true, ite_false, if_true, if_false, eq_self_iff_true, ↓reduceIte, and_self, and_true, true_and, and_false, false_and, not_true_eq_false, not_false_eq_true, if_pos, if_neg, h1, m19]
    · simp (disch := omega) only [f_M_arbiter_24, jp_c, decide_eq_true_eq, n_lit, n_neg1, n_add, n_mul, n_sub, n_div, n_mod, n_le, n_lt, n_eq, n_cl, n_in, Nat.reduceEqDiff, Nat.reduceAdd, Nat.reduceMul, ite_true, ite_false, if_true, if_false, eq_self_iff_true, ↓reduceIte, and_self, and_true, true_and, and_false, false_and, not_true_eq_false, not_false_eq_true, if_pos, if_neg, h2, h7, h9]
      by_cases hz : a = nI 0 <;> simp [hz]
  | succ d ih =>
    intro i hi n m hn hm s c M hM h7 h9
    obtain ⟨n, rfl⟩ : ∃ k, n = k + 1 := ⟨n - 1, by omega⟩
    obtain ⟨m, rfl⟩ : ∃ k, m = k + 1 := ⟨m - 1, by omega⟩
    have m19 := hM 19 (by decide)
    have m22 := hM 22 (by decide)
    obtain ⟨x, y, z, v, hx, hy, hz, hv, x1, x2, y1, y2, z1, z2, v1, v2⟩ := hr i (by omega)
    by_cases h : y - z + (z - y) < x - z + (z - x)
    · obtain ⟨M', e1, e2, e3⟩ := ih (i + 1) (by omega) n m (by omega) (by omega) (s + nI (v * y)) c (jp_set (jp_set M 61 (upd (M 61) 7 (s + nI (v * y)))) 61 (upd (upd (M 61) 7 (s + nI (v * y))) 9 (c + nI 0)))
        (fun q hq => by rw [st_ne hq, st_ne hq, hM q hq]) (by rw [st_same, ud_ne (by decide), ud_eq rfl]) (by rw [st_same, ud_eq rfl]; exact Int32.add_zero c)
      refine ⟨M', ?_, e2, ?_⟩
      · rw [← e1]
        simp (disch := omega) only [f_TT_arbitrates_12, f_TT_arbitrates_82, f_TT_arbitrates_110, f_TT_arbitrates_130, jp_c, decide_eq_true_eq, n_lit, n_neg1, n_add, n_mul, n_sub, n_div, n_mod, n_le, n_lt, n_eq, n_cl, n_in, st_ap, ud_ap, Nat.reduceEqDiff, Nat.reduceAdd, Nat.reduceMul, ite_true, ite_false, if_true, if_false, eq_self_iff_true, ↓reduceIte, and_self, and_true, true_and, and_false, false_and, not_true_eq_false, not_false_eq_true, if_pos, if_neg, h1, m19, m22, x1, y1, z1, v1, h7, h9, n_ab, h, jg_t, Nat.mul_add]
      · rw [← e3]
        simp (disch := omega) only [f_M_arbiter_24, f_M_arbiter_77, f_M_arbiter_109, f_M_arbiter_121, jp_c, decide_eq_true_eq, n_lit, n_neg1, n_add, n_mul, n_sub, n_div, n_mod, n_le, n_lt, n_eq, n_cl, n_in, Nat.reduceEqDiff, Nat.reduceAdd, Nat.reduceMul, ite_true, ite_false, if_true, if_false, eq_self_iff_true, ↓reduceIte, and_self, and_true, true_and, and_false, false_and, not_true_eq_false, not_false_eq_true, if_pos, if_neg, h2, x2, y2, z2, v2, n_apt, h, jg_t]
    · obtain ⟨M', e1, e2, e3⟩ := ih (i + 1) (by omega) n m (by omega) (by omega) (s + nI (v * x)) (c + nI 1) (jp_set (jp_set M 61 (upd (M 61) 7 (s + nI (v * x)))) 61 (upd (upd (M 61) 7 (s + nI (v * x))) 9 (c + nI 1)))
        (fun q hq => by rw [st_ne hq, st_ne hq, hM q hq]) (by rw [st_same, ud_ne (by decide), ud_eq rfl]) (by rw [st_same, ud_eq rfl])
      refine ⟨M', ?_, e2, ?_⟩
      · rw [← e1]
        simp (disch := omega) only [f_TT_arbitrates_12, f_TT_arbitrates_82, f_TT_arbitrates_110, f_TT_arbitrates_130, jp_c, decide_eq_true_eq, n_lit, n_neg1, n_add, n_mul, n_sub, n_div, n_mod, n_le, n_lt, n_eq, n_cl, n_in, st_ap, ud_ap, Nat.reduceEqDiff, Nat.reduceAdd, Nat.reduceMul, ite_true, ite_false, if_true, if_false, eq_self_iff_true, ↓reduceIte, and_self, and_true, true_and, and_false, false_and, not_true_eq_false, not_false_eq_true, if_pos, if_neg, h1, m19, m22, x1, y1, z1, v1, h7, h9, n_ab, h, jg_t, Nat.mul_add]
      · rw [← e3]
        simp (disch := omega) only [f_M_arbiter_24, f_M_arbiter_77, f_M_arbiter_109, f_M_arbiter_121, jp_c, decide_eq_true_eq, n_lit, n_neg1, n_add, n_mul, n_sub, n_div, n_mod, n_le, n_lt, n_eq, n_cl, n_in, Nat.reduceEqDiff, Nat.reduceAdd, Nat.reduceMul, ite_true, ite_false, if_true, if_false, eq_self_iff_true, ↓reduceIte, and_self, and_true, true_and, and_false, false_and, not_true_eq_false, not_false_eq_true, if_pos, if_neg, h2, x2, y2, z2, v2, n_apt, h, jg_t]
theorem p_arbiter (a : Int32) {A B : jp_M} (hR : Rel A B) : pOK (f_C_arbiter a A) (f_M_arbiter a B) := by
  have T := Rel_told (x := nI 0) hR
  generalize hB1 : jp_set B 104 (upd (B 104) 0 (nI 0)) = B1 at T
  have hT := T
  obtain ⟨⟨hW, hBk, hLw, hPe, hLe, hCi, hWi, hKi, hPo, hWy, hVo⟩, hPic, hKe, hTa, hFa, hTh, hWd⟩ := T
  obtain ⟨⟨N, hN, p1, p2⟩, p3⟩ := hPo
  by_cases h1 : nI 0 ≤ a ∧ a ≤ nI 1
  · obtain ⟨M', e1, e2, e3⟩ := l_arb hN p1 p2 p3 a N 0 (by omega) jFu jFu (jFu_lt (by omega)) (jFu_lt (by omega)) (nI 0) (nI 0) (jp_set (jp_set A 61 (upd (A 61) 7 (nI 0))) 61 (upd (upd (A 61) 7 (nI 0)) 9 (nI 0)))
      (fun q hq => by rw [st_ne hq, st_ne hq]) (by rw [st_same, ud_ne (by decide), ud_eq rfl]) (by rw [st_same, ud_eq rfl])
    have c1 : f_C_arbiter a A = some (if a = nI 0 then M' 61 7 else M' 61 9, M') := by
      simp (disch := omega) only [f_C_arbiter, f_TT_arbitrates, n_within, n_it0, jp_c, decide_eq_true_eq, n_lit, n_neg1, n_add, n_mul, n_sub, n_div, n_mod, n_le, n_lt, n_eq, n_cl, n_in, st_ap, ud_ap, Nat.reduceEqDiff, Nat.reduceAdd, Nat.reduceMul, ite_true, ite_false, if_true, if_false, eq_self_iff_true, ↓reduceIte, and_self, and_true, true_and, and_false, false_and, not_true_eq_false, not_false_eq_true, if_pos, if_neg, h1, Nat.mul_zero] at e1 ⊢
      rw [e1]
      simp only [Option.bind_some]
      by_cases hz : a = nI 0 <;> simp [hz]
    have c2 : f_M_arbiter a B = some (if a = nI 0 then M' 61 7 else M' 61 9, B1) := by
      rw [← e3]
      simp (disch := omega) only [f_M_arbiter, hB1, n_isIn, n_it0, jp_c, decide_eq_true_eq, n_lit, n_neg1, n_add, n_mul, n_sub, n_div, n_mod, n_le, n_lt, n_eq, n_cl, n_in, Nat.reduceEqDiff, Nat.reduceAdd, Nat.reduceMul, ite_true, ite_false, if_true, if_false, eq_self_iff_true, ↓reduceIte, and_self, and_true, true_and, and_false, false_and, not_true_eq_false, not_false_eq_true, if_pos, if_neg, h1]
    rw [c1, c2]
    refine pOK_mk rfl (Rel_scA (fun p hp => e2 p ?_) hT)
    rintro rfl; exact hp (by decide)
  · simp (disch := omega) only [f_C_arbiter, f_M_arbiter, hB1, n_within, n_isIn, n_it0, jp_c, decide_eq_true_eq, n_lit, n_neg1, n_add, n_mul, n_sub, n_div, n_mod, n_le, n_lt, n_eq, n_cl, n_in, Nat.reduceEqDiff, Nat.reduceAdd, Nat.reduceMul, ite_true, ite_false, if_true, if_false, eq_self_iff_true, ↓reduceIte, and_self, and_true, true_and, and_false, false_and, not_true_eq_false, not_false_eq_true, if_pos, if_neg, h1]
    exact pOK_mk rfl hT
