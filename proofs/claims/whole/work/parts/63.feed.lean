theorem i_byte (x : Int32) : ∃ v, v < 256 ∧ x &&& (255 : Int32) = nI v ∧ x.toInt8.toInt32 = (nI v).toInt8.toInt32 := by
  refine ⟨x.toBitVec.toNat % 256, Nat.mod_lt _ (by omega), ?_, ?_⟩
  · apply Int32.toBitVec_inj.1
    rw [Int32.toBitVec_and]
    apply BitVec.eq_of_toNat_eq
    rw [BitVec.toNat_and, n_bv, BitVec.toNat_ofNat]
    have : (255 : Int32).toBitVec.toNat = 2 ^ 8 - 1 := rfl
    rw [this, Nat.and_two_pow_sub_one_eq_mod]
    omega
  · congr 1
    apply Int8.toBitVec_inj.1
    show x.toBitVec.signExtend 8 = (BitVec.ofNat 32 (x.toBitVec.toNat % 256)).signExtend 8
    rw [BitVec.signExtend_eq_setWidth_of_le _ (by omega), BitVec.signExtend_eq_setWidth_of_le _ (by omega)]
    apply BitVec.eq_of_toNat_eq
    rw [BitVec.toNat_setWidth, BitVec.toNat_setWidth, BitVec.toNat_ofNat]
    omega
/-- four bytes -/
theorem l_feed (x : Int32) : ∀ k, k ≤ 4 → ∀ n m, k < n → k < m → ∀ (A B : jp_M) (N : Nat), N + k ≤ 400 → A 0 11 = nI N → B 104 13 = nI N → (∀ j, j < 400 → ∃ v, v < 256 ∧ B 112 j = nI v ∧ A 67 j = (nI v).toInt8.toInt32) →
    ∃ A' B', f_C_putBytes_3 n x (nI (8 * k) - nI 8) A = some A' ∧ f_M_types_3 m x (nI (8 * k) - nI 8) B = some B' ∧ A' 0 11 = nI (N + k) ∧ B' 104 13 = nI (N + k) ∧ (∀ j, j < 400 → ∃ v, v < 256 ∧ B' 112 j = nI v ∧ A' 67 j = (nI v).toInt8.toInt32) ∧
    (∀ q, ¬ q = 0 → ¬ q = 67 → A' q = A q) ∧ (∀ i, ¬ i = 11 → A' 0 i = A 0 i) ∧ (∀ q, ¬ q = 104 → ¬ q = 112 → B' q = B q) ∧ (∀ i, ¬ i = 13 → B' 104 i = B 104 i) := by
  intro k
  induction k with
  | zero =>
    intro _ n m hn hm A B N hN h1 h2 h3
    obtain ⟨n, rfl⟩ : ∃ k, n = k + 1 := ⟨n - 1, by omega⟩
    obtain ⟨m, rfl⟩ : ∃ k, m = k + 1 := ⟨m - 1, by omega⟩
    refine ⟨A, B, ?_, ?_, h1, h2, h3, fun _ _ _ => rfl, fun _ _ => rfl, fun _ _ _ => rfl, fun _ _ => rfl⟩
    · have : nI (8 * 0) - nI 8 < 0 := by decide
      simp only [f_C_putBytes_3, jp_c, decide_eq_true_eq, this, if_true]
    · have : nI (8 * 0) - nI 8 < 0 := by decide
      simp only [f_M_types_3, jp_c, decide_eq_true_eq, this, if_true]
  | succ k ih =>
    intro hk n m hn hm A B N hN h1 h2 h3
    obtain ⟨n, rfl⟩ : ∃ k, n = k + 1 := ⟨n - 1, by omega⟩
    obtain ⟨m, rfl⟩ : ∃ k, m = k + 1 := ⟨m - 1, by omega⟩
    rw [show nI (8 * (k + 1)) - nI 8 = nI (8 * k) by rw [n_sub (by omega)]; congr 1]
    generalize hy : x >>> (nI (8 * k) &&& 31) = y
    obtain ⟨v, v1, v2, v3⟩ := i_byte y
    obtain ⟨A', B', e1, e2, e3, e4, e5, e6, e7, e8, e9⟩ := ih (by omega) n m (by omega) (by omega)
      (jp_set (jp_set A 67 (upd (A 67) N y.toInt8.toInt32)) 0 (upd (A 0) 11 (nI (N + 1)))) (jp_set (jp_set B 112 (upd (B 112) N (y &&& 255))) 104 (upd (B 104) 13 (nI (N + 1)))) (N + 1) (by omega)
      (by rw [st_same, ud_eq rfl]) (by rw [st_same, ud_eq rfl]) (by
        intro j hj
        rw [st_ne (by decide), st_same, st_ne (by decide), st_same]
        by_cases hj' : j = N
        · rw [ud_eq hj', ud_eq hj']; exact ⟨v, v1, v2, v3⟩
        · rw [ud_ne hj', ud_ne hj']; exact h3 j hj)
    have hneg : nI (8 * k) + (-8 : Int32) = nI (8 * k) - nI 8 := by rw [Int32.sub_eq_add_neg]; rfl
    have hge : ¬ nI (8 * k) < 0 := by rw [n_lit, n_lt (by omega) (by omega)]; omega
    refine ⟨A', B', ?_, ?_, ?_, ?_, e5, ?_, ?_, ?_, ?_⟩
    · rw [← e1]
      have h4 : ¬ (400 : Int32) ≤ nI N := by rw [n_lit, n_le (by omega) (by omega)]; omega
      have h5 : jp_in (nI N) 400 := by rw [n_in (by omega)]; omega
      simp only [f_C_putBytes_3, jp_c, decide_eq_true_eq, hge, h1, h4, ↓reduceIte, jg_t h5, hy, hneg, st_ap, Nat.reduceEqDiff, n_cl (show N < 2147483648 by omega)]
      rw [show nI N + 1 = nI (N + 1) from n_add N 1]
    · rw [← e2]
      have h5 : jp_in (nI N) 400 := by rw [n_in (by omega)]; omega
      simp only [f_M_types_3, jp_c, decide_eq_true_eq, hge, h2, ↓reduceIte, jg_t h5, hy, hneg, st_ap, Nat.reduceEqDiff, n_cl (show N < 2147483648 by omega)]
      rw [show nI N + 1 = nI (N + 1) from n_add N 1]
    · rw [e3]; congr 1; omega
    · rw [e4]; congr 1; omega
    · intro q g1 g2; rw [e6 q g1 g2, st_ne g1, st_ne g2]
    · intro i hi; rw [e7 i hi, st_same, ud_ne hi]
    · intro q g1 g2; rw [e8 q g1 g2, st_ne g1, st_ne g2]
    · intro i hi; rw [e9 i hi, st_same, ud_ne hi]
/-- four bytes more -/
theorem p_put (x : Int32) {A B : jp_M} {N : Nat} (hN : N + 4 ≤ 400) (h1 : A 0 11 = nI N) (hR : Rel A B) : ∃ A' B', f_C_putBytes x A = some A' ∧ f_M_types x B = some B' ∧ A' 0 11 = nI (N + 4) ∧ B' 104 13 = nI (N + 4) ∧ Rel A' B' := by
  obtain ⟨⟨hW, hBk, hLw, hPe, hLe, hCi, hWi, hKi, hPo, hWy, hVo⟩, hPic, hKe, hTa, hFa, hTh, hWd⟩ := hR
  obtain ⟨⟨N', q1, q2, q3⟩, q4⟩ := hTa
  rw [h1, n_eq (by omega) (by omega)] at q2
  subst q2
  obtain ⟨A', B', e1, e2, e3, e4, e5, e6, e7, e8, e9⟩ := l_feed x 4 (by omega) jFu jFu (jFu_lt (by omega)) (jFu_lt (by omega)) A B N hN h1 q3 q4
  refine ⟨A', B', e1, e2, e3, e4, ?_⟩
  have a : ∀ q, ¬ q = 0 → ¬ q = 67 → A' q = A q := e6
  have b : ∀ q, ¬ q = 104 → ¬ q = 112 → B' q = B q := e8
  refine ⟨⟨?_, ?_, ?_, ?_, ?_, ?_, ?_, ?_, ?_, ?_, ?_⟩, ?_, ?_, ?_, ?_, ?_, ?_⟩
  rotate_left 11
  · simp (disch := decide) only [e7, e9]; exact rPic_cg (fun q g1 g2 => a q (by omega) (by omega)) (b 143 (by decide) (by decide)) rfl rfl hPic
  · simp (disch := decide) only [a, e7, b, e9]; exact rKept_cg (fun q g1 g2 => a q (by omega) (by omega)) hKe
  · exact ⟨⟨N + 4, hN, e3, e4⟩, e5⟩
  all_goals (simp (disch := decide) only [a, b, e7, e9]; assumption)
theorem p_feed (a b c d e : Int32) {A B : jp_M} (hR : Rel A B) : pOK (f_C_feed a b c d e A) (f_M_feed a b c d e B) := by
  have T := Rel_told (x := nI 0) hR
  generalize hB1 : jp_set B 104 (upd (B 104) 0 (nI 0)) = B1 at T
  have hT := T
  obtain ⟨⟨hW, hBk, hLw, hPe, hLe, hCi, hWi, hKi, hPo, hWy, hVo⟩, hPic, hKe, hTa, hFa, hTh, hWd⟩ := T
  obtain ⟨⟨N, hN, q2, q3⟩, q4⟩ := hTa
  by_cases h : N ≤ 380
  · obtain ⟨A1, C1, a1, b1, n1, -, R1⟩ := p_put a (N := N) (by omega) q2 hT
    obtain ⟨A2, C2, a2, b2, n2, -, R2⟩ := p_put b (by omega) n1 R1
    obtain ⟨A3, C3, a3, b3, n3, -, R3⟩ := p_put c (by omega) n2 R2
    obtain ⟨A4, C4, a4, b4, n4, -, R4⟩ := p_put d (by omega) n3 R3
    obtain ⟨A5, C5, a5, b5, n5, m5, R5⟩ := p_put e (by omega) n4 R4
    simp (disch := omega) only [f_C_feed, f_M_feed, hB1, jp_c, decide_eq_true_eq, n_lit, n_neg1, n_add, n_mul, n_sub, n_div, n_mod, n_le, n_lt, n_eq, n_cl, n_in, Nat.reduceEqDiff, Nat.reduceAdd, Nat.reduceMul, ite_true, ite_false, if_true, if_false, eq_self_iff_true, ↓reduceIte, and_self, and_true, true_and, and_false, false_and, not_true_eq_false, not_false_eq_true, if_pos, if_neg, q2, q3, a1, a2, a3, a4, a5, b1, b2, b3, b4, b5, Option.bind_some, n5, m5]
    exact pOK_mk rfl R5
  · simp (disch := omega) only [f_C_feed, f_M_feed, hB1, jp_c, decide_eq_true_eq, n_lit, n_neg1, n_add, n_mul, n_sub, n_div, n_mod, n_le, n_lt, n_eq, n_cl, n_in, Nat.reduceEqDiff, Nat.reduceAdd, Nat.reduceMul, ite_true, ite_false, if_true, if_false, eq_self_iff_true, ↓reduceIte, and_self, and_true, true_and, and_false, false_and, not_true_eq_false, not_false_eq_true, if_pos, if_neg, q2, q3, h]
    exact pOK_mk rfl hT
