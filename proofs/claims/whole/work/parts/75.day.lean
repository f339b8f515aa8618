theorem HH_pet {t : Nat} {A B : jp_M} (h : HH t A B) : ∃ P N, P ≤ 10 ∧ N ≤ 16 ∧ A 2 4 = nI P ∧ A 14 0 = nI N ∧ B 104 35 = nI N ∧ (∀ j, j < 7 * N → A 15 j = B 122 j) ∧ ∀ i, i < N → ∃ x y z v, x < P ∧ y ≤ 9 ∧ z ≤ v ∧ v ≤ 7 ∧ A 15 (7 * i + 1) = nI x ∧ A 15 (7 * i + 3) = nI y ∧ A 15 (7 * i + 4) = nI z ∧ A 15 (7 * i + 5) = nI v := by
  obtain ⟨-, -, -, -, -, -, P, N, h1, h2, h3, h4, h5, h6, h7⟩ := h
  exact ⟨P, N, h1, h2, h3, h4, h5, h6, h7⟩
/-- petitions are heard -/
theorem l_hears {t : Nat} (ht : t < 2) {N : Nat} (hN : N ≤ 16) : ∀ d i, i + d = N → ∀ n m, d < n → d < m → ∀ A B, HH t A B → A 14 0 = nI N → ∃ A' B', f_K_hears_10 n (nI i) A = some A' ∧ f_M_petitionsOf_2 m (nI (7 * i)) B = some B' ∧ SS t A B A' B' := by
  intro d
  induction d with
  | zero =>
    intro i hi n m hn hm A B h h14
    obtain ⟨n, rfl⟩ : ∃ k, n = k + 1 := ⟨n - 1, by omega⟩
    obtain ⟨m, rfl⟩ : ∃ k, m = k + 1 := ⟨m - 1, by omega⟩
    obtain ⟨P, N', -, hN', -, p2, p3, -, -⟩ := HH_pet h
    have : N' = N := by rw [h14, n_eq (by omega) (by omega)] at p2; exact p2.symm
    subst this
    refine ⟨A, B, ?_, ?_, SS_refl h⟩
    · simp (disch := omega) only [f_K_hears_10, jp_c, decide_eq_true_eq, n_lit, n_neg1, n_add, n_mul, n_sub, n_div, n_mod, n_le, n_lt, n_eq, n_cl, n_in, Nat.reduceEqDiff, Nat.reduceAdd, Nat.reduceMul, ite_true, ite_false, if_true, if_false, eq_self_iff_true, ↓reduceIte, and_self, and_true, true_and, and_false, false_and, not_true_eq_false, not_false_eq_true, if_pos, if_neg, h14]
    · simp (disch := omega) only [f_M_petitionsOf_2, jp_c, decide_eq_true_eq, n_lit, n_neg1, n_add, n_mul, n_sub, n_div, n_mod, n_le, n_lt, n_eq, n_cl, n_in, Nat.reduceEqDiff, Nat.reduceAdd, Nat.reduceMul, ite_true, ite_false, if_true, if_false, eq_self_iff_true, ↓reduceIte, and_self, and_true, true_and, and_false, false_and, not_true_eq_false, not_false_eq_true, if_pos, if_neg, p3]
  | succ d ih =>
    intro i hi n m hn hm A B h h14
    obtain ⟨n, rfl⟩ : ∃ k, n = k + 1 := ⟨n - 1, by omega⟩
    obtain ⟨m, rfl⟩ : ∃ k, m = k + 1 := ⟨m - 1, by omega⟩
    obtain ⟨P, N', hP, hN', p1, p2, p3, p4, p5⟩ := HH_pet h
    have : N' = N := by rw [h14, n_eq (by omega) (by omega)] at p2; exact p2.symm
    subst this
    obtain ⟨x, r, lo, hi', hx, hr, hlo, hhi, x1, r1, l1, h1⟩ := p5 i (by omega)
    have q0 := p4 (7 * i) (by omega)
    have q1 := p4 (7 * i + 1) (by omega)
    have q2 := p4 (7 * i + 2) (by omega)
    have q3 := p4 (7 * i + 3) (by omega)
    have q4 := p4 (7 * i + 4) (by omega)
    have q5 := p4 (7 * i + 5) (by omega)
    have q6 := p4 (7 * i + 6) (by omega)
    have day := h.1.1.1.2.1
    have m7 : 7 * (i + 1) = 7 * i + 7 := by omega
    by_cases hd : B 122 (7 * i) = B 105 0
    · generalize hA2 : jp_set A 55 (va_cpy (A 15) (A 55) (7 * i + 1) 1 6) = A2
      have a : ∀ q, ¬ q = 55 → A2 q = A q := by intro q hq; rw [← hA2, st_ne hq]
      have a55 : ∀ k, 1 ≤ k → k < 7 → A2 55 k = A 15 (7 * i + k) := by
        intro k k1 k2
        rw [← hA2, st_same]
        simp only [va_cpy]
        rw [if_pos (by omega), show 7 * i + 1 + (k - 1) = 7 * i + k by omega]
      have hW2 : rWW A2 B := by
        unfold rWW
        rw [a 2 (by decide), a 3 (by decide), a 4 (by decide), a 5 (by decide)]
        exact h.1
      have s1 : SS t A B A2 B := by
        refine SS_w h (fun q hq => a q ?_) (fun _ _ => rfl) hW2 (by rw [a 2 (by decide)]) (a 6 (by decide)) rfl rfl
        rintro rfl; exact hq (by decide)
      obtain ⟨U, hu⟩ := uF_rel hW2
      obtain ⟨b, b1, b2, b3⟩ := p_fits hu hlo hhi (nI r) (by rw [a55 3 (by omega) (by omega), r1]) (by rw [a55 4 (by omega) (by omega), l1]) (by rw [a55 5 (by omega) (by omega), h1])
      rw [← r1, ← l1, ← h1, q3, q4, q5] at b2
      have e1 : f_K_hears_10 (n + 1) (nI i) A = (f_K_fits A2).bind fun q4 => (if jp_c .eq q4 0 = true then (f_K_hears_68 (f_K_hears_10 n) (nI i) A2) else ((f_K_asks A2).bind fun q5 => (f_K_hears_68 (f_K_hears_10 n) (nI i) (q5.2)))) := by
        rw [← hA2]
        simp (disch := omega) only [f_K_hears_10, jp_c, decide_eq_true_eq, n_lit, n_neg1, n_add, n_mul, n_sub, n_div, n_mod, n_le, n_lt, n_eq, n_cl, n_in, Nat.reduceEqDiff, Nat.reduceAdd, Nat.reduceMul, ite_true, ite_false, if_true, if_false, eq_self_iff_true, ↓reduceIte, and_self, and_true, true_and, and_false, false_and, not_true_eq_false, not_false_eq_true, if_pos, if_neg, h14, q0, day, hd, jg_t]
        rfl
      cases b with
      | false =>
        obtain ⟨A', B', f1, f2, f3⟩ := ih (i + 1) (by omega) n m (by omega) (by omega) A2 B s1.2.2.1 (by rw [a 14 (by decide), h14])
        refine ⟨A', B', ?_, ?_, SS_trans s1 f3⟩
        · rw [e1, b1, Option.bind_some, ← f1]
          simp (disch := omega) only [f_K_hears_68, jp_c, decide_eq_true_eq, n_lit, n_neg1, n_add, n_mul, n_sub, n_div, n_mod, n_le, n_lt, n_eq, n_cl, n_in, Nat.reduceEqDiff, Nat.reduceAdd, Nat.reduceMul, ite_true, ite_false, if_true, if_false, eq_self_iff_true, ↓reduceIte, and_self, and_true, true_and, and_false, false_and, not_true_eq_false, not_false_eq_true, if_pos, if_neg, Bool.false_eq_true]
        · rw [← f2, m7]
          simp (disch := omega) only [f_M_petitionsOf_2, f_M_petitionsOf_116, jp_c, decide_eq_true_eq, n_lit, n_neg1, n_add, n_mul, n_sub, n_div, n_mod, n_le, n_lt, n_eq, n_cl, n_in, Nat.reduceEqDiff, Nat.reduceAdd, Nat.reduceMul, ite_true, ite_false, if_true, if_false, eq_self_iff_true, ↓reduceIte, and_self, and_true, true_and, and_false, false_and, not_true_eq_false, not_false_eq_true, if_pos, if_neg, p3, hd, jg_t, b2, Option.bind_some, Bool.false_eq_true]
      | true =>
        obtain ⟨v, A3, B3, n1, n2, s2⟩ := p_asks ht s1.2.2.1 (x := x) (r := r) (lo := lo) (hi := hi') (U := U) (P := P) (by rw [a 2 (by decide), p1]) hP hx hr hlo hhi hu.2.1 (b3 rfl) (by rw [a55 1 (by omega) (by omega), x1]) (by rw [a55 3 (by omega) (by omega), r1]) (by rw [a55 4 (by omega) (by omega), l1]) (by rw [a55 5 (by omega) (by omega), h1])
        rw [a55 2 (by omega) (by omega), a55 6 (by omega) (by omega), ← x1, ← r1, ← l1, ← h1, q1, q2, q3, q4, q5, q6] at n2
        obtain ⟨A', B', f1, f2, f3⟩ := ih (i + 1) (by omega) n m (by omega) (by omega) A3 B3 s2.2.2.1 (by rw [s2.1 14 (by decide), a 14 (by decide), h14])
        refine ⟨A', B', ?_, ?_, SS_trans s1 (SS_trans s2 f3)⟩
        · rw [e1, b1, Option.bind_some, ← f1]
          simp (disch := omega) only [f_K_hears_68, jp_c, decide_eq_true_eq, n_lit, n_neg1, n_add, n_mul, n_sub, n_div, n_mod, n_le, n_lt, n_eq, n_cl, n_in, Nat.reduceEqDiff, Nat.reduceAdd, Nat.reduceMul, ite_true, ite_false, if_true, if_false, eq_self_iff_true, ↓reduceIte, and_self, and_true, true_and, and_false, false_and, not_true_eq_false, not_false_eq_true, if_pos, if_neg, n1, Option.bind_some]
        · rw [← f2, m7]
          simp (disch := omega) only [f_M_petitionsOf_2, f_M_petitionsOf_116, jp_c, decide_eq_true_eq, n_lit, n_neg1, n_add, n_mul, n_sub, n_div, n_mod, n_le, n_lt, n_eq, n_cl, n_in, Nat.reduceEqDiff, Nat.reduceAdd, Nat.reduceMul, ite_true, ite_false, if_true, if_false, eq_self_iff_true, ↓reduceIte, and_self, and_true, true_and, and_false, false_and, not_true_eq_false, not_false_eq_true, if_pos, if_neg, p3, hd, jg_t, b2, n2, Option.bind_some]
    · obtain ⟨A', B', f1, f2, f3⟩ := ih (i + 1) (by omega) n m (by omega) (by omega) A B h h14
      refine ⟨A', B', ?_, ?_, f3⟩
      · rw [← f1]
        simp (disch := omega) only [f_K_hears_10, f_K_hears_68, jp_c, decide_eq_true_eq, n_lit, n_neg1, n_add, n_mul, n_sub, n_div, n_mod, n_le, n_lt, n_eq, n_cl, n_in, Nat.reduceEqDiff, Nat.reduceAdd, Nat.reduceMul, ite_true, ite_false, if_true, if_false, eq_self_iff_true, ↓reduceIte, and_self, and_true, true_and, and_false, false_and, not_true_eq_false, not_false_eq_true, if_pos, if_neg, h14, q0, day, hd, jg_t]
      · rw [← f2, m7]
        simp (disch := omega) only [f_M_petitionsOf_2, f_M_petitionsOf_116, jp_c, decide_eq_true_eq, n_lit, n_neg1, n_add, n_mul, n_sub, n_div, n_mod, n_le, n_lt, n_eq, n_cl, n_in, Nat.reduceEqDiff, Nat.reduceAdd, Nat.reduceMul, ite_true, ite_false, if_true, if_false, eq_self_iff_true, ↓reduceIte, and_self, and_true, true_and, and_false, false_and, not_true_eq_false, not_false_eq_true, if_pos, if_neg, p3, hd, jg_t]
/-- a use is fined -/
theorem p_fine {t : Nat} (ht : t < 2) {A B : jp_M} (h : HH t A B) {i U b S : Nat} (f6 : A 2 6 = nI U) (hi : i < U) (hU : U ≤ 16) (f5 : A 2 5 = nI S) (hb : b < S) (hS : S ≤ 10) :
    ∃ A' B', f_K_finesUse (nI i) (nI b) A = some A' ∧ f_M_isFined_35 (nI i) (nI (56 + 8 * i)) (nI b) B = some (nI 1, B') ∧ SS t A B A' B' ∧ A' 2 6 = nI (U - 1) ∧ A' 2 1 = A 2 1 ∧ A' 2 5 = A 2 5 := by
  have h' := h
  obtain ⟨hW, hL, -⟩ := h
  have hWW := hW
  obtain ⟨⟨⟨e0, e1, e2, e3, e4, e5, e6⟩, eP, eB, eR⟩, nW⟩ := hW
  obtain ⟨P, S', U', hP, hS', hU', f4, f5', f6', nP, nB, nR⟩ := nW
  have hUU : U' = U := by rw [f6, n_eq (by omega) (by omega)] at f6'; exact f6'.symm
  subst hUU
  obtain ⟨x, y, lo, hi', hx, -, -, -, x1, -, -, -⟩ := nR i hi
  obtain ⟨z0, z1, z, -, -, hz, -, -, hz3⟩ := nP x (by omega)
  have r0 := eR (8 * i) (by omega)
  have r1 := eR (8 * i + 1) (by omega)
  have r2 := eR (8 * i + 2) (by omega)
  have r3 := eR (8 * i + 3) (by omega)
  have r5 := eR (8 * i + 5) (by omega)
  have r6 := eR (8 * i + 6) (by omega)
  rw [show 56 + (8 * i + 1) = 56 + 8 * i + 1 by omega] at r1
  rw [show 56 + (8 * i + 2) = 56 + 8 * i + 2 by omega] at r2
  rw [show 56 + (8 * i + 3) = 56 + 8 * i + 3 by omega] at r3
  rw [show 56 + (8 * i + 5) = 56 + 8 * i + 5 by omega] at r5
  rw [show 56 + (8 * i + 6) = 56 + 8 * i + 6 by omega] at r6
  have x2 : B 105 (56 + 8 * i + 1) = nI x := by rw [← r1, x1]
  obtain ⟨p1, p2, p3, p4, p5⟩ := eP x (by omega)
  have mk := (eB b (by omega)).2.2
  generalize hB3 : jp_set B 105 (upd (B 105) (36 + b) (B 105 (36 + b) + nI 1)) = B3
  have b3 : ∀ q, ¬ q = 105 → B3 q = B q := by intro q hq; rw [← hB3, st_ne hq]
  have b3k : ∀ k, ¬ k = 36 + b → B3 105 k = B 105 k := by intro k hk; rw [← hB3, st_same, ud_ne hk]
  have tw : tW A B3 := by
    refine ⟨⟨S', hS', f5', by rw [b3 104 (by decide), ← e5, f5']⟩, ⟨U', hU, f6, by rw [b3k 5 (by omega), ← e6, f6]⟩, fun k hk => by rw [b3k (46 + k) (by omega)]; exact (eB k hk).1, fun j hj => by rw [b3k (56 + j) (by omega)]; exact eR j hj, by rw [b3k 0 (by omega)]; exact e1, fun k hk => ?_⟩
    rw [b3 108 (by decide), b3k (16 + k) (by omega)]
    exact ⟨(eP k hk).1, (eP k hk).2.2.2.2⟩
  have hL3 : rLL A B3 := by
    unfold rLL
    rw [b3 114 (by decide), b3 115 (by decide), b3 116 (by decide), b3 117 (by decide), b3 118 (by decide), b3 119 (by decide), b3 120 (by decide)]
    exact hL
  obtain ⟨v, A1, C, B1, t1, t2, t3, -, t4, t5⟩ := p_tell1 tw hL3 (x := x) (o := 8 * i) (w := 2) (by omega) (by omega) x1 (by omega)
  have t3' : f_M_fineNow C = some (nI v, B1) := t3
  have c3 : f_M_asksOf (nI i) B3 = some C := by
    have y1 : B3 105 (56 + 8 * i + 1) = nI x := by rw [b3k _ (by omega), x2]
    have y2 : B3 105 (56 + 8 * i + 2) = A 5 (8 * i + 2) := by rw [b3k _ (by omega), r2]
    have y3 : B3 105 (56 + 8 * i + 3) = A 5 (8 * i + 3) := by rw [b3k _ (by omega), r3]
    have y5 : B3 105 (56 + 8 * i + 5) = A 5 (8 * i + 5) := by rw [b3k _ (by omega), r5]
    have y6 : B3 105 (56 + 8 * i + 6) = A 5 (8 * i + 6) := by rw [b3k _ (by omega), r6]
    simp (disch := omega) only [f_M_asksOf, f_M_useAt, jp_c, decide_eq_true_eq, n_lit, n_neg1, n_add, n_mul, n_sub, n_div, n_mod, n_le, n_lt, n_eq, n_cl, n_in, Nat.reduceEqDiff, Nat.reduceAdd, Nat.reduceMul, ite_true, ite_false, if_true, if_false, eq_self_iff_true, ↓reduceIte, and_self, and_true, true_and, and_false, false_and, not_true_eq_false, not_false_eq_true, if_pos, if_neg, jg_t, y1, y2, y3, y5, y6, t2, Option.bind_some]
  generalize hpu : B 105 (6 + x) = pu at *
  generalize hp : jp_min (nI v) pu = p
  have a1 : ∀ q, ¬ q = 12 → ¬ q = 13 → A1 q = A q := t4
  have a12 := a1 2 (by decide) (by decide)
  have a13 := a1 3 (by decide) (by decide)
  have a14 := a1 4 (by decide) (by decide)
  have a15 := a1 5 (by decide) (by decide)
  generalize hA5 : jp_set (jp_set (jp_set (jp_set A1 3 (upd (A 3) (5 * x + 1) (pu - p))) 2 (upd (A 2) 2 (A 2 2 + p))) 3 (upd (upd (upd (A 3) (5 * x + 1) (pu - p)) (5 * x + 4) (A 3 (5 * x + 4) + p)) (5 * x + 3) (nI (min 7 (z + 1))))) 4 (upd (A 4) (3 * b + 2) (A 4 (3 * b + 2) + nI 1)) = A5
  have c1 : f_K_finesUse (nI i) (nI b) A = (f_A_writes (nI 3) (A 5 (8 * i)) p A5).bind fun q14 => (f_W_removes (nI i) q14).bind fun q15 => some q15 := by
    rw [← hA5]
    simp (disch := omega) only [f_K_finesUse, f_W_pays, jp_c, decide_eq_true_eq, n_lit, n_add, n_mul, n_cl, n_in, n_min, Nat.reduceEqDiff, Nat.reduceAdd, Nat.reduceMul, ite_true, ite_false, if_true, if_false, eq_self_iff_true, ↓reduceIte, and_self, and_true, true_and, and_false, false_and, not_true_eq_false, not_false_eq_true, if_pos, if_neg, Nat.add_zero, x1, t1, Option.bind_some, jg_t, a12, a13, a14, a15, p2, hp, hz3, st_st, st_ap, ud_ne, ud_eq]
  generalize hG : upd (upd (upd (upd (upd (B 105) (36 + b) (B 105 (36 + b) + nI 1)) (6 + x) (pu - p)) 3 (B 105 3 + p)) (16 + x) (B 105 (16 + x) + p)) (26 + x) (nI (min 7 (z + 1))) = G
  have B1k : B1 105 = upd (B 105) (36 + b) (B 105 (36 + b) + nI 1) := by rw [t5 105 (by decide) (by decide), ← hB3, st_same]
  have z26 : B 105 (26 + x) = nI z := by rw [← p4, hz3]
  have c2 : f_M_isFined_35 (nI i) (nI (56 + 8 * i)) (nI b) B = (f_M_notes (nI 3) (B 105 (56 + 8 * i)) p (jp_set B1 105 G)).bind fun q16 => (f_M_isOver (nI i) q16).bind fun q17 => some (nI 1, q17) := by
    rw [← hG]
    have hb1 : ¬ nI b = nI 4294967295 := by rw [n_eq (by omega) (by omega)]; omega
    simp (disch := omega) only [f_M_isFined_35, f_M_pays, jp_c, decide_eq_true_eq, n_lit, n_neg1, n_add, n_mul, n_cl, n_in, n_ls, n_min, Nat.reduceEqDiff, Nat.reduceAdd, Nat.reduceMul, ite_true, ite_false, if_true, if_false, eq_self_iff_true, ↓reduceIte, and_self, and_true, true_and, and_false, false_and, not_true_eq_false, not_false_eq_true, if_pos, if_neg, hb1, x2, hB3, c3, t3', Option.bind_some, jg_t, B1k, hpu, hp, z26, st_st, st_ap, ud_ne, ud_eq]
  have Gn : ∀ k, ¬ k = 36 + b → ¬ k = 6 + x → ¬ k = 3 → ¬ k = 16 + x → ¬ k = 26 + x → G k = B 105 k := by
    intro k k1 k2 k3 k4 k5; rw [← hG, ud_ne k5, ud_ne k4, ud_ne k3, ud_ne k2, ud_ne k1]
  have A5q : ∀ q, ¬ q = 2 → ¬ q = 3 → ¬ q = 4 → ¬ q = 12 → ¬ q = 13 → A5 q = A q := by
    intro q q2 q3 q4 q12 q13; rw [← hA5, st_ne q4, st_ne q3, st_ne q2, st_ne q3, a1 q q12 q13]
  have A52 : A5 2 = upd (A 2) 2 (A 2 2 + p) := by rw [← hA5, st_ne (by decide), st_ne (by decide), st_same]
  have A53 : A5 3 = upd (upd (upd (A 3) (5 * x + 1) (pu - p)) (5 * x + 4) (A 3 (5 * x + 4) + p)) (5 * x + 3) (nI (min 7 (z + 1))) := by rw [← hA5, st_ne (by decide), st_same]
  have A54 : A5 4 = upd (A 4) (3 * b + 2) (A 4 (3 * b + 2) + nI 1) := by rw [← hA5, st_same]
  generalize hB5 : jp_set B1 105 G = B5 at c2
  have B5q : ∀ q, ¬ q = 105 → ¬ q = 125 → ¬ q = 126 → B5 q = B q := by
    intro q q1 q2 q3; rw [← hB5, st_ne q1, t5 q q2 q3, b3 q q1]
  have B55 : B5 105 = G := by rw [← hB5, st_same]
  have hW5 : rWW A5 B5 := by
    unfold rWW
    rw [B55, A52, A53, A54, A5q 5 (by decide) (by decide) (by decide) (by decide) (by decide), B5q 108 (by decide) (by decide) (by decide), B5q 109 (by decide) (by decide) (by decide), B5q 110 (by decide) (by decide) (by decide), B5q 104 (by decide) (by decide) (by decide)]
    refine ⟨⟨⟨?_, ?_, ?_, ?_, ?_, ?_, ?_⟩, fun k hk => ?_, fun k hk => ?_, fun k hk => ?_⟩, ?_⟩
    · rw [ud_ne (by decide), Gn 1 (by omega) (by omega) (by omega) (by omega) (by omega)]; exact e0
    · rw [ud_ne (by decide), Gn 0 (by omega) (by omega) (by omega) (by omega) (by omega)]; exact e1
    · rw [ud_eq rfl, ← hG]; simp (disch := omega) only [ud_ne, ud_eq]; rw [e2]
    · rw [ud_ne (by decide), Gn 4 (by omega) (by omega) (by omega) (by omega) (by omega)]; exact e3
    · rw [ud_ne (by decide)]; exact e4
    · rw [ud_ne (by decide)]; exact e5
    · rw [ud_ne (by decide), Gn 5 (by omega) (by omega) (by omega) (by omega) (by omega)]; exact e6
    · obtain ⟨k1, k2, k3, k4, k5⟩ := eP k hk
      by_cases hkx : k = x
      · subst hkx
        rw [← hG]
        simp (disch := omega) only [ud_ne, ud_eq]
        exact ⟨k1, trivial, k3, trivial, by rw [k5]⟩
      · rw [Gn (6 + k) (by omega) (by omega) (by omega) (by omega) (by omega), Gn (26 + k) (by omega) (by omega) (by omega) (by omega) (by omega), Gn (16 + k) (by omega) (by omega) (by omega) (by omega) (by omega)]
        simp (disch := omega) only [ud_ne]
        exact ⟨k1, k2, k3, k4, k5⟩
    · obtain ⟨k1, k2, k3⟩ := eB k hk
      rw [Gn (46 + k) (by omega) (by omega) (by omega) (by omega) (by omega)]
      by_cases hkb : k = b
      · subst hkb
        rw [← hG]
        simp (disch := omega) only [ud_ne, ud_eq]
        exact ⟨k1, k2, by rw [k3]⟩
      · rw [Gn (36 + k) (by omega) (by omega) (by omega) (by omega) (by omega)]
        simp (disch := omega) only [ud_ne]
        exact ⟨k1, k2, k3⟩
    · rw [Gn (56 + k) (by omega) (by omega) (by omega) (by omega) (by omega)]; exact eR k hk
    · refine ⟨P, S', U', hP, hS', hU, ?_, ?_, ?_, fun k hk => ?_, fun k hk => ?_, nR⟩
      · rw [ud_ne (by decide), f4]
      · rw [ud_ne (by decide), f5']
      · rw [ud_ne (by decide), f6]
      · obtain ⟨u, v', w, q1, q2, q3, q4, q5, q6⟩ := nP k hk
        by_cases hkx : k = x
        · subst hkx
          simp (disch := omega) only [ud_ne, ud_eq]
          exact ⟨u, v', min 7 (z + 1), q1, q2, by omega, q4, q5, rfl⟩
        · simp (disch := omega) only [ud_ne]
          exact ⟨u, v', w, q1, q2, q3, q4, q5, q6⟩
      · simp (disch := omega) only [ud_ne]
        exact nB k hk
  have s1 : SS t A B A5 B5 := by
    refine SS_w h' (fun q hq => A5q q ?_ ?_ ?_ ?_ ?_) (fun q hq => B5q q ?_ ?_ ?_) hW5 (by rw [A52, ud_ne (by decide)]) (A5q 6 (by decide) (by decide) (by decide) (by decide) (by decide)) (by rw [B55, Gn 2 (by omega) (by omega) (by omega) (by omega) (by omega)]) (B5q 111 (by decide) (by decide) (by decide))
    all_goals (rintro rfl; exact hq (by decide))
  obtain ⟨A6, B6, n1, n2, s2, n4, n5, -⟩ := p_note ht s1.2.2.1 (nI 3) (A 5 (8 * i)) p
  obtain ⟨A7, B7, m1, m2, s3, m3, m4⟩ := p_remove s2.2.2.1 (i := i) (U := U') (by rw [n5 6 (by decide), A52, ud_ne (by decide), f6]) hi hU
  refine ⟨A7, B7, ?_, ?_, SS_trans s1 (SS_trans s2 s3), m3, ?_, ?_⟩
  · rw [c1, n1, Option.bind_some, m1, Option.bind_some]
  · rw [c2, ← r0, n2, Option.bind_some, m2, Option.bind_some]
  · rw [m4 1 (by decide), n5 1 (by decide), A52, ud_ne (by decide)]
  · rw [m4 5 (by decide), n5 5 (by decide), A52, ud_ne (by decide)]
