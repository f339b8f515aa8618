/-- leave is given, or not -/
theorem p_asks77 {t : Nat} (ht : t < 2) {A B : jp_M} (h : HH t A B) {x r lo hi U P : Nat} (f4 : A 2 4 = nI P) (hP : P ≤ 10) (hx : x < P) (hr : r ≤ 9) (hlo : lo ≤ hi) (hhi : hi ≤ 7) (f6 : A 2 6 = nI U) (hU : U < 16)
    (w1 : A 55 1 = nI x) (w3 : A 55 3 = nI r) (w4 : A 55 4 = nI lo) (w5 : A 55 5 = nI hi) (l : Int32) (s : Bool) :
    ∃ n A' B', f_K_asks_77 l (if s then nI 1 else nI 0) A = some (n, A') ∧ f_M_asksFor_69 (nI x) (A 55 2) (nI r) (nI lo) (nI hi) (A 55 6) l (if s then nI 1 else nI 0) B = some (n, B') ∧ SS t A B A' B' := by
  cases s with
  | false =>
    obtain ⟨A', B', n1, n2, n3, -⟩ := p_note ht h (nI 1) (nI x) l
    refine ⟨nI 4294967295, A', B', ?_, ?_, n3⟩
    · simp (disch := omega) only [f_K_asks_77, jp_c, decide_eq_true_eq, n_lit, n_neg1, n_eq, Nat.reduceEqDiff, Nat.reduceAdd, Nat.reduceMul, ite_true, ite_false, if_true, if_false, eq_self_iff_true, ↓reduceIte, and_self, and_true, true_and, and_false, false_and, not_true_eq_false, not_false_eq_true, if_pos, if_neg, Bool.false_eq_true, w1, n1, Option.bind_some]
    · simp (disch := omega) only [f_M_asksFor_69, jp_c, decide_eq_true_eq, n_lit, n_neg1, n_eq, Nat.reduceEqDiff, Nat.reduceAdd, Nat.reduceMul, ite_true, ite_false, if_true, if_false, eq_self_iff_true, ↓reduceIte, and_self, and_true, true_and, and_false, false_and, not_true_eq_false, not_false_eq_true, if_pos, if_neg, Bool.false_eq_true, n2, Option.bind_some]
  | true =>
    obtain ⟨v, A1, C1, B1, t1, t2, t3, -, t4, t5⟩ := p_tell0 (tW_of h.1) h.2.1 (w := 1) (show x < 10 by omega) w1 (by omega)
    have t3' : f_M_rentNow C1 = some (nI v, B1) := t3
    rw [w3, w5] at t2
    have hW1 : rWW A1 B1 := by
      unfold rWW
      rw [t4 2 (by decide) (by decide), t4 3 (by decide) (by decide), t4 4 (by decide) (by decide), t4 5 (by decide) (by decide), t5 105 (by decide) (by decide), t5 108 (by decide) (by decide), t5 109 (by decide) (by decide), t5 110 (by decide) (by decide), t5 104 (by decide) (by decide)]
      exact h.1
    have s1 : SS t A B A1 B1 := by
      refine SS_w h (fun q hq => t4 q ?_ ?_) (fun q hq => t5 q ?_ ?_) hW1 (by rw [t4 2 (by decide) (by decide)]) (t4 6 (by decide) (by decide)) (by rw [t5 105 (by decide) (by decide)]) (t5 111 (by decide) (by decide))
      · rintro rfl; exact hq (by decide)
      · rintro rfl; exact hq (by decide)
      · rintro rfl; exact hq (by decide)
      · rintro rfl; exact hq (by decide)
    have a55 : A1 55 = A 55 := t4 55 (by decide) (by decide)
    have a2 : A1 2 = A 2 := t4 2 (by decide) (by decide)
    obtain ⟨p, A2, B2, p1, p2, s2, p3, -, p5, -⟩ := p_pay s1.2.2.1 (show x < 10 by omega) (nI v)
    have b55 : A2 55 = A 55 := by rw [p3 55 (by decide) (by decide), a55]
    obtain ⟨n, A', B3, B', n1, n2, n3, s3⟩ := p_begin ht s2.2.2.1 (x := x) (r := r) (lo := lo) (hi := hi) (U := U) (P := P) (by rw [p5 4 (by decide), a2, f4]) hP hx hr hlo hhi (by rw [p5 6 (by decide), a2, f6]) hU (by rw [b55, w1]) (by rw [b55, w3]) (by rw [b55, w4]) (by rw [b55, w5]) (nI 1) (nI 0) p
    rw [b55] at n2
    have q1 : A1 55 1 = nI x := by rw [a55, w1]
    refine ⟨n, A', B', ?_, ?_, SS_trans s1 (SS_trans s2 s3)⟩
    · simp (disch := omega) only [f_K_asks_77, jp_c, decide_eq_true_eq, n_lit, n_neg1, n_eq, Nat.reduceEqDiff, Nat.reduceAdd, Nat.reduceMul, ite_true, ite_false, if_true, if_false, eq_self_iff_true, ↓reduceIte, and_self, and_true, true_and, and_false, false_and, not_true_eq_false, not_false_eq_true, if_pos, if_neg, t1, q1, p1, n1, Option.bind_some]
    · simp (disch := omega) only [f_M_asksFor_69, f_M_asksFor_108, jp_c, decide_eq_true_eq, n_lit, n_neg1, n_eq, Nat.reduceEqDiff, Nat.reduceAdd, Nat.reduceMul, ite_true, ite_false, if_true, if_false, eq_self_iff_true, ↓reduceIte, and_self, and_true, true_and, and_false, false_and, not_true_eq_false, not_false_eq_true, if_pos, if_neg, t2, t3', p2, n2, n3, Option.bind_some]
/-- somebody asks -/
theorem p_asks {t : Nat} (ht : t < 2) {A B : jp_M} (h : HH t A B) {x r lo hi U P : Nat} (f4 : A 2 4 = nI P) (hP : P ≤ 10) (hx : x < P) (hr : r ≤ 9) (hlo : lo ≤ hi) (hhi : hi ≤ 7) (f6 : A 2 6 = nI U) (hU : U < 16)
    (w1 : A 55 1 = nI x) (w3 : A 55 3 = nI r) (w4 : A 55 4 = nI lo) (w5 : A 55 5 = nI hi) :
    ∃ n A' B', f_K_asks A = some (n, A') ∧ f_M_asksFor (nI x) (A 55 2) (nI r) (nI lo) (nI hi) (A 55 6) B = some (n, B') ∧ SS t A B A' B' := by
  have hs := n_summer (A := A) (B := B) h.1.1.1.2.1
  by_cases hs0 : f_M_isSummer B = nI 0
  · obtain ⟨n, A', B1, B', n1, n2, n3, s3⟩ := p_begin ht h f4 hP hx hr hlo hhi f6 hU w1 w3 w4 w5 (nI 1) (nI 0) (nI 0)
    refine ⟨n, A', B', ?_, ?_, s3⟩
    · simp (disch := omega) only [f_K_asks, hs, hs0, jp_c, decide_eq_true_eq, n_lit, n_eq, Nat.reduceEqDiff, Nat.reduceAdd, Nat.reduceMul, ite_true, ite_false, if_true, if_false, eq_self_iff_true, ↓reduceIte, and_self, and_true, true_and, and_false, false_and, not_true_eq_false, not_false_eq_true, if_pos, if_neg, n1, Option.bind_some]
    · simp (disch := omega) only [f_M_asksFor, f_M_asksFor_108, hs0, jp_c, decide_eq_true_eq, n_lit, n_eq, Nat.reduceEqDiff, Nat.reduceAdd, Nat.reduceMul, ite_true, ite_false, if_true, if_false, eq_self_iff_true, ↓reduceIte, and_self, and_true, true_and, and_false, false_and, not_true_eq_false, not_false_eq_true, if_pos, if_neg, n2, n3, Option.bind_some]
  · obtain ⟨v, A1, C1, B1, t1, t2, t3, hv, t4, t5⟩ := p_tell0 (tW_of h.1) h.2.1 (w := 0) (show x < 10 by omega) w1 (by omega)
    rw [if_pos rfl] at hv
    have t3' : f_M_leaveNow C1 = some (nI v, B1) := t3
    rw [w3, w5] at t2
    have hW1 : rWW A1 B1 := by
      unfold rWW
      rw [t4 2 (by decide) (by decide), t4 3 (by decide) (by decide), t4 4 (by decide) (by decide), t4 5 (by decide) (by decide), t5 105 (by decide) (by decide), t5 108 (by decide) (by decide), t5 109 (by decide) (by decide), t5 110 (by decide) (by decide), t5 104 (by decide) (by decide)]
      exact h.1
    have s1 : SS t A B A1 B1 := by
      refine SS_w h (fun q hq => t4 q ?_ ?_) (fun q hq => t5 q ?_ ?_) hW1 (by rw [t4 2 (by decide) (by decide)]) (t4 6 (by decide) (by decide)) (by rw [t5 105 (by decide) (by decide)]) (t5 111 (by decide) (by decide))
      · rintro rfl; exact hq (by decide)
      · rintro rfl; exact hq (by decide)
      · rintro rfl; exact hq (by decide)
      · rintro rfl; exact hq (by decide)
    have a55 : A1 55 = A 55 := t4 55 (by decide) (by decide)
    have a2 : A1 2 = A 2 := t4 2 (by decide) (by decide)
    have k54 : A1 54 3 = nI t := s1.2.2.1.2.2.1.1
    have k104 : B1 104 5 = nI t := s1.2.2.1.2.2.1.2
    have ht' : t = 0 ∨ t = 1 := by omega
    rcases ht' with rfl | rfl
    · obtain ⟨d, A2, B2, d1, d2, s2, d3, -, d5⟩ := p_draw s1.2.2.1
      have b55 : A2 55 = A 55 := by rw [d3 55 (by decide), a55]
      obtain ⟨n, A', B', n1, n2, s3⟩ := p_asks77 ht s2.2.2.1 (x := x) (r := r) (lo := lo) (hi := hi) (U := U) (P := P) (by rw [d5 4 (by decide), a2, f4]) hP hx hr hlo hhi (by rw [d5 6 (by decide), a2, f6]) hU (by rw [b55, w1]) (by rw [b55, w3]) (by rw [b55, w4]) (by rw [b55, w5]) (nI v) (decide (¬ nI v ≤ d))
      rw [b55] at n2
      refine ⟨n, A', B', ?_, ?_, SS_trans s1 (SS_trans s2 s3)⟩
      · rw [← n1]
        by_cases hd : nI v ≤ d <;> simp (disch := omega) only [f_K_asks, hs, hs0, jp_c, decide_eq_true_eq, n_lit, n_eq, Nat.reduceEqDiff, Nat.reduceAdd, Nat.reduceMul, ite_true, ite_false, if_true, if_false, eq_self_iff_true, ↓reduceIte, and_self, and_true, true_and, and_false, false_and, not_true_eq_false, not_false_eq_true, if_pos, if_neg, t1, k54, d1, hd, Option.bind_some, decide_true, decide_false, Bool.false_eq_true]
      · rw [← n2]
        by_cases hd : nI v ≤ d <;> simp (disch := omega) only [f_M_asksFor, hs0, jp_c, decide_eq_true_eq, n_lit, n_eq, Nat.reduceEqDiff, Nat.reduceAdd, Nat.reduceMul, ite_true, ite_false, if_true, if_false, eq_self_iff_true, ↓reduceIte, and_self, and_true, true_and, and_false, false_and, not_true_eq_false, not_false_eq_true, if_pos, if_neg, t2, t3', k104, d2, hd, Option.bind_some, decide_true, decide_false, Bool.false_eq_true]
    · obtain ⟨n, A', B', n1, n2, s3⟩ := p_asks77 ht s1.2.2.1 (x := x) (r := r) (lo := lo) (hi := hi) (U := U) (P := P) (by rw [a2, f4]) hP hx hr hlo hhi (by rw [a2, f6]) hU (by rw [a55, w1]) (by rw [a55, w3]) (by rw [a55, w4]) (by rw [a55, w5]) (nI v) (decide (¬ v < 500))
      rw [a55] at n2
      refine ⟨n, A', B', ?_, ?_, SS_trans s1 s3⟩
      · rw [← n1]
        by_cases hd : v < 500 <;> simp (disch := omega) only [f_K_asks, hs, hs0, jp_c, decide_eq_true_eq, n_lit, n_eq, n_lt, Nat.reduceEqDiff, Nat.reduceAdd, Nat.reduceMul, ite_true, ite_false, if_true, if_false, eq_self_iff_true, ↓reduceIte, and_self, and_true, true_and, and_false, false_and, not_true_eq_false, not_false_eq_true, if_pos, if_neg, t1, k54, hd, Option.bind_some, decide_true, decide_false, Bool.false_eq_true]
      · rw [← n2]
        by_cases hd : v < 500
        · have hd' : 2 * v < 1000 := by omega
          simp (disch := omega) only [f_M_asksFor, hs0, jp_c, decide_eq_true_eq, n_lit, n_eq, n_lt, n_mul, Nat.reduceEqDiff, Nat.reduceAdd, Nat.reduceMul, ite_true, ite_false, if_true, if_false, eq_self_iff_true, ↓reduceIte, and_self, and_true, true_and, and_false, false_and, not_true_eq_false, not_false_eq_true, if_pos, if_neg, t2, t3', k104, hd, hd', Option.bind_some, decide_true, decide_false, Bool.false_eq_true]
        · have hd' : ¬ 2 * v < 1000 := by omega
          simp (disch := omega) only [f_M_asksFor, hs0, jp_c, decide_eq_true_eq, n_lit, n_eq, n_lt, n_mul, Nat.reduceEqDiff, Nat.reduceAdd, Nat.reduceMul, ite_true, ite_false, if_true, if_false, eq_self_iff_true, ↓reduceIte, and_self, and_true, true_and, and_false, false_and, not_true_eq_false, not_false_eq_true, if_pos, if_neg, t2, t3', k104, hd, hd', Option.bind_some, decide_true, decide_false, Bool.false_eq_true]
/-- at rest nothing is in thought -/
theorem HH_rel {A B : jp_M} (hR : Rel A B) : HH 0 A B := by
  obtain ⟨⟨hW, hBk, hLw, hPe, hLe, hCi, hWi, hKi, hPo, hWy, hVo⟩, hPic, hKe, hTa, hFa, hTh, hWd⟩ := hR
  have hBk' := hBk
  obtain ⟨L, h1, h2, -⟩ := hBk
  exact ⟨hW, hLw, hTh, ⟨L, h1, h2⟩, fun _ => hBk', hLe, hPe⟩
/-- what a step leaves is at rest again -/
theorem Rel_SS {A B A' B' : jp_M} (hR : Rel A B) (h : SS 0 A B A' B') : Rel A' B' := by
  have hR' := hR
  obtain ⟨fa, fb, ⟨h1, -, -, -, h5, -, h7⟩, ⟨L, L', l1, l2, l3, l4, -⟩, -⟩ := h
  obtain ⟨⟨hW, hBk, hLw, hPe, hLe, hCi, hWi, hKi, hPo, hWy, hVo⟩, hPic, hKe, hTa, hFa, hTh, hWd⟩ := hR
  refine Rel_w hR' ?_ ?_ ?_ ?_ h1 (h5 rfl) ?_ ?_
  · intro p hp
    refine fa p ?_
    simp only [wA, List.mem_cons, List.not_mem_nil, or_false, not_or] at hp
    simp only [fA, List.mem_cons, List.not_mem_nil, or_false, not_or]
    omega
  · intro i _; rw [fa 0 (by decide)]
  · intro p hp
    refine fb p ?_
    simp only [wBB, List.mem_cons, List.not_mem_nil, or_false, not_or] at hp
    simp only [fB, List.mem_cons, List.not_mem_nil, or_false, not_or]
    omega
  · intro i _; rw [fb 104 (by decide)]
  · rw [← fa 14 (by decide), ← fa 15 (by decide), ← fb 104 (by decide), ← fb 122 (by decide)]; exact h7
  · rw [fa 0 (by decide), fb 104 (by decide), fb 106 (by decide), fb 108 (by decide), fb 109 (by decide), fb 110 (by decide)]
    obtain ⟨K, N, Ls, k1, k2, k3, k4, k5, hk⟩ := hKe
    refine rKept_cg (A := A) (fun q g1 g2 => fa q ?_) ⟨K, N, Ls, k1, k2, k3, k4, k5, fun j hj => ?_⟩
    · simp only [fA, List.mem_cons, List.not_mem_nil, or_false, not_or]
      omega
    · obtain ⟨w1, w2, w3, w4, w5, w6⟩ := hk j hj
      refine ⟨w1, w2, w3, w4, ?_, w6⟩
      intro M g1 g2
      rw [l4, n_eq (by omega) (by omega)] at g2
      have := w5 L (by omega) l3
      omega
theorem p_ask (a1 a2 a3 a4 a5 : Int32) {A B : jp_M} (hR : Rel A B) : pOK (f_C_ask a1 a2 a3 a4 a5 A) (f_M_ask a1 a2 a3 a4 a5 B) := by
  have T := Rel_told (x := nI 0) hR
  generalize hB1 : jp_set B 104 (upd (B 104) 0 (nI 0)) = B1 at T
  obtain ⟨P, S, U, hP, hS, hU, f4, f5, f6, g6, g7, g5, -⟩ := HH_up (HH_rel T)
  rcases p_wants f4 g6 hP a1 a2 a3 a4 a5 with ⟨w1, w2⟩ | ⟨x, k, r, lo, hi, d, A1, hx, hk, hr, hlo, hhi, rfl, rfl, rfl, rfl, q1, q2, q3, w1, w2, ⟨v1, v2, v3, v4, v5, v6⟩, w4⟩
  · have c1 : f_C_ask a1 a2 a3 a4 a5 A = some (-(nI 2), A) := by
      simp (disch := omega) only [f_C_ask, w1, jp_c, decide_eq_true_eq, n_lit, n_eq, Nat.reduceEqDiff, Nat.reduceAdd, Nat.reduceMul, ite_true, ite_false, if_true, if_false, eq_self_iff_true, ↓reduceIte, and_self, and_true, true_and, and_false, false_and, not_true_eq_false, not_false_eq_true, if_pos, if_neg]
    have c2 : f_M_ask a1 a2 a3 a4 a5 B = some (-(nI 2), B1) := by
      by_cases h4 : a4 < nI 0
      · simp (disch := omega) only [f_M_ask, hB1, jp_c, decide_eq_true_eq, n_lit, Nat.reduceEqDiff, Nat.reduceAdd, Nat.reduceMul, ite_true, ite_false, if_true, if_false, eq_self_iff_true, ↓reduceIte, and_self, and_true, true_and, and_false, false_and, not_true_eq_false, not_false_eq_true, if_pos, if_neg, h4]
      · have w3 := w2.resolve_left h4
        simp (disch := omega) only [f_M_ask, hB1, jp_c, decide_eq_true_eq, n_lit, Nat.reduceEqDiff, Nat.reduceAdd, Nat.reduceMul, ite_true, ite_false, if_true, if_false, eq_self_iff_true, ↓reduceIte, and_self, and_true, true_and, and_false, false_and, not_true_eq_false, not_false_eq_true, if_pos, if_neg, h4, w3]
    rw [c1, c2]
    exact pOK_mk rfl T
  · have hR1 : Rel A1 B1 := Rel_scA (fun p hp => w4 p (by rintro rfl; exact hp (by decide))) T
    obtain ⟨U', hu⟩ := uF_rel hR1.1.1
    obtain ⟨b, b1, b2, b3⟩ := p_fits hu hlo hhi (nI r) v3 v4 v5
    have w2' : f_M_isTold (nI x) (nI k) (nI r) (nI lo) (nI hi) (nI d) B1 = nI 1 := by rw [← q1, ← q2]; exact w2
    cases b with
    | false =>
      have c1 : f_C_ask (nI x) (nI k) (nI r) a4 (nI d) A = some (-(nI 2), A1) := by
        simp (disch := omega) only [f_C_ask, w1, jp_c, decide_eq_true_eq, n_lit, n_eq, Nat.reduceEqDiff, Nat.reduceAdd, Nat.reduceMul, ite_true, ite_false, if_true, if_false, eq_self_iff_true, ↓reduceIte, and_self, and_true, true_and, and_false, false_and, not_true_eq_false, not_false_eq_true, if_pos, if_neg, b1, Option.bind_some, Bool.false_eq_true]
      have c2 : f_M_ask (nI x) (nI k) (nI r) a4 (nI d) B = some (-(nI 2), B1) := by
        simp (disch := omega) only [f_M_ask, hB1, jp_c, decide_eq_true_eq, n_lit, n_eq, Nat.reduceEqDiff, Nat.reduceAdd, Nat.reduceMul, ite_true, ite_false, if_true, if_false, eq_self_iff_true, ↓reduceIte, and_self, and_true, true_and, and_false, false_and, not_true_eq_false, not_false_eq_true, if_pos, if_neg, q1, q2, q3, w2', b2, Option.bind_some, Bool.false_eq_true]
      rw [c1, c2]
      exact pOK_mk rfl hR1
    | true =>
      obtain ⟨A2, B2, k1, k2, hR2, k3, -, k5, -⟩ := p_keep hR1
      have hU' := b3 rfl
      have a55 : A2 55 = A1 55 := k3 55 (by decide) (by decide)
      have a2 : A2 2 = A1 2 := k3 2 (by decide) (by decide)
      have a2' : A1 2 = A 2 := w4 2 (by decide)
      obtain ⟨n, A', B', n1, n2, s⟩ := p_asks (t := 0) (by omega) (HH_rel hR2) (x := x) (r := r) (lo := lo) (hi := hi) (U := U') (P := P) (by rw [a2, a2', f4]) hP hx hr hlo hhi (by rw [a2]; exact hu.2.1) hU' (by rw [a55, v1]) (by rw [a55, v3]) (by rw [a55, v4]) (by rw [a55, v5])
      rw [a55, v2, v6] at n2
      have c1 : f_C_ask (nI x) (nI k) (nI r) a4 (nI d) A = some (n, A') := by
        simp (disch := omega) only [f_C_ask, w1, jp_c, decide_eq_true_eq, n_lit, n_eq, Nat.reduceEqDiff, Nat.reduceAdd, Nat.reduceMul, ite_true, ite_false, if_true, if_false, eq_self_iff_true, ↓reduceIte, and_self, and_true, true_and, and_false, false_and, not_true_eq_false, not_false_eq_true, if_pos, if_neg, b1, k1, n1, Option.bind_some]
      have c2 : f_M_ask (nI x) (nI k) (nI r) a4 (nI d) B = some (n, B') := by
        simp (disch := omega) only [f_M_ask, hB1, jp_c, decide_eq_true_eq, n_lit, n_eq, Nat.reduceEqDiff, Nat.reduceAdd, Nat.reduceMul, ite_true, ite_false, if_true, if_false, eq_self_iff_true, ↓reduceIte, and_self, and_true, true_and, and_false, false_and, not_true_eq_false, not_false_eq_true, if_pos, if_neg, q1, q2, q3, w2', b2, k2, n2, Option.bind_some]
      rw [c1, c2]
      exact pOK_mk rfl (Rel_SS hR2 s)
theorem p_take (a1 a2 a3 a4 a5 : Int32) {A B : jp_M} (hR : Rel A B) : pOK (f_C_take a1 a2 a3 a4 a5 A) (f_M_take a1 a2 a3 a4 a5 B) := by
  have T := Rel_told (x := nI 0) hR
  generalize hB1 : jp_set B 104 (upd (B 104) 0 (nI 0)) = B1 at T
  obtain ⟨P, S, U, hP, hS, hU, f4, f5, f6, g6, g7, g5, -⟩ := HH_up (HH_rel T)
  rcases p_wants f4 g6 hP a1 a2 a3 a4 a5 with ⟨w1, w2⟩ | ⟨x, k, r, lo, hi, d, A1, hx, hk, hr, hlo, hhi, rfl, rfl, rfl, rfl, q1, q2, q3, w1, w2, ⟨v1, v2, v3, v4, v5, v6⟩, w4⟩
  · have c1 : f_C_take a1 a2 a3 a4 a5 A = some (-(nI 2), A) := by
      simp (disch := omega) only [f_C_take, w1, jp_c, decide_eq_true_eq, n_lit, n_eq, Nat.reduceEqDiff, Nat.reduceAdd, Nat.reduceMul, ite_true, ite_false, if_true, if_false, eq_self_iff_true, ↓reduceIte, and_self, and_true, true_and, and_false, false_and, not_true_eq_false, not_false_eq_true, if_pos, if_neg]
    have c2 : f_M_take a1 a2 a3 a4 a5 B = some (-(nI 2), B1) := by
      by_cases h4 : a4 < nI 0
      · simp (disch := omega) only [f_M_take, hB1, jp_c, decide_eq_true_eq, n_lit, Nat.reduceEqDiff, Nat.reduceAdd, Nat.reduceMul, ite_true, ite_false, if_true, if_false, eq_self_iff_true, ↓reduceIte, and_self, and_true, true_and, and_false, false_and, not_true_eq_false, not_false_eq_true, if_pos, if_neg, h4]
      · have w3 := w2.resolve_left h4
        simp (disch := omega) only [f_M_take, hB1, jp_c, decide_eq_true_eq, n_lit, Nat.reduceEqDiff, Nat.reduceAdd, Nat.reduceMul, ite_true, ite_false, if_true, if_false, eq_self_iff_true, ↓reduceIte, and_self, and_true, true_and, and_false, false_and, not_true_eq_false, not_false_eq_true, if_pos, if_neg, h4, w3]
    rw [c1, c2]
    exact pOK_mk rfl T
  · have hR1 : Rel A1 B1 := Rel_scA (fun p hp => w4 p (by rintro rfl; exact hp (by decide))) T
    obtain ⟨U', hu⟩ := uF_rel hR1.1.1
    obtain ⟨b, b1, b2, b3⟩ := p_fits hu hlo hhi (nI r) v3 v4 v5
    have w2' : f_M_isTold (nI x) (nI k) (nI r) (nI lo) (nI hi) (nI d) B1 = nI 1 := by rw [← q1, ← q2]; exact w2
    cases b with
    | false =>
      have c1 : f_C_take (nI x) (nI k) (nI r) a4 (nI d) A = some (-(nI 2), A1) := by
        simp (disch := omega) only [f_C_take, w1, jp_c, decide_eq_true_eq, n_lit, n_eq, Nat.reduceEqDiff, Nat.reduceAdd, Nat.reduceMul, ite_true, ite_false, if_true, if_false, eq_self_iff_true, ↓reduceIte, and_self, and_true, true_and, and_false, false_and, not_true_eq_false, not_false_eq_true, if_pos, if_neg, b1, Option.bind_some, Bool.false_eq_true]
      have c2 : f_M_take (nI x) (nI k) (nI r) a4 (nI d) B = some (-(nI 2), B1) := by
        simp (disch := omega) only [f_M_take, hB1, jp_c, decide_eq_true_eq, n_lit, n_eq, Nat.reduceEqDiff, Nat.reduceAdd, Nat.reduceMul, ite_true, ite_false, if_true, if_false, eq_self_iff_true, ↓reduceIte, and_self, and_true, true_and, and_false, false_and, not_true_eq_false, not_false_eq_true, if_pos, if_neg, q1, q2, q3, w2', b2, Option.bind_some, Bool.false_eq_true]
      rw [c1, c2]
      exact pOK_mk rfl hR1
    | true =>
      obtain ⟨A2, B2, k1, k2, hR2, k3, -, k5, -⟩ := p_keep hR1
      have hU' := b3 rfl
      have a55 : A2 55 = A1 55 := k3 55 (by decide) (by decide)
      have a2 : A2 2 = A1 2 := k3 2 (by decide) (by decide)
      have a2' : A1 2 = A 2 := w4 2 (by decide)
      have z1 : A2 55 1 = nI x := by rw [a55, v1]
      obtain ⟨n, A', B3, B', n1, n2, n3, s⟩ := p_begin (t := 0) (by omega) (HH_rel hR2) (x := x) (r := r) (lo := lo) (hi := hi) (U := U') (P := P) (by rw [a2, a2', f4]) hP hx hr hlo hhi (by rw [a2]; exact hu.2.1) hU' z1 (by rw [a55, v3]) (by rw [a55, v4]) (by rw [a55, v5]) (nI 0) (nI 2) (nI x)
      rw [a55, v2, v6] at n2
      have c1 : f_C_take (nI x) (nI k) (nI r) a4 (nI d) A = some (n, A') := by
        simp (disch := omega) only [f_C_take, f_K_takes, w1, jp_c, decide_eq_true_eq, n_lit, n_eq, Nat.reduceEqDiff, Nat.reduceAdd, Nat.reduceMul, ite_true, ite_false, if_true, if_false, eq_self_iff_true, ↓reduceIte, and_self, and_true, true_and, and_false, false_and, not_true_eq_false, not_false_eq_true, if_pos, if_neg, b1, k1, z1, n1, Option.bind_some]
      have c2 : f_M_take (nI x) (nI k) (nI r) a4 (nI d) B = some (n, B') := by
        simp (disch := omega) only [f_M_take, hB1, jp_c, decide_eq_true_eq, n_lit, n_eq, Nat.reduceEqDiff, Nat.reduceAdd, Nat.reduceMul, ite_true, ite_false, if_true, if_false, eq_self_iff_true, ↓reduceIte, and_self, and_true, true_and, and_false, false_and, not_true_eq_false, not_false_eq_true, if_pos, if_neg, q1, q2, q3, w2', b2, k2, n2, n3, Option.bind_some]
      rw [c1, c2]
      exact pOK_mk rfl (Rel_SS hR2 s)
/-- where a use stands -/
theorem l_place {A B : jp_M} {U : Nat} (hU : U ≤ 16) (h1 : A 2 6 = nI U) (h2 : B 105 5 = nI U) (hr : ∀ j, j < 128 → A 5 j = B 105 (56 + j)) (u : Int32) :
    ∀ d i, i + d = U → ∀ n m, d < n → d < m → (f_W_placeOf_2 n u (nI i) A = some (nI 4294967295) ∧ f_M_ends_7 m u (nI i) B = some (nI 0, B)) ∨
    ∃ k, k < U ∧ A 5 (8 * k) = u ∧ f_W_placeOf_2 n u (nI i) A = some (nI k) ∧ f_M_ends_7 m u (nI i) B = (f_M_keepsAhead B).bind fun q3 => (f_M_notes (nI 4) u (nI 0) q3).bind fun q4 => (f_M_isOver (nI k) q4).bind fun q5 => some (nI 1, q5) := by
  intro d
  induction d with
  | zero =>
    intro i hi n m hn hm
    obtain ⟨n, rfl⟩ : ∃ k, n = k + 1 := ⟨n - 1, by omega⟩
    obtain ⟨m, rfl⟩ : ∃ k, m = k + 1 := ⟨m - 1, by omega⟩
    left
    constructor
    · simp (disch := omega) only [f_W_placeOf_2, jp_c, decide_eq_true_eq, n_lit, n_neg1, n_add, n_mul, n_sub, n_div, n_mod, n_le, n_lt, n_eq, n_cl, n_in, Nat.reduceEqDiff, Nat.reduceAdd, Nat.reduceMul, ite_true, ite_false, if_true, if_false, eq_self_iff_true, ↓reduceIte, and_self, and_true, true_and, and_false, false_and, not_true_eq_false, not_false_eq_true, if_pos, if_neg, h1]
    · simp (disch := omega) only [f_M_ends_7, jp_c, decide_eq_true_eq, n_lit, n_neg1, n_add, n_mul, n_sub, n_div, n_mod, n_le, n_lt, n_eq, n_cl, n_in, Nat.reduceEqDiff, Nat.reduceAdd, Nat.reduceMul, ite_true, ite_false, if_true, if_false, eq_self_iff_true, ↓reduceIte, and_self, and_true, true_and, and_false, false_and, not_true_eq_false, not_false_eq_true, if_pos, if_neg, h2]
  | succ d ih =>
    intro i hi n m hn hm
    obtain ⟨n, rfl⟩ : ∃ k, n = k + 1 := ⟨n - 1, by omega⟩
    obtain ⟨m, rfl⟩ : ∃ k, m = k + 1 := ⟨m - 1, by omega⟩
    have a0 := hr (8 * i) (by omega)
    by_cases hc : B 105 (56 + 8 * i) = u
    · right
      refine ⟨i, by omega, by rw [a0, hc], ?_, ?_⟩
      · simp (disch := omega) only [f_W_placeOf_2, jp_c, decide_eq_true_eq, n_lit, n_neg1, n_add, n_mul, n_sub, n_div, n_mod, n_le, n_lt, n_eq, n_cl, n_in, Nat.reduceEqDiff, Nat.reduceAdd, Nat.reduceMul, ite_true, ite_false, if_true, if_false, eq_self_iff_true, ↓reduceIte, and_self, and_true, true_and, and_false, false_and, not_true_eq_false, not_false_eq_true, if_pos, if_neg, Nat.add_zero, h1, a0, hc, jg_t]
      · simp (disch := omega) only [f_M_ends_7, f_M_useAt, jp_c, decide_eq_true_eq, n_lit, n_neg1, n_add, n_mul, n_sub, n_div, n_mod, n_le, n_lt, n_eq, n_cl, n_in, Nat.reduceEqDiff, Nat.reduceAdd, Nat.reduceMul, ite_true, ite_false, if_true, if_false, eq_self_iff_true, ↓reduceIte, and_self, and_true, true_and, and_false, false_and, not_true_eq_false, not_false_eq_true, if_pos, if_neg, h2, hc, jg_t]
    · have e1 : f_W_placeOf_2 (n + 1) u (nI i) A = f_W_placeOf_2 n u (nI (i + 1)) A := by
        simp (disch := omega) only [f_W_placeOf_2, jp_c, decide_eq_true_eq, n_lit, n_neg1, n_add, n_mul, n_sub, n_div, n_mod, n_le, n_lt, n_eq, n_cl, n_in, Nat.reduceEqDiff, Nat.reduceAdd, Nat.reduceMul, ite_true, ite_false, if_true, if_false, eq_self_iff_true, ↓reduceIte, and_self, and_true, true_and, and_false, false_and, not_true_eq_false, not_false_eq_true, if_pos, if_neg, Nat.add_zero, h1, a0, hc, jg_t]
      have e2 : f_M_ends_7 (m + 1) u (nI i) B = f_M_ends_7 m u (nI (i + 1)) B := by
        simp (disch := omega) only [f_M_ends_7, f_M_useAt, jp_c, decide_eq_true_eq, n_lit, n_neg1, n_add, n_mul, n_sub, n_div, n_mod, n_le, n_lt, n_eq, n_cl, n_in, Nat.reduceEqDiff, Nat.reduceAdd, Nat.reduceMul, ite_true, ite_false, if_true, if_false, eq_self_iff_true, ↓reduceIte, and_self, and_true, true_and, and_false, false_and, not_true_eq_false, not_false_eq_true, if_pos, if_neg, h2, hc, jg_t]
      rw [e1, e2]
      exact ih (i + 1) (by omega) n m (by omega) (by omega)
theorem p_ends (a : Int32) {A B : jp_M} (hR : Rel A B) : pOK (f_C_ends a A) (f_M_ends a B) := by
  have T := Rel_told (x := nI 0) hR
  generalize hB1 : jp_set B 104 (upd (B 104) 0 (nI 0)) = B1 at T
  obtain ⟨P, S, U, hP, hS, hU, f4, f5, f6, g6, g7, g5, -⟩ := HH_up (HH_rel T)
  have hWW : rWW A B1 := T.1.1
  have c0 : f_M_ends a B = f_M_ends_7 jFu a (nI 0) B1 := by rw [← hB1]; rfl
  rcases l_place hU f6 g5 hWW.1.2.2.2 a U 0 (by omega) jFu jFu (jFu_lt (by omega)) (jFu_lt (by omega)) with ⟨p1, p2⟩ | ⟨k, hk, pk, p1, p2⟩
  · have p1' : f_W_placeOf a A = some (nI 4294967295) := p1
    have c1 : f_C_ends a A = some (nI 0, A) := by
      simp (disch := omega) only [f_C_ends, p1', jp_c, decide_eq_true_eq, n_lit, n_neg1, Nat.reduceEqDiff, Nat.reduceAdd, Nat.reduceMul, ite_true, ite_false, if_true, if_false, eq_self_iff_true, ↓reduceIte, and_self, and_true, true_and, and_false, false_and, not_true_eq_false, not_false_eq_true, if_pos, if_neg, Option.bind_some]
    rw [c1, c0, p2]
    exact pOK_mk rfl T
  · have p1' : f_W_placeOf a A = some (nI k) := p1
    obtain ⟨A2, B2, k1, k2, hR2, k3, -, k5, -⟩ := p_keep T
    obtain ⟨A3, B3, n1, n2, s1, n4, n5, -⟩ := p_note (t := 0) (by omega) (HH_rel hR2) (nI 4) a (nI 0)
    have z : A2 5 (8 * k) = a := by rw [k3 5 (by decide) (by decide), pk]
    obtain ⟨A4, B4, m1, m2, s2, -⟩ := p_remove s1.2.2.1 (i := k) (U := U) (by rw [n5 6 (by decide), k3 2 (by decide) (by decide), f6]) hk hU
    have c1 : f_C_ends a A = some (nI 1, A4) := by
      simp (disch := omega) only [f_C_ends, f_K_closes, p1', jp_c, decide_eq_true_eq, n_lit, n_neg1, n_add, n_mul, n_sub, n_div, n_mod, n_le, n_lt, n_eq, n_cl, n_in, Nat.reduceEqDiff, Nat.reduceAdd, Nat.reduceMul, ite_true, ite_false, if_true, if_false, eq_self_iff_true, ↓reduceIte, and_self, and_true, true_and, and_false, false_and, not_true_eq_false, not_false_eq_true, if_pos, if_neg, Nat.add_zero, k1, jg_t, z, n1, m1, Option.bind_some]
    have c2 : f_M_ends a B = some (nI 1, B4) := by
      rw [c0, p2, k2, Option.bind_some, n2, Option.bind_some, m2, Option.bind_some]
    rw [c1, c2]
    exact pOK_mk rfl (Rel_SS hR2 (SS_trans s1 s2))
