theorem segR_app {op ar : Nat → Int32} {s : Nat} {a b : List (Nat × Int32)} (h : jsegR op ar s (a ++ b)) : jsegR op ar s a ∧ jsegR op ar (s + a.length) b := by
  refine ⟨fun k hk => ?_, fun k hk => ?_⟩
  · have := h k (by rw [List.length_append]; omega)
    rw [List.getD_eq_getElem?_getD, List.getElem?_append_left hk] at this
    rw [List.getD_eq_getElem?_getD]; exact this
  · have := h (a.length + k) (by rw [List.length_append]; omega)
    rw [List.getD_eq_getElem?_getD, List.getElem?_append_right (by omega), show a.length + k - a.length = k by omega] at this
    rw [List.getD_eq_getElem?_getD, Nat.add_assoc]; exact this
/-- the lines that were read are a law -/
theorem lw_lines {A B : jp_M} {cd op ar wd wh en wd' fr' wh' to' : Nat → Int32} : ∀ (R : List (Nat × List (Nat × Int32) × List (Nat × Int32))), lnI A B R →
    (∀ l, l < R.length → wd l = A 71 l ∧ wh l = A 72 l ∧ en l = A 73 l ∧ wd' l = B 115 (32 + l) ∧ fr' l = B 116 (32 + l) ∧ wh' l = B 117 (32 + l) ∧ to' l = B 118 (32 + l)) →
    jsegC cd 0 (cC R) → jsegR op ar 0 (cG R) → (cC R).length ≤ 400 → (cG R).length ≤ 400 →
    ∃ ps : Nat → Nat, ps 0 = 0 ∧ ps R.length = (cC R).length ∧ ∀ l, l < R.length → ps l ≤ ps (l + 1) ∧ jLine cd op ar (wd l) (wd' l) (wh l) (en l) (fr' l) (wh' l) (to' l) (ps l) (ps (l + 1))
  | [], _, _, _, _, _, _ => ⟨fun _ => 0, rfl, rfl, fun l hl => absurd hl (by simp)⟩
  | (w, E, D) :: R, hI, hq, hC, hG, lC, lG => by
    obtain ⟨h1, h2, h3, h4, h5, h6, h7, h8, h9, h10⟩ := hI
    rw [cC_cons] at hC lC ⊢
    rw [cG_cons] at hG lG
    rw [List.length_append, List.length_append] at lC lG
    have c1 := segC_app hC
    have c2 := segC_app c1.1
    have g1 := segR_app hG
    have g2 := segR_app g1.1
    rw [Nat.zero_add] at c1 c2 g1 g2
    obtain ⟨ps, p0, p1, p2⟩ := lw_lines R h1 (fun l hl => hq l (by rw [List.length_cons]; omega)) c2.1 g2.1 (by omega) (by omega)
    obtain ⟨q1, q2, q3, q4, q5, q6, q7⟩ := hq R.length (by rw [List.length_cons]; omega)
    refine ⟨fun j => if j ≤ R.length then ps j else (cC R ++ E.flatMap jenc ++ D.flatMap jenc).length, ?_, ?_, ?_⟩
    · dsimp only; rw [if_pos (Nat.zero_le _)]; exact p0
    · dsimp only; rw [List.length_cons, if_neg (show ¬ R.length + 1 ≤ R.length by omega)]
    · intro l hl
      rw [List.length_cons] at hl
      dsimp only
      by_cases he : l = R.length
      · subst he
        rw [if_pos (Nat.le_refl _), if_neg (show ¬ R.length + 1 ≤ R.length by omega), p1, List.length_append, List.length_append]
        refine ⟨by omega, w, (cG R).length, E, D, h2, by rw [q1]; exact h4, by rw [q4]; exact h5, by rw [q5]; exact h6, by rw [q6]; exact h7, by rw [q7]; exact h8, by omega, by rw [q2]; exact h9, by rw [q3]; exact h10, rfl, by omega, c2.2, ?_, g2.2, ?_, h3⟩
        · have := c1.2; rw [List.length_append] at this; exact this
        · have := g1.2; rw [List.length_append] at this; exact this
      · rw [if_pos (show l ≤ R.length by omega), if_pos (show l + 1 ≤ R.length by omega)]
        exact p2 l (by omega)
/-- the reference takes its draft -/
theorem l_tk107 {L c : Nat} (hc : c ≤ 400) : ∀ d i, i + d = c → ∀ n, d < n → ∀ B : jp_M, B 104 26 = nI 0 → B 104 27 = nI c →
    ∃ B', f_M_takesLaw_107 n (nI L) (nI i) B = some B' ∧ (∀ q, ¬ q = 114 → ¬ q = 119 → ¬ q = 120 → B' q = B q) ∧ B' 114 0 = nI L ∧ (∀ j, B' 119 j = if i ≤ j ∧ j < c then B 119 (800 + j) else B 119 j) ∧ (∀ j, B' 120 j = if i ≤ j ∧ j < c then B 120 (800 + j) else B 120 j) := by
  intro d
  induction d with
  | zero =>
    intro i hi n hn B h26 h27
    obtain ⟨n, rfl⟩ : ∃ k, n = k + 1 := ⟨n - 1, by omega⟩
    have : c ≤ i := by omega
    refine ⟨jp_set B 114 (upd (B 114) 0 (nI L)), ?_, ?_, ?_, ?_, ?_⟩
    · simp (disch := omega) only [f_M_takesLaw_107, jp_c, decide_eq_true_eq, n_lit, n_le, n_in, n_cl, h26, h27, this, jg_t, Nat.reduceEqDiff, Nat.reduceAdd, Nat.reduceMul, ite_true, ite_false, if_true, if_false, eq_self_iff_true, ↓reduceIte, and_self, and_true, true_and, and_false, false_and, not_true_eq_false, not_false_eq_true, if_pos, if_neg]
    · intro q h1 _ _; rw [st_ne h1]
    · rw [st_same, ud_eq rfl]
    · intro j; rw [st_ne (by decide), if_neg (by omega)]
    · intro j; rw [st_ne (by decide), if_neg (by omega)]
  | succ d ih =>
    intro i hi n hn B h26 h27
    obtain ⟨n, rfl⟩ : ∃ k, n = k + 1 := ⟨n - 1, by omega⟩
    have hc' : ¬ c ≤ i := by omega
    obtain ⟨B', b1, b2, b3, b4, b5⟩ := ih (i + 1) (by omega) n (by omega) (jp_set (jp_set B 119 (upd (B 119) i (B 119 (800 + i)))) 120 (upd (B 120) i (B 120 (800 + i)))) (by rw [st_ne (by decide), st_ne (by decide)]; exact h26) (by rw [st_ne (by decide), st_ne (by decide)]; exact h27)
    refine ⟨B', ?_, ?_, b3, ?_, ?_⟩
    · rw [← b1]
      simp (disch := omega) only [f_M_takesLaw_107, jp_c, decide_eq_true_eq, n_lit, n_add, n_mul, n_le, n_in, n_cl, h26, h27, hc', st_ap, jg_t, Nat.mul_zero, Nat.zero_add, Nat.reduceEqDiff, Nat.reduceAdd, Nat.reduceMul, ite_true, ite_false, if_true, if_false, eq_self_iff_true, ↓reduceIte, and_self, and_true, true_and, and_false, false_and, not_true_eq_false, not_false_eq_true, if_pos, if_neg]
    · intro q h1 h2 h3
      rw [b2 q h1 h2 h3, st_ne h3, st_ne h2]
    · intro j
      rw [b4 j, st_ne (by decide), st_same]
      by_cases hj : j = i
      · subst hj
        rw [if_neg (by omega), ud_eq rfl, if_pos ⟨Nat.le_refl _, by omega⟩]
      · by_cases hr : i ≤ j ∧ j < c
        · rw [if_pos (by omega), ud_ne (by omega), if_pos hr]
        · rw [if_neg (by omega), ud_ne hj, if_neg hr]
    · intro j
      rw [b5 j, st_same]
      by_cases hj : j = i
      · subst hj
        rw [if_neg (by omega), ud_eq rfl, if_pos ⟨Nat.le_refl _, by omega⟩]
      · by_cases hr : i ≤ j ∧ j < c
        · rw [if_pos (by omega), ud_ne (by omega), if_pos hr]
        · rw [if_neg (by omega), ud_ne hj, if_neg hr]
theorem l_tk2 {L : Nat} (hL : L ≤ 16) : ∀ d i, i + d = L → ∀ n, d < n → ∀ B : jp_M, B 104 26 = nI 0 →
    ∃ B', f_M_takesLaw_2 n (nI L) (nI i) B = f_M_takesLaw_107 jFu (nI L) (nI 0) B' ∧ (∀ q, ¬ q = 115 → ¬ q = 116 → ¬ q = 117 → ¬ q = 118 → B' q = B q) ∧ (∀ q, (q = 115 ∨ q = 116 ∨ q = 117 ∨ q = 118) → ∀ j, B' q j = if i ≤ j ∧ j < L then B q (32 + j) else B q j) := by
  intro d
  induction d with
  | zero =>
    intro i hi n hn B h26
    obtain ⟨n, rfl⟩ : ∃ k, n = k + 1 := ⟨n - 1, by omega⟩
    have : L ≤ i := by omega
    refine ⟨B, ?_, fun _ _ _ _ _ => rfl, fun q _ j => by rw [if_neg (by omega)]⟩
    simp (disch := omega) only [f_M_takesLaw_2, jp_c, decide_eq_true_eq, n_lit, n_le, this, Nat.reduceEqDiff, Nat.reduceAdd, Nat.reduceMul, ite_true, ite_false, if_true, if_false, eq_self_iff_true, ↓reduceIte, and_self, and_true, true_and, and_false, false_and, not_true_eq_false, not_false_eq_true, if_pos, if_neg]
  | succ d ih =>
    intro i hi n hn B h26
    obtain ⟨n, rfl⟩ : ∃ k, n = k + 1 := ⟨n - 1, by omega⟩
    have hc' : ¬ L ≤ i := by omega
    obtain ⟨B', b1, b2, b3⟩ := ih (i + 1) (by omega) n (by omega) (jp_set (jp_set (jp_set (jp_set B 115 (upd (B 115) i (B 115 (32 + i)))) 116 (upd (B 116) i (B 116 (32 + i)))) 117 (upd (B 117) i (B 117 (32 + i)))) 118 (upd (B 118) i (B 118 (32 + i))))
      (by rw [st_ne (by decide), st_ne (by decide), st_ne (by decide), st_ne (by decide)]; exact h26)
    refine ⟨B', ?_, ?_, ?_⟩
    · rw [← b1]
      simp (disch := omega) only [f_M_takesLaw_2, jp_c, decide_eq_true_eq, n_lit, n_add, n_mul, n_le, n_in, n_cl, h26, hc', st_ap, jg_t, Nat.mul_zero, Nat.zero_add, Nat.reduceEqDiff, Nat.reduceAdd, Nat.reduceMul, ite_true, ite_false, if_true, if_false, eq_self_iff_true, ↓reduceIte, and_self, and_true, true_and, and_false, false_and, not_true_eq_false, not_false_eq_true, if_pos, if_neg]
    · intro q h1 h2 h3 h4
      rw [b2 q h1 h2 h3 h4, st_ne h4, st_ne h3, st_ne h2, st_ne h1]
    · intro q hq j
      have e : ∀ y, jp_set (jp_set (jp_set (jp_set B 115 (upd (B 115) i (B 115 (32 + i)))) 116 (upd (B 116) i (B 116 (32 + i)))) 117 (upd (B 117) i (B 117 (32 + i)))) 118 (upd (B 118) i (B 118 (32 + i))) q y = upd (B q) i (B q (32 + i)) y := by
        intro y
        rcases hq with rfl | rfl | rfl | rfl <;> simp only [st_ap, Nat.reduceEqDiff, Nat.reduceAdd, Nat.reduceMul, ite_true, ite_false, if_true, if_false, eq_self_iff_true, ↓reduceIte, and_self, and_true, true_and, and_false, false_and, not_true_eq_false, not_false_eq_true, if_pos, if_neg]
      rw [b3 q hq j, e, e]
      by_cases hj : j = i
      · subst hj
        rw [if_neg (by omega), ud_eq rfl, if_pos ⟨Nat.le_refl _, by omega⟩]
      · by_cases hr : i ≤ j ∧ j < L
        · rw [if_pos (by omega), ud_ne (by omega), if_pos hr]
        · rw [if_neg (by omega), ud_ne hj, if_neg hr]
theorem k_Lt {M : jp_M} {n l : Nat} (hn : n ≤ 16) (hl : l ≤ 400) (h0 : M 70 0 = nI n) (h1 : M 70 1 = nI l) : f_L_becomes M = some (jp_set (jp_set (jp_set (jp_set (jp_set M 7 (upd (upd (M 7) 0 (nI n)) 1 (nI l))) 8 (va_cpy (M 71) (M 8) 0 0 n)) 9 (va_cpy (M 72) (M 9) 0 0 n)) 10 (va_cpy (M 73) (M 10) 0 0 n)) 11 (va_cpy (M 74) (M 11) 0 0 l)) := by
  simp (disch := omega) only [f_L_becomes, n_lit, n_le, n_cl, Nat.reduceEqDiff, Nat.reduceAdd, Nat.reduceMul, ite_true, ite_false, if_true, if_false, eq_self_iff_true, ↓reduceIte, and_self, and_true, true_and, and_false, false_and, not_true_eq_false, not_false_eq_true, if_pos, if_neg, st_st, st_ap, ud_ap, h0, h1, jg_t]
theorem rLaw_cg {a wd wh en cd m wd' fr' wh' to' op ar wd2 fr2 wh2 to2 op2 ar2 : Nat → Int32} (h : rLaw a wd wh en cd m wd' fr' wh' to' op ar) (e1 : ∀ i, i < 16 → wd2 i = wd' i ∧ fr2 i = fr' i ∧ wh2 i = wh' i ∧ to2 i = to' i) (e2 : ∀ i, i < 400 → op2 i = op i ∧ ar2 i = ar i) : rLaw a wd wh en cd m wd2 fr2 wh2 to2 op2 ar2 := by
  obtain ⟨n, ps, h1, h2, h3, h4, h5, h6, h7⟩ := h
  refine ⟨n, ps, h1, h2, h3, h4, h5, h6, fun l hl => ⟨(h7 l hl).1, ?_⟩⟩
  obtain ⟨d1, d2, d3, d4⟩ := e1 l (by omega)
  obtain ⟨w, r1, E, C, g1, g2, g3, g4, g5, g6, g7, g8, g9, g10, g11, g12, g13, g14, g15, g16⟩ := (h7 l hl).2
  refine ⟨w, r1, E, C, g1, g2, by rw [d1]; exact g3, by rw [d2]; exact g4, by rw [d3]; exact g5, by rw [d4]; exact g6, g7, g8, g9, g10, g11, g12, g13, segR_cg (fun k hk => e2 _ (by omega)) g14, segR_cg (fun k hk => e2 _ (by omega)) g15, g16⟩
/-- text: what it changes -/
def txA : List Nat := [0, 1, 7, 8, 9, 10, 11, 14, 15, 16, 17, 18, 68] ++ scA
def txB : List Nat := [114, 115, 116, 117, 118, 119, 120, 122, 123, 124] ++ scB
def txF : List Nat := [3, 13, 33, 34, 35, 37, 39] ++ scF
theorem Rel_tx {A A' B B' : jp_M} (hR : Rel A B) (hA : ∀ p, p ∉ txA → A' p = A p) (hA0 : ∀ i, i ∉ [4, 11] → A' 0 i = A 0 i) (hB : ∀ p, p ∉ txB → B' p = B p) (hB0 : ∀ i, i ∉ txF → B' 104 i = B 104 i)
    (h1 : rLaw (A' 7) (A' 8) (A' 9) (A' 10) (A' 11) (B' 114) (B' 115) (B' 116) (B' 117) (B' 118) (B' 119) (B' 120)) (h2 : rPet (A 2 4) (A' 14 0) (B' 104 35) (A' 15) (B' 122)) (h3 : rLease (A' 1 5) (B' 104 37) (A' 16) (B' 123)) (h4 : rCite (A' 17 0) (B' 104 39) (A' 18) (B' 124))
    (h5 : A' 0 11 = nI 0 ∧ B' 104 13 = nI 0) (h6 : A' 68 7 = B' 104 33 ∧ A' 68 8 = B' 104 34) (h7 : (A' 0 4 = A 0 4 ∧ B' 104 3 = B 104 3) ∨ (A' 0 4 = nI 0 ∧ B' 104 3 = nI 0)) : Rel A' B' := by
  obtain ⟨⟨hW, hBk, hLw, hPe, hLe, hCi, hWi, hKi, hPo, hWy, hVo⟩, hPic, hKe, hTa, hFa, hTh, hWd⟩ := hR
  have hN := rKept_nw hKe
  have e2 : A' 2 = A 2 := hA 2 (by decide)
  refine ⟨⟨?_, ?_, h1, by rw [e2]; exact h2, h3, h4, ?_, ?_, ?_, ?_, ?_⟩, ?_, ?_, ?_, h6, ?_, ?_⟩
  · simp (disch := decide) only [hA, hB, hB0]; exact hW
  · simp (disch := decide) only [hA, hB, hB0]; exact hBk
  · simp (disch := decide) only [hA, hB, hB0]; exact hWi
  · simp (disch := decide) only [hA, hB, hB0]; exact hKi
  · simp (disch := decide) only [hA, hB, hB0]; exact hPo
  · simp (disch := decide) only [hA, hB, hB0]; exact hWy
  · simp (disch := decide) only [hA, hB, hB0]; exact hVo
  · rw [hA0 2 (by decide), hB0 63 (by decide)]
    exact rPic_cg (fun q h1 h2 => hA q (by simp only [txA, scA, List.cons_append, List.nil_append, List.mem_cons, List.not_mem_nil, or_false, not_or]; omega)) (hB 143 (by decide)) rfl rfl hPic
  · rw [hA0 5 (by decide), e2, hB 106 (by decide), hB 108 (by decide), hB 109 (by decide), hB 110 (by decide), hB0 6 (by decide), hB0 7 (by decide)]
    rcases h7 with ⟨k1, k2⟩ | ⟨k1, k2⟩
    · rw [k1, k2]
      exact rKept_cg (fun q h1 h2 => hA q (by simp only [txA, scA, List.cons_append, List.nil_append, List.mem_cons, List.not_mem_nil, or_false, not_or]; omega)) hKe
    · rw [k1, k2]; exact rKept_0 hN
  · rw [hA 67 (by decide), hB 112 (by decide), h5.1, h5.2]
    exact ⟨⟨0, by omega, rfl, rfl⟩, hTa.2⟩
  · rw [hA 54 (by decide), hB0 5 (by decide)]; exact hTh
  · rw [hB 113 (by decide)]; exact hWd
/-- both begin to read -/
theorem tx_open {A B : jp_M} (hR : Rel A B) {c : Nat} {a : Int32} (hc : c < 4) (ha : (c = 0 ∧ ¬ a = nI 1 ∧ ¬ a = nI 2 ∧ ¬ a = nI 3) ∨ (0 < c ∧ a = nI c)) (w : Nat) :
    ∃ (N : Nat) (t : Nat → Nat) (A1 B1 : jp_M) (p n k x : Nat), f_R_opens (A 0 11) a w A = some (1000 + c, A1) ∧
      f_M_reads (jp_set B 104 (upd (upd (upd (upd (upd (upd (upd (B 104) 0 (nI 0)) 33 (nI 0)) 34 (nI 4294967295)) 14 (nI 0)) 27 (nI 0)) 28 (nI 0)) 26 (nI 0))) = some B1 ∧ Sy c N t A1 B1 p n k x ∧
      (∀ q, ¬ q = 68 → A1 q = A q) ∧ A1 68 7 = nI 0 ∧ A1 68 8 = nI 4294967295 ∧ (∀ q, ¬ q = 104 → B1 q = B q) ∧ B1 104 26 = nI 0 ∧ B1 104 27 = nI 0 ∧ B1 104 28 = nI 0 ∧ B1 104 33 = nI 0 ∧ B1 104 34 = nI 4294967295 ∧
      (∀ i, i ∉ [0, 14, 15, 16, 17, 26, 27, 28, 33, 34] → B1 104 i = B 104 i) := by
  obtain ⟨⟨hW, hBk, hLw, hPe, hLe, hCi, hWi, hKi, hPo, hWy, hVo⟩, hPic, hKe, hTa, hFa, hTh, hWd⟩ := hR
  obtain ⟨⟨N, hN, t1, t2⟩, t3⟩ := hTa
  have : ∀ j, ∃ v, j < 400 → v < 256 ∧ B 112 j = nI v ∧ A 67 j = (nI v).toInt8.toInt32 := by
    intro j
    by_cases hj : j < 400
    · obtain ⟨v, v1, v2, v3⟩ := t3 j hj
      exact ⟨v, fun _ => ⟨v1, v2, v3⟩⟩
    · exact ⟨0, fun h => absurd h hj⟩
  obtain ⟨t, ht⟩ := Classical.skolem.mp this
  have mn : jp_min (nI N) (nI 400) = nI N := by
    unfold jp_min
    rw [if_neg (by rw [n_lt (by omega) (by omega)]; omega)]
  generalize hg : upd (upd (upd (upd (A 68) 1 (nI N)) 4 (nI 0)) 7 (nI 0)) 8 (nI 4294967295) = g
  generalize hh : upd (upd (upd (upd (upd (upd (upd (B 104) 0 (nI 0)) 33 (nI 0)) 34 (nI 4294967295)) 14 (nI 0)) 27 (nI 0)) 28 (nI 0)) 26 (nI 0) = h
  obtain ⟨g', h', p, n, k, x, r1, r2, r3, r4, r5, r6, r7, r8, r9, r10, r11, r12, r13, r14, r15⟩ := lx_adv (A := jp_set A 68 g) (B := jp_set B 104 h) (t := t) (N := N) (c := c) hc hN
    (fun j hj => by rw [st_ne (by decide)]; exact ⟨(ht j hj).1, (ht j hj).2.2⟩) (fun j hj => by rw [st_ne (by decide)]; exact ⟨(ht j hj).1, (ht j hj).2.1⟩) (by rw [st_ne (by decide)]; exact hWd)
    (by rw [st_same, ← hg]; simp (disch := decide) only [ud_ne, ud_eq]) (by rw [st_same, ← hh]; simp (disch := decide) only [ud_ne, ud_eq]; exact t2) (q := 0) (by omega)
    (by rw [st_same, ← hg]; simp (disch := decide) only [ud_ne, ud_eq]) (by rw [st_same, ← hh]; simp (disch := decide) only [ud_ne, ud_eq])
  rw [st_st] at r1 r2
  rw [st_same] at r14 r15
  refine ⟨N, t, jp_set A 68 g', jp_set B 104 h', p, n, k, x, ?_, r2, ⟨hc, hN, fun j hj => ?_, fun j hj => ?_, ?_, ?_, ?_, ?_, ?_, ?_, ?_, r8, r9, r10, r11, ?_, ?_⟩, ?_, ?_, ?_, ?_, ?_, ?_, ?_, ?_, ?_, ?_⟩
  · have e1 : ∀ w', f_R_opens_89 w' (jp_set A 68 g) = (f_R_advances w' (jp_set A 68 g)).bind fun q1 => some (w', q1) := fun w' => rfl
    have e2 : f_R_opens_89 (1000 + c) (jp_set A 68 g) = some (1000 + c, jp_set A 68 g') := by rw [e1, r1]; rfl
    have e3 : c = 0 ∨ c = 1 ∨ c = 2 ∨ c = 3 := by omega
    rw [← e2]
    rcases e3 with rfl | rfl | rfl | rfl
    · obtain ⟨-, a1, a2, a3⟩ : 0 = 0 ∧ ¬ a = nI 1 ∧ ¬ a = nI 2 ∧ ¬ a = nI 3 := ha.resolve_right (fun h => absurd h.1 (by omega))
      simp (disch := omega) only [f_R_opens, n_lit, n_neg1, mn, t1, st_ap, st_st, hg, a1, a2, a3, Nat.reduceEqDiff, Nat.reduceAdd, Nat.reduceMul, ite_true, ite_false, if_true, if_false, eq_self_iff_true, ↓reduceIte, and_self, and_true, true_and, and_false, false_and, not_true_eq_false, not_false_eq_true, if_pos, if_neg]
    · obtain ⟨-, rfl⟩ : 0 < 1 ∧ a = nI 1 := ha.resolve_left (fun h => absurd h.1 (by omega))
      simp (disch := omega) only [f_R_opens, n_lit, n_neg1, n_eq, mn, t1, st_ap, st_st, hg, Nat.reduceEqDiff, Nat.reduceAdd, Nat.reduceMul, ite_true, ite_false, if_true, if_false, eq_self_iff_true, ↓reduceIte, and_self, and_true, true_and, and_false, false_and, not_true_eq_false, not_false_eq_true, if_pos, if_neg]
    · obtain ⟨-, rfl⟩ : 0 < 2 ∧ a = nI 2 := ha.resolve_left (fun h => absurd h.1 (by omega))
      simp (disch := omega) only [f_R_opens, n_lit, n_neg1, n_eq, mn, t1, st_ap, st_st, hg, Nat.reduceEqDiff, Nat.reduceAdd, Nat.reduceMul, ite_true, ite_false, if_true, if_false, eq_self_iff_true, ↓reduceIte, and_self, and_true, true_and, and_false, false_and, not_true_eq_false, not_false_eq_true, if_pos, if_neg]
    · obtain ⟨-, rfl⟩ : 0 < 3 ∧ a = nI 3 := ha.resolve_left (fun h => absurd h.1 (by omega))
      simp (disch := omega) only [f_R_opens, n_lit, n_neg1, n_eq, mn, t1, st_ap, st_st, hg, Nat.reduceEqDiff, Nat.reduceAdd, Nat.reduceMul, ite_true, ite_false, if_true, if_false, eq_self_iff_true, ↓reduceIte, and_self, and_true, true_and, and_false, false_and, not_true_eq_false, not_false_eq_true, if_pos, if_neg]
  · rw [st_ne (by decide)]; exact ⟨(ht j hj).1, (ht j hj).2.2⟩
  · rw [st_ne (by decide)]; exact ⟨(ht j hj).1, (ht j hj).2.1⟩
  · rw [st_ne (by decide)]; exact hWd
  · rw [st_same, r14 1 (by decide) (by decide) (by decide) (by decide), ← hg]; simp (disch := decide) only [ud_ne, ud_eq]
  · rw [st_same, r15 13 (by decide) (by decide) (by decide) (by decide), ← hh]; simp (disch := decide) only [ud_ne, ud_eq]; exact t2
  · rw [st_same]; exact r3
  · rw [st_same]; exact r4
  · rw [st_same]; exact r5
  · rw [st_same]; exact r6
  · rw [st_same]; exact r12
  · rw [st_same]; exact r13
  · intro q hq; rw [st_ne hq]
  · rw [st_same, r14 7 (by decide) (by decide) (by decide) (by decide), ← hg]; simp (disch := decide) only [ud_ne, ud_eq]
  · rw [st_same, r14 8 (by decide) (by decide) (by decide) (by decide), ← hg]; simp (disch := decide) only [ud_ne, ud_eq]
  · intro q hq; rw [st_ne hq]
  · rw [st_same, r15 26 (by decide) (by decide) (by decide) (by decide), ← hh]; simp (disch := decide) only [ud_ne, ud_eq]
  · rw [st_same, r15 27 (by decide) (by decide) (by decide) (by decide), ← hh]; simp (disch := decide) only [ud_ne, ud_eq]
  · rw [st_same, r15 28 (by decide) (by decide) (by decide) (by decide), ← hh]; simp (disch := decide) only [ud_ne, ud_eq]
  · rw [st_same, r15 33 (by decide) (by decide) (by decide) (by decide), ← hh]; simp (disch := decide) only [ud_ne, ud_eq]
  · rw [st_same, r15 34 (by decide) (by decide) (by decide) (by decide), ← hh]; simp (disch := decide) only [ud_ne, ud_eq]
  · intro i hi
    rw [st_same, r15 i (nin_ne hi (by decide)) (nin_ne hi (by decide)) (nin_ne hi (by decide)) (nin_ne hi (by decide)), ← hh, ud_ne (nin_ne hi (by decide)), ud_ne (nin_ne hi (by decide)), ud_ne (nin_ne hi (by decide)), ud_ne (nin_ne hi (by decide)), ud_ne (nin_ne hi (by decide)), ud_ne (nin_ne hi (by decide)), ud_ne (nin_ne hi (by decide))]
