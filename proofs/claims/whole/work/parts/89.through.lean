def WS (A : jp_M) (g : Nat → Int32) (U s i u : Nat) (D : Nat → Bool) (M : jp_M) : Prop := ∃ st w q n E, CS A st w q n M ∧ BI s (fcl g U) st w E ∧ QI (fcl g U) i n q st E D ∧ q i = u
/-- one direction -/
theorem c_dir {A M : jp_M} {g : Nat → Int32} {U s i u : Nat} {D : Nat → Bool} (hs : s < 80) (hfA : ∀ r, r < 10 → frA A g U r) (hW : WS A g U s i u D M) {R H : Int32} {v : Nat} {P : Prop} (hp : P ∨ ¬ P) (h1 : P → ∃ r h, r < 10 ∧ h < 8 ∧ R = nI r ∧ H = nI h ∧ 8 * r + h = v ∧ adj u v = true ∧ D v = false) (h2 : ¬ P → ¬ (nI 0 ≤ R ∧ R ≤ nI 9) ∨ ¬ (nI 0 ≤ H ∧ H ≤ nI 7)) :
    ∃ M' D', f_T_reaches (nI u) R H M = some M' ∧ WS A g U s i u D' M' ∧ (∀ x, D x = true → D' x = true) ∧ (P → D' v = true) ∧ ∀ x, D' x = true → D x = true ∨ (P ∧ x = v) := by
  rcases hp with hp | hp
  · obtain ⟨r, h, r1, r2, rfl, rfl, r3, r4, r5⟩ := h1 hp
    obtain ⟨st, w, q, n, E, w1, w2, w3, w4⟩ := hW
    subst w4
    subst r3
    obtain ⟨M', st', w', q', n', E', e1, e2, e3, e4, e5⟩ := c_go hs hfA r1 r2 w1 w2 w3 r4 r5
    refine ⟨M', addD D (8 * r + h), e1, ⟨st', w', q', n', E', e2, e3, e4, e5⟩, ?_, fun _ => if_pos rfl, ?_⟩
    · intro x hx
      unfold addD
      split
      · rfl
      · exact hx
    · intro x hx
      unfold addD at hx
      by_cases hxv : x = 8 * r + h
      · exact Or.inr ⟨hp, hxv⟩
      · rw [if_neg hxv] at hx; exact Or.inl hx
  · exact ⟨M, D, c_no (h2 hp), hW, fun _ h => h, fun h => absurd h hp, fun _ h => Or.inl h⟩
theorem WS_60 {A M : jp_M} {g : Nat → Int32} {U s i u : Nat} {D : Nat → Bool} (h : WS A g U s i u D M) : M 60 i = nI u := by
  obtain ⟨st, w, q, n, E, w1, w2, w3, w4⟩ := h
  rw [w1.2.2.2 i w3.2.1, w4]
theorem l_wk {A : jp_M} {g : Nat → Int32} {U s : Nat} (hs : s < 80) (hfA : ∀ r, r < 10 → frA A g U r) (go : Int32) : ∀ d i, i + d = 80 → ∀ n, d < n → ∀ M u, WS A g U s i u (fun _ => false) M →
    ∃ M' st w E q k, f_T_walks_120 n go (nI i) M = f_T_walks_234 go M' ∧ CS A st w q k M' ∧ BI s (fcl g U) st w E ∧ fin (fcl g U) st E := by
  intro d
  induction d with
  | zero =>
    intro i hi n hn M u hW
    obtain ⟨st, w, q, k, E, w1, w2, w3, w4⟩ := hW
    have := w3.1
    have := w3.2.1
    omega
  | succ d ih =>
    intro i hi n hn M u hW
    obtain ⟨n, rfl⟩ : ∃ k, n = k + 1 := ⟨n - 1, by omega⟩
    have hW0 := hW
    obtain ⟨st, w, q, k, E, w1, w2, w3, w4⟩ := hW
    have hu : u < 80 := by rw [← w4]; exact (w3.2.2.1 i w3.2.1).1
    have hik := w3.2.1
    have hk80 := w3.1
    have m56 := w1.2.2.1
    have m60 := WS_60 hW0
    obtain ⟨M1, D1, x1, y1, z1, z2, z3⟩ := c_dir hs hfA hW0 (R := nI (u / 8) - nI 1) (H := nI (u % 8)) (v := 8 * (u / 8 - 1) + u % 8) (P := 1 ≤ u / 8) (Classical.em _) (fun hp => ⟨u / 8 - 1, u % 8, by omega, by omega, n_sub hp, rfl, rfl, by unfold adj; rw [decide_eq_true_eq]; omega, rfl⟩) (fun hp => by
      left
      rw [show u / 8 = 0 by omega]
      decide)
    obtain ⟨M2, D2, x2, y2, z4, z5, z6⟩ := c_dir hs hfA y1 (R := nI (u / 8 + 1)) (H := nI (u % 8)) (v := 8 * (u / 8 + 1) + u % 8) (P := u / 8 + 1 < 10) (Classical.em _) (fun hp => ⟨u / 8 + 1, u % 8, by omega, by omega, rfl, rfl, rfl, by unfold adj; rw [decide_eq_true_eq]; omega, by
      rcases Bool.eq_false_or_eq_true (D1 (8 * (u / 8 + 1) + u % 8)) with e | e
      · rcases z3 _ e with e' | ⟨-, e'⟩
        · exact absurd e' (by decide)
        · omega
      · exact e⟩) (fun hp => by
      left
      rintro ⟨-, g2⟩
      rw [n_le (by omega) (by omega)] at g2
      omega)
    obtain ⟨M3, D3, x3, y3, z7, z8, z9⟩ := c_dir hs hfA y2 (R := nI (u / 8)) (H := nI (u % 8) - nI 1) (v := 8 * (u / 8) + (u % 8 - 1)) (P := 1 ≤ u % 8) (Classical.em _) (fun hp => ⟨u / 8, u % 8 - 1, by omega, by omega, rfl, n_sub hp, rfl, by unfold adj; rw [decide_eq_true_eq]; omega, by
      rcases Bool.eq_false_or_eq_true (D2 (8 * (u / 8) + (u % 8 - 1))) with e | e
      · rcases z6 _ e with e' | ⟨-, e'⟩
        · rcases z3 _ e' with e'' | ⟨-, e''⟩
          · exact absurd e'' (by decide)
          · omega
        · omega
      · exact e⟩) (fun hp => by
      right
      rw [show u % 8 = 0 by omega]
      decide)
    obtain ⟨M4, D4, x4, y4, z10, z11, z12⟩ := c_dir hs hfA y3 (R := nI (u / 8)) (H := nI (u % 8 + 1)) (v := 8 * (u / 8) + (u % 8 + 1)) (P := u % 8 + 1 < 8) (Classical.em _) (fun hp => ⟨u / 8, u % 8 + 1, by omega, by omega, rfl, rfl, rfl, by unfold adj; rw [decide_eq_true_eq]; omega, by
      rcases Bool.eq_false_or_eq_true (D3 (8 * (u / 8) + (u % 8 + 1))) with e | e
      · rcases z9 _ e with e' | ⟨-, e'⟩
        · rcases z6 _ e' with e'' | ⟨-, e''⟩
          · rcases z3 _ e'' with e3 | ⟨-, e3⟩
            · exact absurd e3 (by decide)
            · omega
          · omega
        · omega
      · exact e⟩) (fun hp => by
      right
      rintro ⟨-, g2⟩
      rw [n_le (by omega) (by omega)] at g2
      omega)
    have cover : ∀ x, x < 80 → adj u x = true → D4 x = true := by
      intro x hx hax
      unfold adj at hax
      rw [decide_eq_true_eq] at hax
      have hc : (1 ≤ u / 8 ∧ x = 8 * (u / 8 - 1) + u % 8) ∨ (u / 8 + 1 < 10 ∧ x = 8 * (u / 8 + 1) + u % 8) ∨ (1 ≤ u % 8 ∧ x = 8 * (u / 8) + (u % 8 - 1)) ∨ (u % 8 + 1 < 8 ∧ x = 8 * (u / 8) + (u % 8 + 1)) := by omega
      rcases hc with ⟨c1, rfl⟩ | ⟨c1, rfl⟩ | ⟨c1, rfl⟩ | ⟨c1, rfl⟩
      · exact z10 _ (z7 _ (z4 _ (z2 c1)))
      · exact z10 _ (z7 _ (z5 c1))
      · exact z10 _ (z8 c1)
      · exact z11 c1
    have a1 := WS_60 y1
    have a2 := WS_60 y2
    have a3 := WS_60 y3
    have e0 : f_T_walks_120 (n + 1) go (nI i) M = f_T_walks_120 n go (nI (i + 1)) M4 := by
      have hik' : ¬ k ≤ i := by omega
      have hi80 : ¬ 80 ≤ i := by omega
      simp (disch := omega) only [f_T_walks_120, jp_c, decide_eq_true_eq, n_lit, n_add, n_div, n_mod, n_le, n_in, n_cl, Nat.reduceEqDiff, Nat.reduceAdd, Nat.reduceMul, ite_true, ite_false, if_true, if_false, eq_self_iff_true, ↓reduceIte, and_self, and_true, true_and, and_false, false_and, not_true_eq_false, not_false_eq_true, if_pos, if_neg, m56, hik', hi80, m60, a1, a2, a3, x1, x2, x3, x4, jg_t, Option.bind_some]
    clear x1 x2 x3 x4 y1 y2 y3 z1 z2 z3 z4 z5 z6 z7 z8 z9 z10 z11 z12 a1 a2 a3 m56 m60 w1 w2 w3 w4 hW0
    obtain ⟨st4, w4', q4', n4, E4, v1, v2, ⟨p1, p2, p3, p4, p5, p6, p7, p8, p9, p10⟩, v4⟩ := y4
    subst v4
    by_cases hend : i + 1 = n4
    · refine ⟨M4, st4, w4', E4, q4', n4, ?_, v1, v2, ?_⟩
      · rw [e0]
        obtain ⟨n, rfl⟩ : ∃ k, n = k + 1 := ⟨n - 1, by omega⟩
        have m5 := v1.2.2.1
        simp (disch := omega) only [f_T_walks_120, jp_c, decide_eq_true_eq, n_lit, n_le, Nat.reduceEqDiff, Nat.reduceAdd, Nat.reduceMul, ite_true, ite_false, if_true, if_false, eq_self_iff_true, ↓reduceIte, and_self, and_true, true_and, and_false, false_and, not_true_eq_false, not_false_eq_true, if_pos, if_neg, m5]
      · intro a ha h80 x hx g1 g2
        obtain ⟨j, j1, rfl⟩ := p7 a ha h80
        by_cases hji : j = i
        · subst hji
          exact p10 x hx (cover x hx g1) g1 g2
        · exact p9 j (by omega) x hx g1 g2
    · obtain ⟨M', st', w', E', q', k', r1, r2, r3, r4⟩ := ih (i + 1) (by omega) n (by omega) M4 (q4' (i + 1)) ⟨st4, w4', q4', n4, E4, v1, v2, ⟨p1, by omega, p3, p4, p5, fun j hj => by
          have b1 := p6 j hj
          have b2 := p5 i (i + 1) (by omega) (by omega)
          omega, p7, fun a x e => by
          left
          rcases p8 a x e with ⟨j, j1, j2⟩ | ⟨j1, -⟩
          · exact ⟨j, by omega, j2⟩
          · exact ⟨i, by omega, j1.symm⟩, fun j hj x hx g1 g2 => by
          by_cases hji : j = i
          · subst hji
            exact p10 x hx (cover x hx g1) g1 g2
          · exact p9 j (by omega) x hx g1 g2, fun x _ h => absurd h (by simp)⟩, rfl⟩
      exact ⟨M', st', w', E', q', k', by rw [e0, r1], r2, r3, r4⟩
/-- the class clears its steps -/
theorem l_w38 {A : jp_M} {a b : Nat} (ha : a / 10 < 10) (ha' : a % 10 < 8) (hal : a < 100) (hbl : b < 100) : ∀ d i, i + d = 80 → ∀ n, d < n → ∀ M, (∀ p, ¬ p = 58 → ¬ p = 59 → M p = A p) → (∀ v, v < i → M 58 v = nI 4294967295 ∧ M 59 v = nI 0) →
    ∃ M', f_T_walks_38 n (nI a) (nI b) (nI i) M = f_T_walks_120 jFu (nI (8 * (b / 10) + b % 10)) (nI 0) M' ∧ (∀ p, ¬ p = 56 → ¬ p = 58 → ¬ p = 59 → ¬ p = 60 → M' p = A p) ∧ (∀ v, v < 80 → M' 58 v = nI (eC (st0 (8 * (a / 10) + a % 10) v)) ∧ M' 59 v = nI (w0 (8 * (a / 10) + a % 10) v)) ∧ M' 56 5 = nI 1 ∧ M' 60 0 = nI (8 * (a / 10) + a % 10) := by
  intro d
  induction d with
  | zero =>
    intro i hi n hn M hM hv
    obtain ⟨n, rfl⟩ : ∃ k, n = k + 1 := ⟨n - 1, by omega⟩
    generalize hs : 8 * (a / 10) + a % 10 = s
    have hs80 : s < 80 := by omega
    refine ⟨jp_set (jp_set (jp_set (jp_set M 58 (upd (M 58) s (nI 0))) 59 (upd (M 59) s (nI 1))) 60 (upd (M 60) 0 (nI s))) 56 (upd (M 56) 5 (nI 1)), ?_, ?_, ?_, ?_, ?_⟩
    · simp (disch := omega) only [f_T_walks_38, jp_c, decide_eq_true_eq, n_lit, n_add, n_mul, n_div, n_mod, n_le, n_in, n_cl, Nat.reduceEqDiff, Nat.reduceAdd, Nat.reduceMul, ite_true, ite_false, if_true, if_false, eq_self_iff_true, ↓reduceIte, and_self, and_true, true_and, and_false, false_and, not_true_eq_false, not_false_eq_true, if_pos, if_neg, hs, jg_t, st_ap]
    · intro p p1 p2 p3 p4; rw [st_ne p1, st_ne p4, st_ne p3, st_ne p2, hM p p2 p3]
    · intro v hv'
      rw [st_ne (by decide), st_ne (by decide), st_ne (by decide), st_same, st_ne (by decide), st_ne (by decide), st_same]
      obtain ⟨v1, v2⟩ := hv v (by omega)
      by_cases hvs : v = s
      · subst hvs
        rw [ud_eq rfl, ud_eq rfl, st0_s, w0_s]; exact ⟨rfl, rfl⟩
      · rw [ud_ne hvs, ud_ne hvs, st0_n hvs, w0_n hvs, v1, v2]; exact ⟨rfl, rfl⟩
    · rw [st_same, ud_eq rfl]
    · rw [st_ne (by decide), st_same, ud_eq rfl]
  | succ d ih =>
    intro i hi n hn M hM hv
    obtain ⟨n, rfl⟩ : ∃ k, n = k + 1 := ⟨n - 1, by omega⟩
    obtain ⟨M', e1, e2⟩ := ih (i + 1) (by omega) n (by omega) (jp_set (jp_set M 58 (upd (M 58) i (nI 4294967295))) 59 (upd (M 59) i (nI 0))) (fun p p1 p2 => by rw [st_ne p2, st_ne p1, hM p p1 p2]) (by
      intro v hv'
      rw [st_ne (by decide), st_same, st_same]
      by_cases h : v = i
      · rw [ud_eq h, ud_eq h]; exact ⟨rfl, rfl⟩
      · rw [ud_ne h, ud_ne h]; exact hv v (by omega))
    refine ⟨M', ?_, e2⟩
    rw [← e1]
    simp (disch := omega) only [f_T_walks_38, jp_c, decide_eq_true_eq, n_lit, n_neg1, n_add, n_le, n_in, n_cl, Nat.reduceEqDiff, Nat.reduceAdd, Nat.reduceMul, ite_true, ite_false, if_true, if_false, eq_self_iff_true, ↓reduceIte, and_self, and_true, true_and, and_false, false_and, not_true_eq_false, not_false_eq_true, if_pos, if_neg, jg_t, st_ap]
theorem n_cellC {x : Int32} : f_C_isCell x = nI 0 ∧ f_M_isCell x = nI 0 ∨ ∃ a, a < 98 ∧ a % 10 < 8 ∧ x = nI a ∧ f_C_isCell x = nI 1 ∧ f_M_isCell x = nI 1 := by
  by_cases h0 : x < nI 0
  · left
    constructor
    · simp (disch := omega) only [f_C_isCell, jp_c, decide_eq_true_eq, n_lit, Nat.reduceEqDiff, Nat.reduceAdd, Nat.reduceMul, ite_true, ite_false, if_true, if_false, eq_self_iff_true, ↓reduceIte, and_self, and_true, true_and, and_false, false_and, not_true_eq_false, not_false_eq_true, if_pos, if_neg, h0]
    · have : ¬ (nI 0 ≤ x ∧ x ≤ nI 97) := fun e => Int32.lt_irrefl (Int32.lt_of_lt_of_le h0 e.1)
      simp (disch := omega) only [f_M_isCell, n_isIn, n_it0, jp_c, decide_eq_true_eq, n_lit, Nat.reduceEqDiff, Nat.reduceAdd, Nat.reduceMul, ite_true, ite_false, if_true, if_false, eq_self_iff_true, ↓reduceIte, and_self, and_true, true_and, and_false, false_and, not_true_eq_false, not_false_eq_true, if_pos, if_neg, this]
  · obtain ⟨a, ha, rfl⟩ := n_of (Int32.not_lt.mp h0)
    have h0' : ¬ a < 0 := by omega
    by_cases h1 : a % 10 < 8
    · have h1' : ¬ 8 ≤ a % 10 := by omega
      by_cases h2 : a ≤ 97
      · right
        have h3 : ¬ 10 ≤ a / 10 := by omega
        refine ⟨a, by omega, h1, rfl, ?_, ?_⟩
        · simp (disch := omega) only [f_C_isCell, jp_c, decide_eq_true_eq, n_lit, n_lt, n_le, n_div, n_mod, Nat.reduceEqDiff, Nat.reduceAdd, Nat.reduceMul, ite_true, ite_false, if_true, if_false, eq_self_iff_true, ↓reduceIte, and_self, and_true, true_and, and_false, false_and, not_true_eq_false, not_false_eq_true, if_pos, if_neg, h0', h3, h1']
        · simp (disch := omega) only [f_M_isCell, n_isIn, n_it0, jp_c, decide_eq_true_eq, n_lit, n_le, n_eq, n_mod, Nat.reduceEqDiff, Nat.reduceAdd, Nat.reduceMul, ite_true, ite_false, if_true, if_false, eq_self_iff_true, ↓reduceIte, and_self, and_true, true_and, and_false, false_and, not_true_eq_false, not_false_eq_true, if_pos, if_neg, Nat.zero_le, h2, h1']
      · left
        have h3 : 10 ≤ a / 10 := by omega
        constructor
        · simp (disch := omega) only [f_C_isCell, jp_c, decide_eq_true_eq, n_lit, n_lt, n_le, n_div, n_mod, Nat.reduceEqDiff, Nat.reduceAdd, Nat.reduceMul, ite_true, ite_false, if_true, if_false, eq_self_iff_true, ↓reduceIte, and_self, and_true, true_and, and_false, false_and, not_true_eq_false, not_false_eq_true, if_pos, if_neg, h0', h3]
        · simp (disch := omega) only [f_M_isCell, n_isIn, n_it0, jp_c, decide_eq_true_eq, n_lit, n_le, n_eq, n_mod, Nat.reduceEqDiff, Nat.reduceAdd, Nat.reduceMul, ite_true, ite_false, if_true, if_false, eq_self_iff_true, ↓reduceIte, and_self, and_true, true_and, and_false, false_and, not_true_eq_false, not_false_eq_true, if_pos, if_neg, Nat.zero_le, h2]
    · left
      have h1' : 8 ≤ a % 10 := by omega
      constructor
      · by_cases h3 : 10 ≤ a / 10
        · simp (disch := omega) only [f_C_isCell, jp_c, decide_eq_true_eq, n_lit, n_lt, n_le, n_div, n_mod, Nat.reduceEqDiff, Nat.reduceAdd, Nat.reduceMul, ite_true, ite_false, if_true, if_false, eq_self_iff_true, ↓reduceIte, and_self, and_true, true_and, and_false, false_and, not_true_eq_false, not_false_eq_true, if_pos, if_neg, h0', h3]
        · simp (disch := omega) only [f_C_isCell, jp_c, decide_eq_true_eq, n_lit, n_lt, n_le, n_div, n_mod, Nat.reduceEqDiff, Nat.reduceAdd, Nat.reduceMul, ite_true, ite_false, if_true, if_false, eq_self_iff_true, ↓reduceIte, and_self, and_true, true_and, and_false, false_and, not_true_eq_false, not_false_eq_true, if_pos, if_neg, h0', h3, h1']
      · by_cases h2 : a ≤ 97
        · simp (disch := omega) only [f_M_isCell, n_isIn, n_it0, jp_c, decide_eq_true_eq, n_lit, n_le, n_eq, n_mod, Nat.reduceEqDiff, Nat.reduceAdd, Nat.reduceMul, ite_true, ite_false, if_true, if_false, eq_self_iff_true, ↓reduceIte, and_self, and_true, true_and, and_false, false_and, not_true_eq_false, not_false_eq_true, if_pos, if_neg, Nat.zero_le, h2, h1']
        · simp (disch := omega) only [f_M_isCell, n_isIn, n_it0, jp_c, decide_eq_true_eq, n_lit, n_le, n_eq, n_mod, Nat.reduceEqDiff, Nat.reduceAdd, Nat.reduceMul, ite_true, ite_false, if_true, if_false, eq_self_iff_true, ↓reduceIte, and_self, and_true, true_and, and_false, false_and, not_true_eq_false, not_false_eq_true, if_pos, if_neg, Nat.zero_le, h2]
theorem p_through (a b c : Int32) {A B : jp_M} (hR : Rel A B) : pOK (f_C_through a b c A) (f_M_through a b c B) := by
  have T := Rel_told (x := nI 0) hR
  generalize hB1 : jp_set B 104 (upd (B 104) 0 (nI 0)) = B1 at T
  have hT := T
  obtain ⟨⟨hW, hBk, hLw, hPe, hLe, hCi, hWi, hKi, hPo, hWy, hVo⟩, hPic, hKe, hTa, hFa, hTh, hWd⟩ := T
  obtain ⟨U, hu⟩ := uF_rel hW
  rcases n_cellC (x := a) with ⟨a1, a2⟩ | ⟨x, hx, hx', rfl, a1, a2⟩
  · simp (disch := omega) only [f_C_through, f_M_through, hB1, jp_c, decide_eq_true_eq, n_lit, n_neg1, Nat.reduceEqDiff, Nat.reduceAdd, Nat.reduceMul, ite_true, ite_false, if_true, if_false, eq_self_iff_true, ↓reduceIte, and_self, and_true, true_and, and_false, false_and, not_true_eq_false, not_false_eq_true, if_pos, if_neg, a1, a2]
    exact pOK_mk rfl hT
  rcases n_cellC (x := b) with ⟨b1, b2⟩ | ⟨y, hy, hy', rfl, b1, b2⟩
  · simp (disch := omega) only [f_C_through, f_M_through, hB1, jp_c, decide_eq_true_eq, n_lit, n_neg1, n_eq, Nat.reduceEqDiff, Nat.reduceAdd, Nat.reduceMul, ite_true, ite_false, if_true, if_false, eq_self_iff_true, ↓reduceIte, and_self, and_true, true_and, and_false, false_and, not_true_eq_false, not_false_eq_true, if_pos, if_neg, a1, a2, b1, b2]
    exact pOK_mk rfl hT
  by_cases hc : nI 0 ≤ c ∧ c ≤ nI 1
  · obtain ⟨A1, l1, l2, l3⟩ := p_lf hu
    have fxC := p_tf (h := x % 10) (l3 (x / 10) (by omega)) (by omega) hx'
    have fyC := p_tf (h := y % 10) (l3 (y / 10) (by omega)) (by omega) hy'
    have fxM := p_isFree hu.1 hu.2.2.1 (nI (x / 10)) (x % 10)
    have fyM := p_isFree hu.1 hu.2.2.1 (nI (y / 10)) (y % 10)
    have hR1 : Rel A1 B1 := Rel_scA (fun p hp => l2 p (by rintro rfl; exact hp (by decide))) hT
    rcases Bool.eq_false_or_eq_true (fr (B1 105) U (nI (x / 10)) (x % 10)) with hfx | hfx
    · rcases Bool.eq_false_or_eq_true (fr (B1 105) U (nI (y / 10)) (y % 10)) with hfy | hfy
      · rw [hfx] at fxC fxM
        rw [hfy] at fyC fyM
        generalize hs : 8 * (x / 10) + x % 10 = s
        generalize ht : 8 * (y / 10) + y % 10 = t
        have hs80 : s < 80 := by omega
        have ht80 : t < 80 := by omega
        obtain ⟨M1, e1, e2, e3, e4, e5⟩ := l_w38 (A := A1) (a := x) (b := y) (by omega) hx' (by omega) (by omega) 80 0 (by omega) jFu (jFu_lt (by omega)) A1 (fun _ _ _ => rfl) (fun v hv => by omega)
        rw [hs] at e3 e5
        rw [ht] at e1
        obtain ⟨M2, st, w, E, q, k, w1, w2, w3, w4⟩ := l_wk (A := A1) (g := B1 105) (U := U) hs80 l3 (nI t) 80 0 (by omega) jFu (jFu_lt (by omega)) M1 s ⟨st0 s, w0 s, fun _ => s, 1, E0, ⟨e2, e3, e4, fun j hj => by
            obtain rfl : j = 0 := by omega
            exact e5⟩, BI_0, ⟨by omega, by omega, fun j hj => ⟨hs80, by rw [st0_s]; omega, by rw [st0_s]; omega⟩, fun a b ha hb _ => by omega, fun a b _ _ => Nat.le_refl _, fun j _ => Nat.le_succ _, fun v hv h => ⟨0, by omega, by
            apply Classical.byContradiction
            intro hne
            rw [st0_n (fun e => hne e.symm)] at h; omega⟩, fun a x e => (E0_n e).elim, fun j hj => by omega, fun x _ h => absurd h (by simp)⟩, rfl⟩
        obtain ⟨N2, st', w', E', r1, r2, r3, r4⟩ := p_refs hu.1 hu.2.2.1 hs80
        obtain ⟨k1, k2⟩ := BI_same w3 r3 w4 r4 ht80
        obtain ⟨g1, g2⟩ := w2.2.1 t ht80
        obtain ⟨d1, d2⟩ := r2.2 t ht80
        have cw : f_T_walks (nI x) (nI y) A = f_T_walks_234 (nI t) M2 := by
          rw [← w1, ← e1]
          simp (disch := omega) only [f_T_walks, jp_c, decide_eq_true_eq, n_lit, n_div, n_mod, n_eq, Nat.reduceEqDiff, Nat.reduceAdd, Nat.reduceMul, ite_true, ite_false, if_true, if_false, eq_self_iff_true, ↓reduceIte, and_self, and_true, true_and, and_false, false_and, not_true_eq_false, not_false_eq_true, if_pos, if_neg, l1, fxC, fyC, Option.bind_some]
        generalize hM4 : jp_set M2 56 (upd (upd (M2 56) 6 (nI (eC (st t)))) 7 (nI (w t))) = M4
        have c234 : f_T_walks_234 (nI t) M2 = some (if eC (st t) = 4294967295 then nI 0 else nI 1, M4) := by
          rw [← hM4]
          have heb : eC (st t) < 4294967296 := by
            unfold eC
            have := w3.j1 t ht80
            split <;> omega
          by_cases he : eC (st t) = 4294967295
          · simp (disch := omega) only [f_T_walks_234, jp_c, decide_eq_true_eq, n_lit, n_neg1, n_in, n_cl, n_eq, Nat.reduceEqDiff, Nat.reduceAdd, Nat.reduceMul, ite_true, ite_false, if_true, if_false, eq_self_iff_true, ↓reduceIte, and_self, and_true, true_and, and_false, false_and, not_true_eq_false, not_false_eq_true, if_pos, if_neg, g1, g2, st_st, st_ap, ud_ap, he, jg_t]
          · simp (disch := omega) only [f_T_walks_234, jp_c, decide_eq_true_eq, n_lit, n_neg1, n_in, n_cl, n_eq, Nat.reduceEqDiff, Nat.reduceAdd, Nat.reduceMul, ite_true, ite_false, if_true, if_false, eq_self_iff_true, ↓reduceIte, and_self, and_true, true_and, and_false, false_and, not_true_eq_false, not_false_eq_true, if_pos, if_neg, g1, g2, st_st, st_ap, ud_ap, he, jg_t]
        have m6 : M4 56 6 = nI (eC (st t)) := by rw [← hM4, st_same, ud_ne (by decide), ud_eq rfl]
        have m7 : M4 56 7 = nI (w t) := by rw [← hM4, st_same, ud_eq rfl]
        have hRR : Rel M4 N2 := by
          refine Rel_scA (A := A1) (fun p hp => ?_) (Rel_scB (fun p hp => r2.1 p ?_ ?_) (fun j hj => by rw [r2.1 104 (by decide) (by decide)]) hR1)
          · rw [← hM4, st_ne (by rintro rfl; exact hp (by decide))]
            exact w2.1 p (by rintro rfl; exact hp (by decide)) (by rintro rfl; exact hp (by decide)) (by rintro rfl; exact hp (by decide)) (by rintro rfl; exact hp (by decide))
          · rintro rfl; exact hp (by decide)
          · rintro rfl; exact hp (by decide)
        rcases w3.j1 t ht80 with h1000 | h80
        · have x1 : eC (st t) = 4294967295 := if_pos h1000
          have x2 : eM (st' t) = 100000000 := if_pos (by omega)
          rw [x1, if_pos rfl] at c234
          rw [x2] at d1
          have c1 : f_C_through (nI x) (nI y) c A = some (nI 4294967295, M4) := by
            simp (disch := omega) only [f_C_through, n_within, n_it0, jp_c, decide_eq_true_eq, n_lit, n_neg1, n_eq, Nat.reduceEqDiff, Nat.reduceAdd, Nat.reduceMul, ite_true, ite_false, if_true, if_false, eq_self_iff_true, ↓reduceIte, and_self, and_true, true_and, and_false, false_and, not_true_eq_false, not_false_eq_true, if_pos, if_neg, a1, b1, hc, cw, c234, Option.bind_some]
          have c2 : f_M_through (nI x) (nI y) c B = some (nI 4294967295, N2) := by
            simp (disch := omega) only [f_M_through, hB1, n_isIn, n_it0, jp_c, decide_eq_true_eq, n_lit, n_neg1, n_eq, n_div, n_mod, n_add, n_mul, n_in, n_cl, Nat.reduceEqDiff, Nat.reduceAdd, Nat.reduceMul, ite_true, ite_false, if_true, if_false, eq_self_iff_true, ↓reduceIte, and_self, and_true, true_and, and_false, false_and, not_true_eq_false, not_false_eq_true, if_pos, if_neg, a2, b2, hc, fxM, fyM, hs, ht, r1, d1, jg_t, Option.bind_some]
          rw [c1, c2]
          exact pOK_mk rfl hRR
        · have x1 : eC (st t) = st t := if_neg (by omega)
          have x2 : eM (st' t) = st t := by rw [← k1]; exact if_neg (by omega)
          have hne : ¬ st t = 4294967295 := by omega
          have hne2 : ¬ st t = 100000000 := by omega
          rw [x1, if_neg hne] at c234
          rw [x1] at m6
          rw [x2] at d1
          rw [← k2 h80] at d2
          have c1 : f_C_through (nI x) (nI y) c A = some (if c = nI 0 then nI (st t) else nI (w t), M4) := by
            by_cases hz : c = nI 0
            · subst hz
              simp (disch := omega) only [f_C_through, n_within, n_it0, jp_c, decide_eq_true_eq, n_lit, n_neg1, n_eq, n_le, Nat.reduceEqDiff, Nat.reduceAdd, Nat.reduceMul, ite_true, ite_false, if_true, if_false, eq_self_iff_true, ↓reduceIte, and_self, and_true, true_and, and_false, false_and, not_true_eq_false, not_false_eq_true, if_pos, if_neg, Nat.le_refl, Nat.zero_le, Nat.reduceLeDiff, a1, b1, cw, c234, m6, Option.bind_some]
            · simp (disch := omega) only [f_C_through, n_within, n_it0, jp_c, decide_eq_true_eq, n_lit, n_neg1, n_eq, Nat.reduceEqDiff, Nat.reduceAdd, Nat.reduceMul, ite_true, ite_false, if_true, if_false, eq_self_iff_true, ↓reduceIte, and_self, and_true, true_and, and_false, false_and, not_true_eq_false, not_false_eq_true, if_pos, if_neg, a1, b1, hc, cw, c234, hz, m7, Option.bind_some]
          have c2 : f_M_through (nI x) (nI y) c B = some (if c = nI 0 then nI (st t) else nI (w t), N2) := by
            by_cases hz : c = nI 0
            · subst hz
              simp (disch := omega) only [f_M_through, hB1, n_isIn, n_it0, jp_c, decide_eq_true_eq, n_lit, n_neg1, n_eq, n_le, n_div, n_mod, n_add, n_mul, n_in, n_cl, Nat.reduceEqDiff, Nat.reduceAdd, Nat.reduceMul, ite_true, ite_false, if_true, if_false, eq_self_iff_true, ↓reduceIte, and_self, and_true, true_and, and_false, false_and, not_true_eq_false, not_false_eq_true, if_pos, if_neg, Nat.le_refl, Nat.zero_le, Nat.reduceLeDiff, a2, b2, fxM, fyM, hs, ht, r1, d1, hne2, jg_t, Option.bind_some]
            · simp (disch := omega) only [f_M_through, hB1, n_isIn, n_it0, jp_c, decide_eq_true_eq, n_lit, n_neg1, n_eq, n_div, n_mod, n_add, n_mul, n_in, n_cl, Nat.reduceEqDiff, Nat.reduceAdd, Nat.reduceMul, ite_true, ite_false, if_true, if_false, eq_self_iff_true, ↓reduceIte, and_self, and_true, true_and, and_false, false_and, not_true_eq_false, not_false_eq_true, if_pos, if_neg, a2, b2, hc, fxM, fyM, hs, ht, r1, d1, d2, hne2, hz, jg_t, Option.bind_some]
          rw [c1, c2]
          exact pOK_mk rfl hRR
      · rw [hfx] at fxC fxM
        rw [hfy] at fyC fyM
        have c1 : f_C_through (nI x) (nI y) c A = some (nI 4294967295, A1) := by
          simp (disch := omega) only [f_C_through, f_T_walks, n_within, n_it0, jp_c, decide_eq_true_eq, n_lit, n_neg1, n_eq, n_div, n_mod, Nat.reduceEqDiff, Nat.reduceAdd, Nat.reduceMul, ite_true, ite_false, if_true, if_false, eq_self_iff_true, ↓reduceIte, and_self, and_true, true_and, and_false, false_and, not_true_eq_false, not_false_eq_true, if_pos, if_neg, a1, b1, hc, l1, fxC, fyC, Option.bind_some, Bool.false_eq_true]
        have c2 : f_M_through (nI x) (nI y) c B = some (nI 4294967295, B1) := by
          simp (disch := omega) only [f_M_through, hB1, n_isIn, n_it0, jp_c, decide_eq_true_eq, n_lit, n_neg1, n_eq, n_div, n_mod, Nat.reduceEqDiff, Nat.reduceAdd, Nat.reduceMul, ite_true, ite_false, if_true, if_false, eq_self_iff_true, ↓reduceIte, and_self, and_true, true_and, and_false, false_and, not_true_eq_false, not_false_eq_true, if_pos, if_neg, a2, b2, hc, fxM, fyM, Option.bind_some, Bool.false_eq_true]
        rw [c1, c2]
        exact pOK_mk rfl hR1
    · rw [hfx] at fxC fxM
      have c1 : f_C_through (nI x) (nI y) c A = some (nI 4294967295, A1) := by
        simp (disch := omega) only [f_C_through, f_T_walks, n_within, n_it0, jp_c, decide_eq_true_eq, n_lit, n_neg1, n_eq, n_div, n_mod, Nat.reduceEqDiff, Nat.reduceAdd, Nat.reduceMul, ite_true, ite_false, if_true, if_false, eq_self_iff_true, ↓reduceIte, and_self, and_true, true_and, and_false, false_and, not_true_eq_false, not_false_eq_true, if_pos, if_neg, a1, b1, hc, l1, fxC, Option.bind_some, Bool.false_eq_true]
      have c2 : f_M_through (nI x) (nI y) c B = some (nI 4294967295, B1) := by
        simp (disch := omega) only [f_M_through, hB1, n_isIn, n_it0, jp_c, decide_eq_true_eq, n_lit, n_neg1, n_eq, n_div, n_mod, Nat.reduceEqDiff, Nat.reduceAdd, Nat.reduceMul, ite_true, ite_false, if_true, if_false, eq_self_iff_true, ↓reduceIte, and_self, and_true, true_and, and_false, false_and, not_true_eq_false, not_false_eq_true, if_pos, if_neg, a2, b2, hc, fxM, Option.bind_some, Bool.false_eq_true]
      rw [c1, c2]
      exact pOK_mk rfl hR1
  · simp (disch := omega) only [f_C_through, f_M_through, hB1, n_within, n_isIn, n_it0, jp_c, decide_eq_true_eq, n_lit, n_neg1, n_eq, Nat.reduceEqDiff, Nat.reduceAdd, Nat.reduceMul, ite_true, ite_false, if_true, if_false, eq_self_iff_true, ↓reduceIte, and_self, and_true, true_and, and_false, false_and, not_true_eq_false, not_false_eq_true, if_pos, if_neg, a1, a2, b1, b2, hc]
    exact pOK_mk rfl hT
