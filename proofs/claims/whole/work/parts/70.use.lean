theorem cg_nC {M M' : jp_M} (h2 : M' 2 = M 2) (h4 : M' 4 = M 4) : ∀ n a b c, f_W_nestsAt_4 n a b c M' = f_W_nestsAt_4 n a b c M := by
  intro n
  induction n with
  | zero => intros; rfl
  | succ n ih => intro a b c; simp only [f_W_nestsAt_4, f_W_nestsAt_29, h2, h4, ih]
theorem cg_nM {M M' : jp_M} (h2 : M' 104 = M 104) (h4 : M' 105 = M 105) : ∀ n a b c, f_M_nestsAt_4 n a b c M' = f_M_nestsAt_4 n a b c M := by
  intro n
  induction n with
  | zero => intros; rfl
  | succ n ih => intro a b c; simp only [f_M_nestsAt_4, f_M_nestsAt_29, h2, h4, ih]
theorem cg_uC {M M' : jp_M} (h2 : M' 2 = M 2) (h5 : M' 5 = M 5) : ∀ n a b, f_W_usedCells_4 n a b M' = f_W_usedCells_4 n a b M := by
  intro n
  induction n with
  | zero => intros; rfl
  | succ n ih => intro a b; simp only [f_W_usedCells_4, h2, h5, ih]
theorem cg_uM {M M' : jp_M} (h4 : M' 105 = M 105) : ∀ n a b, f_M_usedCells_4 n a b M' = f_M_usedCells_4 n a b M := by
  intro n
  induction n with
  | zero => intros; rfl
  | succ n ih => intro a b; simp only [f_M_usedCells_4, h4, ih]
theorem cg_sC (M : jp_M) (f : Nat → Int32) : f_W_isSummer (jp_set M 12 f) = f_W_isSummer M := rfl
theorem cg_sM (M : jp_M) (f : Nat → Int32) : f_M_isSummer (jp_set M 125 f) = f_M_isSummer M := rfl
/-- the ten facts -/
def f10 (g : Nat → Int32) (a0 a1 a2 a3 a4 a5 a6 a7 a8 a9 : Int32) : Nat → Int32 := upd (upd (upd (upd (upd (upd (upd (upd (upd (upd g 0 a0) 1 a1) 2 a2) 3 a3) 4 a4) 5 a5) 6 a6) 7 a7) 8 a8) 9 a9
theorem f10_eq {g g' : Nat → Int32} {a0 a1 a2 a3 a4 a5 a6 a7 a8 a9 : Int32} : ∀ k, k < 10 → f10 g a0 a1 a2 a3 a4 a5 a6 a7 a8 a9 k = f10 g' a0 a1 a2 a3 a4 a5 a6 a7 a8 a9 k := by
  intro k hk
  have : k = 0 ∨ k = 1 ∨ k = 2 ∨ k = 3 ∨ k = 4 ∨ k = 5 ∨ k = 6 ∨ k = 7 ∨ k = 8 ∨ k = 9 := by omega
  rcases this with rfl | rfl | rfl | rfl | rfl | rfl | rfl | rfl | rfl | rfl <;> rfl
theorem k_learn0 {A : jp_M} {x : Nat} {v1 v2 : Int32} (hx : x < 10) (w1 : A 55 1 = nI x) (hn : f_W_nestsAt (A 55 3) A = some v1) (hu : f_W_usedCells A = some v2) :
    f_L_learns (nI 0) A = some (jp_set A 12 (f10 (A 12) (A 55 2) (A 55 5) (A 55 6) (A 55 3) (A 3 (5 * x)) (A 3 (5 * x + 4)) v1 (if f_W_isSummer A = nI 0 then nI 0 else nI 1) v2 (A 2 1))) := by
  have hn' : ∀ f, f_W_nestsAt (A 55 3) (jp_set A 12 f) = some v1 := fun f => by
    rw [← hn]; exact cg_nC (st_ne (by decide)) (st_ne (by decide)) _ _ _ _
  have hu' : ∀ f, f_W_usedCells (jp_set A 12 f) = some v2 := fun f => by
    rw [← hu]; exact cg_uC (st_ne (by decide)) (st_ne (by decide)) _ _ _
  by_cases hs : f_W_isSummer A = nI 0
  · simp (disch := omega) only [f_L_learns, f_L_learns_118, st_st, cg_sC, jp_c, decide_eq_true_eq, n_lit, n_neg1, n_add, n_mul, n_sub, n_div, n_mod, n_le, n_lt, n_eq, n_cl, n_in, Nat.reduceEqDiff, Nat.reduceAdd, Nat.reduceMul, ite_true, ite_false, if_true, if_false, eq_self_iff_true, ↓reduceIte, and_self, and_true, true_and, and_false, false_and, not_true_eq_false, not_false_eq_true, if_pos, if_neg, st_ap, Nat.add_zero, Nat.zero_add, jg_t, w1, hn', hu', hs, Option.bind_some, f10]
  · simp (disch := omega) only [f_L_learns, f_L_learns_118, st_st, cg_sC, jp_c, decide_eq_true_eq, n_lit, n_neg1, n_add, n_mul, n_sub, n_div, n_mod, n_le, n_lt, n_eq, n_cl, n_in, Nat.reduceEqDiff, Nat.reduceAdd, Nat.reduceMul, ite_true, ite_false, if_true, if_false, eq_self_iff_true, ↓reduceIte, and_self, and_true, true_and, and_false, false_and, not_true_eq_false, not_false_eq_true, if_pos, if_neg, st_ap, Nat.add_zero, Nat.zero_add, jg_t, w1, hn', hu', hs, Option.bind_some, f10]
theorem k_learn1 {A : jp_M} {x o : Nat} {v1 v2 : Int32} (hx : x < 10) (ho : o + 7 < 128) (w1 : A 5 (o + 1) = nI x) (hn : f_W_nestsAt (A 5 (o + 3)) A = some v1) (hu : f_W_usedCells A = some v2) :
    f_L_learns_1 (nI o) A = some (jp_set A 12 (f10 (A 12) (A 5 (o + 2)) (A 5 (o + 5)) (A 5 (o + 6)) (A 5 (o + 3)) (A 3 (5 * x)) (A 3 (5 * x + 4)) v1 (if f_W_isSummer A = nI 0 then nI 0 else nI 1) v2 (A 2 1))) := by
  have hn' : ∀ f, f_W_nestsAt (A 5 (o + 3)) (jp_set A 12 f) = some v1 := fun f => by
    rw [← hn]; exact cg_nC (st_ne (by decide)) (st_ne (by decide)) _ _ _ _
  have hu' : ∀ f, f_W_usedCells (jp_set A 12 f) = some v2 := fun f => by
    rw [← hu]; exact cg_uC (st_ne (by decide)) (st_ne (by decide)) _ _ _
  by_cases hs : f_W_isSummer A = nI 0
  · simp (disch := omega) only [f_L_learns_1, f_L_learns_1_118, st_st, cg_sC, jp_c, decide_eq_true_eq, n_lit, n_neg1, n_add, n_mul, n_sub, n_div, n_mod, n_le, n_lt, n_eq, n_cl, n_in, Nat.reduceEqDiff, Nat.reduceAdd, Nat.reduceMul, ite_true, ite_false, if_true, if_false, eq_self_iff_true, ↓reduceIte, and_self, and_true, true_and, and_false, false_and, not_true_eq_false, not_false_eq_true, if_pos, if_neg, st_ap, Nat.add_zero, Nat.zero_add, jg_t, w1, hn', hu', hs, Option.bind_some, f10]
  · simp (disch := omega) only [f_L_learns_1, f_L_learns_1_118, st_st, cg_sC, jp_c, decide_eq_true_eq, n_lit, n_neg1, n_add, n_mul, n_sub, n_div, n_mod, n_le, n_lt, n_eq, n_cl, n_in, Nat.reduceEqDiff, Nat.reduceAdd, Nat.reduceMul, ite_true, ite_false, if_true, if_false, eq_self_iff_true, ↓reduceIte, and_self, and_true, true_and, and_false, false_and, not_true_eq_false, not_false_eq_true, if_pos, if_neg, st_ap, Nat.add_zero, Nat.zero_add, jg_t, w1, hn', hu', hs, Option.bind_some, f10]
theorem k_asks {B : jp_M} {x : Nat} {v1 v2 kind roof high days : Int32} (hx : x < 10) (hn : f_M_nestsAt roof B = some v1) (hu : f_M_usedCells B = some v2) :
    f_M_asks (nI x) kind roof high days B = some (jp_set B 125 (f10 (B 125) kind high days roof (B 108 x) (B 105 (16 + x)) v1 (if f_M_isSummer B = nI 0 then nI 0 else nI 1) v2 (B 105 0))) := by
  have hn' : ∀ f, f_M_nestsAt roof (jp_set B 125 f) = some v1 := fun f => by
    rw [← hn]; exact cg_nM (st_ne (by decide)) (st_ne (by decide)) _ _ _ _
  have hu' : ∀ f, f_M_usedCells (jp_set B 125 f) = some v2 := fun f => by
    rw [← hu]; exact cg_uM (st_ne (by decide)) _ _ _
  by_cases hs : f_M_isSummer B = nI 0
  · simp (disch := omega) only [f_M_asks, f_M_asks_87, st_st, cg_sM, jp_c, decide_eq_true_eq, n_lit, n_neg1, n_add, n_mul, n_sub, n_div, n_mod, n_le, n_lt, n_eq, n_cl, n_in, Nat.reduceEqDiff, Nat.reduceAdd, Nat.reduceMul, ite_true, ite_false, if_true, if_false, eq_self_iff_true, ↓reduceIte, and_self, and_true, true_and, and_false, false_and, not_true_eq_false, not_false_eq_true, if_pos, if_neg, st_ap, Nat.add_zero, Nat.zero_add, jg_t, hn', hu', hs, Option.bind_some, f10]
  · simp (disch := omega) only [f_M_asks, f_M_asks_87, st_st, cg_sM, jp_c, decide_eq_true_eq, n_lit, n_neg1, n_add, n_mul, n_sub, n_div, n_mod, n_le, n_lt, n_eq, n_cl, n_in, Nat.reduceEqDiff, Nat.reduceAdd, Nat.reduceMul, ite_true, ite_false, if_true, if_false, eq_self_iff_true, ↓reduceIte, and_self, and_true, true_and, and_false, false_and, not_true_eq_false, not_false_eq_true, if_pos, if_neg, st_ap, Nat.add_zero, Nat.zero_add, jg_t, hn', hu', hs, Option.bind_some, f10]
/-- what the reference's law tells for a word -/
def nowM (w : Nat) (M : jp_M) : Option (Int32 × jp_M) := if w = 0 then f_M_leaveNow M else if w = 1 then f_M_rentNow M else f_M_fineNow M
theorem p_now {A B : jp_M} (hLw : rLaw (A 7) (A 8) (A 9) (A 10) (A 11) (B 114) (B 115) (B 116) (B 117) (B 118) (B 119) (B 120)) (hf : ∀ k, k < 10 → A 12 k = B 125 k) {w : Nat} (hw : w < 3) :
    ∃ v A' B', f_L_tells_18 jFu (nI w) (f_L_usual (nI w) A) (nI 0) A = some (nI v, A') ∧ nowM w B = some (nI v, B') ∧ v ≤ (if w = 0 then 1000 else 999) ∧ (∀ q, ¬ q = 13 → A' q = A q) ∧ (∀ q, ¬ q = 126 → B' q = B q) := by
  have g1 := hf 1 (by omega)
  have g2 := hf 2 (by omega)
  have g6 := hf 6 (by omega)
  obtain ⟨v, A', B', e1, e2, e3, e4, e5⟩ := p_law hLw hf hw rfl (f_L_usual (nI w) A)
  refine ⟨v, A', B', e1, ?_, e3, e4, e5⟩
  have hw' : w = 0 ∨ w = 1 ∨ w = 2 := by omega
  rcases hw' with rfl | rfl | rfl
  · simp (disch := omega) only [f_L_usual, jp_c, decide_eq_true_eq, n_lit, n_eq, Nat.reduceEqDiff, Nat.reduceAdd, Nat.reduceMul, ite_true, ite_false, if_true, if_false, eq_self_iff_true, ↓reduceIte, and_self, and_true, true_and, and_false, false_and, not_true_eq_false, not_false_eq_true, if_pos, if_neg, g1, g2, g6] at e2
    simp (disch := omega) only [nowM, f_M_leaveNow, n_lit, Nat.reduceEqDiff, Nat.reduceAdd, Nat.reduceMul, ite_true, ite_false, if_true, if_false, eq_self_iff_true, ↓reduceIte, and_self, and_true, true_and, and_false, false_and, not_true_eq_false, not_false_eq_true, if_pos, if_neg]
    rw [e2]; rfl
  · simp (disch := omega) only [f_L_usual, jp_c, decide_eq_true_eq, n_lit, n_eq, Nat.reduceEqDiff, Nat.reduceAdd, Nat.reduceMul, ite_true, ite_false, if_true, if_false, eq_self_iff_true, ↓reduceIte, and_self, and_true, true_and, and_false, false_and, not_true_eq_false, not_false_eq_true, if_pos, if_neg, g1, g2, g6] at e2
    simp (disch := omega) only [nowM, f_M_rentNow, n_lit, Nat.reduceEqDiff, Nat.reduceAdd, Nat.reduceMul, ite_true, ite_false, if_true, if_false, eq_self_iff_true, ↓reduceIte, and_self, and_true, true_and, and_false, false_and, not_true_eq_false, not_false_eq_true, if_pos, if_neg]
    rw [e2]; rfl
  · simp (disch := omega) only [f_L_usual, jp_c, decide_eq_true_eq, n_lit, n_eq, Nat.reduceEqDiff, Nat.reduceAdd, Nat.reduceMul, ite_true, ite_false, if_true, if_false, eq_self_iff_true, ↓reduceIte, and_self, and_true, true_and, and_false, false_and, not_true_eq_false, not_false_eq_true, if_pos, if_neg, g1, g2, g6] at e2
    simp (disch := omega) only [nowM, f_M_fineNow, n_lit, Nat.reduceEqDiff, Nat.reduceAdd, Nat.reduceMul, ite_true, ite_false, if_true, if_false, eq_self_iff_true, ↓reduceIte, and_self, and_true, true_and, and_false, false_and, not_true_eq_false, not_false_eq_true, if_pos, if_neg]
    rw [e2]; rfl
/-- the world's part of both -/
def rWW (A B : jp_M) : Prop := rW (A 2) (A 3) (A 4) (A 5) (B 105) (B 108) (B 109) (B 110) (B 104 6) (B 104 7)
def rLL (A B : jp_M) : Prop := rLaw (A 7) (A 8) (A 9) (A 10) (A 11) (B 114) (B 115) (B 116) (B 117) (B 118) (B 119) (B 120)
/-- what the law asks of the world -/
def tW (A B : jp_M) : Prop := (∃ S, S ≤ 10 ∧ A 2 5 = nI S ∧ B 104 7 = nI S) ∧ (∃ U, U ≤ 16 ∧ A 2 6 = nI U ∧ B 105 5 = nI U) ∧ (∀ i, i < 10 → A 4 (3 * i) = B 105 (46 + i)) ∧ (∀ j, j < 128 → A 5 j = B 105 (56 + j)) ∧ A 2 1 = B 105 0 ∧ ∀ i, i < 10 → A 3 (5 * i) = B 108 i ∧ A 3 (5 * i + 4) = B 105 (16 + i)
theorem tW_of {A B : jp_M} (h : rWW A B) : tW A B := by
  obtain ⟨⟨⟨e0, e1, e2, e3, e4, e5, e6⟩, eP, eB, eR⟩, nW⟩ := h
  obtain ⟨P, S, U, hP, hS, hU, f4, f5, f6, nP, nB, nR⟩ := nW
  exact ⟨⟨S, hS, f5, by rw [← e5, f5]⟩, ⟨U, hU, f6, by rw [← e6, f6]⟩, fun i hi => (eB i hi).1, eR, e1, fun i hi => ⟨(eP i hi).1, (eP i hi).2.2.2.2⟩⟩
theorem tW_n {A B : jp_M} (h : tW A B) (r : Int32) : ∃ v1 v2, f_W_nestsAt r A = some v1 ∧ f_M_nestsAt r B = some v1 ∧ f_W_usedCells A = some v2 ∧ f_M_usedCells B = some v2 ∧ f_W_isSummer A = f_M_isSummer B := by
  obtain ⟨⟨S, hS, f5, g5⟩, ⟨U, hU, f6, g6⟩, hB, eR, e1, -⟩ := h
  obtain ⟨v1, a1, a2⟩ := p_nests hS f5 g5 hB r
  obtain ⟨v2, b1, b2⟩ := p_used hU f6 g6 eR
  exact ⟨v1, v2, a1, a2, b1, b2, n_summer e1⟩
theorem p_tell0 {A B : jp_M} (hW : tW A B) (hL : rLL A B) {x w : Nat} (hx : x < 10) (w1 : A 55 1 = nI x) (hw : w < 3) :
    ∃ v A' B1 B', f_L_tells (nI w) (nI 0) A = some (nI v, A') ∧ f_M_asks (nI x) (A 55 2) (A 55 3) (A 55 5) (A 55 6) B = some B1 ∧ nowM w B1 = some (nI v, B') ∧ v ≤ (if w = 0 then 1000 else 999) ∧ (∀ q, ¬ q = 12 → ¬ q = 13 → A' q = A q) ∧ (∀ q, ¬ q = 125 → ¬ q = 126 → B' q = B q) := by
  obtain ⟨v1, v2, n1, n2, n3, n4, n5⟩ := tW_n hW (A 55 3)
  have k1 := k_learn0 hx w1 n1 n3
  have k2 := k_asks (kind := A 55 2) (high := A 55 5) (days := A 55 6) hx n2 n4
  have eP := hW.2.2.2.2.2 x hx
  rw [n5, eP.1, eP.2, hW.2.2.2.2.1] at k1
  generalize hA1 : jp_set A 12 _ = A1 at k1
  generalize hB1 : jp_set B 125 _ = B1 at k2
  have a : ∀ q, ¬ q = 12 → A1 q = A q := by intro q hq; rw [← hA1, st_ne hq]
  have b : ∀ q, ¬ q = 125 → B1 q = B q := by intro q hq; rw [← hB1, st_ne hq]
  obtain ⟨v, A', B', e1, e2, e3, e4, e5⟩ := p_now (A := A1) (B := B1) (by
    rw [a 7 (by decide), a 8 (by decide), a 9 (by decide), a 10 (by decide), a 11 (by decide), b 114 (by decide), b 115 (by decide), b 116 (by decide), b 117 (by decide), b 118 (by decide), b 119 (by decide), b 120 (by decide)]
    exact hL) (by
    intro k hk
    rw [← hA1, ← hB1, st_same, st_same]
    exact f10_eq k hk) hw
  refine ⟨v, A', B1, B', ?_, k2, e2, e3, fun q h1 h2 => by rw [e4 q h2, a q h1], fun q h1 h2 => by rw [e5 q h2, b q h1]⟩
  rw [f_L_tells, k1, Option.bind_some]
  exact e1
theorem p_tell1 {A B : jp_M} (hW : tW A B) (hL : rLL A B) {x o w : Nat} (hx : x < 10) (ho : o + 7 < 128) (w1 : A 5 (o + 1) = nI x) (hw : w < 3) :
    ∃ v A' B1 B', f_L_tells_1 (nI w) (nI o) A = some (nI v, A') ∧ f_M_asks (nI x) (A 5 (o + 2)) (A 5 (o + 3)) (A 5 (o + 5)) (A 5 (o + 6)) B = some B1 ∧ nowM w B1 = some (nI v, B') ∧ v ≤ (if w = 0 then 1000 else 999) ∧ (∀ q, ¬ q = 12 → ¬ q = 13 → A' q = A q) ∧ (∀ q, ¬ q = 125 → ¬ q = 126 → B' q = B q) := by
  obtain ⟨v1, v2, n1, n2, n3, n4, n5⟩ := tW_n hW (A 5 (o + 3))
  have k1 := k_learn1 hx ho w1 n1 n3
  have k2 := k_asks (kind := A 5 (o + 2)) (high := A 5 (o + 5)) (days := A 5 (o + 6)) hx n2 n4
  have eP := hW.2.2.2.2.2 x hx
  rw [n5, eP.1, eP.2, hW.2.2.2.2.1] at k1
  generalize hA1 : jp_set A 12 _ = A1 at k1
  generalize hB1 : jp_set B 125 _ = B1 at k2
  have a : ∀ q, ¬ q = 12 → A1 q = A q := by intro q hq; rw [← hA1, st_ne hq]
  have b : ∀ q, ¬ q = 125 → B1 q = B q := by intro q hq; rw [← hB1, st_ne hq]
  obtain ⟨v, A', B', e1, e2, e3, e4, e5⟩ := p_now (A := A1) (B := B1) (by
    rw [a 7 (by decide), a 8 (by decide), a 9 (by decide), a 10 (by decide), a 11 (by decide), b 114 (by decide), b 115 (by decide), b 116 (by decide), b 117 (by decide), b 118 (by decide), b 119 (by decide), b 120 (by decide)]
    exact hL) (by
    intro k hk
    rw [← hA1, ← hB1, st_same, st_same]
    exact f10_eq k hk) hw
  refine ⟨v, A', B1, B', ?_, k2, e2, e3, fun q h1 h2 => by rw [e4 q h2, a q h1], fun q h1 h2 => by rw [e5 q h2, b q h1]⟩
  rw [f_L_tells_1, k1, Option.bind_some, t1_eq]
  exact e1
theorem p_use (a b : Int32) {A B : jp_M} (hR : Rel A B) : pOK (f_C_use a b A) (f_M_use a b B) := by
  have T := Rel_told (x := nI 0) hR
  generalize hB1 : jp_set B 104 (upd (B 104) 0 (nI 0)) = B1 at T
  have hT := T
  obtain ⟨⟨hW, hBk, hLw, hPe, hLe, hCi, hWi, hKi, hPo, hWy, hVo⟩, hPic, hKe, hTa, hFa, hTh, hWd⟩ := T
  have hWW : rWW A B1 := hW
  have hLL : rLL A B1 := hLw
  obtain ⟨⟨⟨e0, e1, e2, e3, e4, e5, e6⟩, eP, eB, eR⟩, nW⟩ := hW
  obtain ⟨P, S, U, hP, hS, hU, f4, f5, f6, nP, nB, nR⟩ := nW
  have g5 : B1 105 5 = nI U := by rw [← e6, f6]
  by_cases h1 : nI 0 ≤ a ∧ a < nI U
  · obtain ⟨i, hi, rfl⟩ := n_rngl (by omega) h1
    have hiU : i ≤ U - 1 := by omega
    have hiU' : ¬ U ≤ i := by omega
    by_cases h2 : nI 0 ≤ b ∧ b ≤ nI 10
    · obtain ⟨y, -, hy, rfl⟩ := n_rng (by omega) h2.1 (by omega) h2.2
      by_cases h8 : 8 ≤ y
      · obtain ⟨x, y3, z, v, hx, -, -, -, x1, -⟩ := nR i hi
        obtain ⟨k, A', C, B', t1, t2, t3, -, t4, t5⟩ := p_tell1 (tW_of hWW) hLL (x := x) (o := 8 * i) (w := y - 8) (by omega) (by omega) x1 (by omega)
        have r1 := eR (8 * i + 1) (by omega)
        have r2 := eR (8 * i + 2) (by omega)
        have r3 := eR (8 * i + 3) (by omega)
        have r5 := eR (8 * i + 5) (by omega)
        have r6 := eR (8 * i + 6) (by omega)
        rw [show 56 + (8 * i + 1) = 56 + 8 * i + 1 by omega] at r1
        rw [show 56 + (8 * i + 2) = 56 + 8 * i + 2 by omega] at r2
        rw [show 56 + (8 * i + 3) = 56 + 8 * i + 3 by omega] at r3
        rw [show 56 + (8 * i + 5) = 56 + 8 * i + 5 by omega] at r5
        rw [show 56 + (8 * i + 6) = 56 + 8 * i + 6 by omega] at r6
        rw [← x1, r1, r2, r3, r5, r6] at t2
        have c1 : f_C_use (nI i) (nI y) A = some (nI k, A') := by
          simp (disch := omega) only [f_C_use, n_within, n_it0, jp_c, decide_eq_true_eq, n_lit, n_neg1, n_add, n_mul, n_sub, n_div, n_mod, n_le, n_lt, n_eq, n_cl, n_in, Nat.reduceEqDiff, Nat.reduceAdd, Nat.reduceMul, ite_true, ite_false, if_true, if_false, eq_self_iff_true, ↓reduceIte, and_self, and_true, true_and, and_false, false_and, not_true_eq_false, not_false_eq_true, if_pos, if_neg, f6, hiU', Nat.zero_le, hy, h8, t1, Option.bind_some]
        have c3 : f_M_asksOf (nI i) B1 = some C := by
          simp (disch := omega) only [f_M_asksOf, f_M_useAt, jp_c, decide_eq_true_eq, n_lit, n_neg1, n_add, n_mul, n_sub, n_div, n_mod, n_le, n_lt, n_eq, n_cl, n_in, Nat.reduceEqDiff, Nat.reduceAdd, Nat.reduceMul, ite_true, ite_false, if_true, if_false, eq_self_iff_true, ↓reduceIte, and_self, and_true, true_and, and_false, false_and, not_true_eq_false, not_false_eq_true, if_pos, if_neg, jg_t, t2, Option.bind_some]
        have c2 : f_M_use (nI i) (nI y) B = some (nI k, B') := by
          have hy3 : y = 8 ∨ y = 9 ∨ y = 10 := by omega
          rcases hy3 with rfl | rfl | rfl
          · have t3' : f_M_leaveNow C = some (nI k, B') := t3
            simp (disch := omega) only [f_M_use, hB1, n_isIn, n_it0, jp_c, decide_eq_true_eq, n_lit, n_neg1, n_add, n_mul, n_sub, n_div, n_mod, n_le, n_lt, n_eq, n_cl, n_in, Nat.reduceEqDiff, Nat.reduceAdd, Nat.reduceMul, ite_true, ite_false, if_true, if_false, eq_self_iff_true, ↓reduceIte, and_self, and_true, true_and, and_false, false_and, not_true_eq_false, not_false_eq_true, if_pos, if_neg, g5, Nat.zero_le, hiU, Nat.le_refl, Nat.reduceLeDiff, c3, Option.bind_some, t3']
          · have t3' : f_M_rentNow C = some (nI k, B') := t3
            simp (disch := omega) only [f_M_use, hB1, n_isIn, n_it0, jp_c, decide_eq_true_eq, n_lit, n_neg1, n_add, n_mul, n_sub, n_div, n_mod, n_le, n_lt, n_eq, n_cl, n_in, Nat.reduceEqDiff, Nat.reduceAdd, Nat.reduceMul, ite_true, ite_false, if_true, if_false, eq_self_iff_true, ↓reduceIte, and_self, and_true, true_and, and_false, false_and, not_true_eq_false, not_false_eq_true, if_pos, if_neg, g5, Nat.zero_le, hiU, Nat.le_refl, Nat.reduceLeDiff, c3, Option.bind_some, t3']
          · have t3' : f_M_fineNow C = some (nI k, B') := t3
            simp (disch := omega) only [f_M_use, hB1, n_isIn, n_it0, jp_c, decide_eq_true_eq, n_lit, n_neg1, n_add, n_mul, n_sub, n_div, n_mod, n_le, n_lt, n_eq, n_cl, n_in, Nat.reduceEqDiff, Nat.reduceAdd, Nat.reduceMul, ite_true, ite_false, if_true, if_false, eq_self_iff_true, ↓reduceIte, and_self, and_true, true_and, and_false, false_and, not_true_eq_false, not_false_eq_true, if_pos, if_neg, g5, Nat.zero_le, hiU, Nat.le_refl, Nat.reduceLeDiff, c3, Option.bind_some, t3']
        rw [c1, c2]
        refine pOK_mk rfl (Rel_scA (fun p hp => t4 p ?_ ?_) (Rel_scB (fun p hp => t5 p ?_ ?_) (fun j hj => by rw [t5 104 (by decide) (by decide)]) hT))
        · rintro rfl; exact hp (by decide)
        · rintro rfl; exact hp (by decide)
        · rintro rfl; exact hp (by decide)
        · rintro rfl; exact hp (by decide)
      · have r := eR (8 * i + y) (by omega)
        rw [show 56 + (8 * i + y) = 56 + 8 * i + y by omega] at r
        simp (disch := omega) only [f_C_use, f_M_use, hB1, f_M_useAt, n_within, n_isIn, n_it0, jp_c, decide_eq_true_eq, n_lit, n_neg1, n_add, n_mul, n_sub, n_div, n_mod, n_le, n_lt, n_eq, n_cl, n_in, Nat.reduceEqDiff, Nat.reduceAdd, Nat.reduceMul, ite_true, ite_false, if_true, if_false, eq_self_iff_true, ↓reduceIte, and_self, and_true, true_and, and_false, false_and, not_true_eq_false, not_false_eq_true, if_pos, if_neg, f6, g5, hiU, hiU', Nat.zero_le, hy, h8, jg_t]
        exact pOK_mk r hT
    · by_cases hU0 : U = 0
      · omega
      · simp (disch := omega) only [f_C_use, f_M_use, hB1, n_within, n_isIn, n_it0, jp_c, decide_eq_true_eq, n_lit, n_neg1, n_add, n_mul, n_sub, n_div, n_mod, n_le, n_lt, n_eq, n_cl, n_in, Nat.reduceEqDiff, Nat.reduceAdd, Nat.reduceMul, ite_true, ite_false, if_true, if_false, eq_self_iff_true, ↓reduceIte, and_self, and_true, true_and, and_false, false_and, not_true_eq_false, not_false_eq_true, if_pos, if_neg, f6, g5, hiU, hiU', Nat.zero_le, h2]
        exact pOK_mk rfl hT
  · have c1 : f_C_use a b A = some (nI 4294967295, A) := by
      by_cases q1 : a < nI 0
      · simp (disch := omega) only [f_C_use, jp_c, decide_eq_true_eq, n_lit, n_neg1, Nat.reduceEqDiff, Nat.reduceAdd, Nat.reduceMul, ite_true, ite_false, if_true, if_false, eq_self_iff_true, ↓reduceIte, and_self, and_true, true_and, and_false, false_and, not_true_eq_false, not_false_eq_true, if_pos, if_neg, q1]
      · have q2 : nI U ≤ a := Int32.not_lt.mp (fun h => h1 ⟨Int32.not_lt.mp q1, h⟩)
        simp (disch := omega) only [f_C_use, jp_c, decide_eq_true_eq, n_lit, n_neg1, Nat.reduceEqDiff, Nat.reduceAdd, Nat.reduceMul, ite_true, ite_false, if_true, if_false, eq_self_iff_true, ↓reduceIte, and_self, and_true, true_and, and_false, false_and, not_true_eq_false, not_false_eq_true, if_pos, if_neg, q1, f6, q2]
    have hno : ¬ (nI 0 ≤ a ∧ a ≤ nI U - nI 1) := by
      rintro ⟨q1, q2⟩
      by_cases hU0 : U = 0
      · subst hU0
        have : nI 0 - nI 1 < nI 0 := by decide
        exact Int32.lt_irrefl (Int32.lt_of_le_of_lt (Int32.le_trans q1 q2) this)
      · rw [n_sub (by omega)] at q2
        refine h1 ⟨q1, Int32.lt_of_le_of_lt q2 ?_⟩
        rw [n_lt (by omega) (by omega)]; omega
    have c2 : f_M_use a b B = some (nI 4294967295, B1) := by
      simp (disch := omega) only [f_M_use, hB1, n_isIn, n_it0, jp_c, decide_eq_true_eq, n_lit, n_neg1, Nat.reduceEqDiff, Nat.reduceAdd, Nat.reduceMul, ite_true, ite_false, if_true, if_false, eq_self_iff_true, ↓reduceIte, and_self, and_true, true_and, and_false, false_and, not_true_eq_false, not_false_eq_true, if_pos, if_neg, g5, hno]
    rw [c1, c2]
    exact pOK_mk rfl hT
