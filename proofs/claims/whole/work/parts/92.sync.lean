/-- both readers stand at one token -/
def Sy (c N : Nat) (t : Nat → Nat) (A B : jp_M) (p n k x : Nat) : Prop :=
  c < 4 ∧ N ≤ 400 ∧ (∀ j, j < 400 → t j < 256 ∧ A 67 j = (nI (t j)).toInt8.toInt32) ∧ (∀ j, j < 400 → t j < 256 ∧ B 112 j = nI (t j)) ∧ rWords (B 113) ∧ A 68 1 = nI N ∧ B 104 13 = nI N ∧
  A 68 3 = nI p ∧ A 68 4 = nI n ∧ B 104 15 = nI p ∧ B 104 14 = nI n ∧ p ≤ n ∧ n ≤ N ∧ ((k = 0 ∨ p < n) ∧ (k = 1 → p + 2 ≤ n)) ∧ k ≤ 4 ∧ tkA k x (A 68) ∧ tkB c k x (B 104)
theorem sy_adv {c N : Nat} {t : Nat → Nat} {A B : jp_M} {p n k x : Nat} (h : Sy c N t A B p n k x) :
    ∃ (g h : Nat → Int32) (p' n' k' x' : Nat), f_R_advances (1000 + c) A = some (jp_set A 68 g) ∧ f_M_reads B = some (jp_set B 104 h) ∧ Sy c N t (jp_set A 68 g) (jp_set B 104 h) p' n' k' x' ∧ n ≤ p' ∧
    (∀ i, ¬ i = 3 → ¬ i = 4 → ¬ i = 5 → ¬ i = 6 → g i = A 68 i) ∧ (∀ i, ¬ i = 14 → ¬ i = 15 → ¬ i = 16 → ¬ i = 17 → h i = B 104 i) := by
  obtain ⟨hc, hN, tA, tB, hw, a1, b13, a3, a4, b15, b14, pn, nN, kp, k4, ka, kb⟩ := h
  obtain ⟨g, h, p', n', k', x', r1, r2, r3, r4, r5, r6, r7, r8, r9, r10, r11, r12, r13, r14, r15⟩ := lx_adv (c := c) hc hN tA tB hw a1 b13 nN a4 b14
  refine ⟨g, h, p', n', k', x', r1, r2, ⟨hc, hN, fun j hj => ?_, fun j hj => ?_, ?_, ?_, ?_, ?_, ?_, ?_, ?_, r8, r9, r10, r11, ?_, ?_⟩, r7, r14, r15⟩
  · rw [st_ne (by decide)]; exact tA j hj
  · rw [st_ne (by decide)]; exact tB j hj
  · rw [st_ne (by decide)]; exact hw
  · rw [st_same, r14 1 (by decide) (by decide) (by decide) (by decide)]; exact a1
  · rw [st_same, r15 13 (by decide) (by decide) (by decide) (by decide)]; exact b13
  · rw [st_same]; exact r3
  · rw [st_same]; exact r4
  · rw [st_same]; exact r5
  · rw [st_same]; exact r6
  · rw [st_same]; exact r12
  · rw [st_same]; exact r13
/-- what a token's kind says of its value -/
theorem tk_x {c k x : Nat} {h : Nat → Int32} (hc : c < 4) (hb : tkB c k x h) : (k = 1 → x ≤ 30) ∧ (k = 2 → x < 10000) ∧ (k = 3 → x ≤ 62) := by
  have h30 : jhi c ≤ 30 := by unfold jhi; split <;> (try split) <;> (try split) <;> omega
  rcases hb with ⟨rfl, -⟩ | ⟨rfl, -, h1, -⟩ | ⟨rfl, -, h1, -⟩ | ⟨rfl, -, h1, -⟩ | ⟨rfl, -⟩
  · omega
  · omega
  · omega
  · have := of_decide_eq_true h1; omega
  · omega
section
variable {c N : Nat} {t : Nat → Nat} {A B : jp_M} {p n k x : Nat}
theorem sy_x (h : Sy c N t A B p n k x) : (k = 1 → x ≤ 30) ∧ (k = 2 → x < 10000) ∧ (k = 3 → x ≤ 62) := by
  obtain ⟨hc, hN, tA, tB, hw, a1, b13, a3, a4, b15, b14, pn, nN, kp, k4, ka, kb⟩ := h
  exact tk_x hc kb
theorem sy_wA (h : Sy c N t A B p n k x) {w : Nat} (hw' : w < 100) : f_R_isWord (nI w) A = if k = 1 ∧ x = w then nI 1 else nI 0 := by
  have hx := sy_x h
  obtain ⟨hc, hN, tA, tB, hw, a1, b13, a3, a4, b15, b14, pn, nN, kp, k4, ka, kb⟩ := h
  by_cases hk : k = 1
  · have h6 := ka.2 (by omega) (by omega)
    have := hx.1 hk
    by_cases hxw : x = w
    · simp (disch := omega) only [f_R_isWord, jp_c, decide_eq_true_eq, n_lit, n_eq, ka.1, h6, hk, hxw, Nat.reduceEqDiff, Nat.reduceAdd, Nat.reduceMul, ite_true, ite_false, if_true, if_false, eq_self_iff_true, ↓reduceIte, and_self, and_true, true_and, and_false, false_and, not_true_eq_false, not_false_eq_true, if_pos, if_neg]
    · simp (disch := omega) only [f_R_isWord, jp_c, decide_eq_true_eq, n_lit, n_eq, ka.1, h6, hk, hxw, Nat.reduceEqDiff, Nat.reduceAdd, Nat.reduceMul, ite_true, ite_false, if_true, if_false, eq_self_iff_true, ↓reduceIte, and_self, and_true, true_and, and_false, false_and, not_true_eq_false, not_false_eq_true, if_pos, if_neg]
  · simp (disch := omega) only [f_R_isWord, jp_c, decide_eq_true_eq, n_lit, n_eq, ka.1, hk, Nat.reduceEqDiff, Nat.reduceAdd, Nat.reduceMul, ite_true, ite_false, if_true, if_false, eq_self_iff_true, ↓reduceIte, and_self, and_true, true_and, and_false, false_and, not_true_eq_false, not_false_eq_true, if_pos, if_neg]
theorem sy_sA (h : Sy c N t A B p n k x) {w : Nat} (hw' : w < 100) : f_R_isSign (nI w) A = if k = 3 ∧ x = w then nI 1 else nI 0 := by
  have hx := sy_x h
  obtain ⟨hc, hN, tA, tB, hw, a1, b13, a3, a4, b15, b14, pn, nN, kp, k4, ka, kb⟩ := h
  by_cases hk : k = 3
  · have h6 := ka.2 (by omega) (by omega)
    have := hx.2.2 hk
    by_cases hxw : x = w
    · simp (disch := omega) only [f_R_isSign, jp_c, decide_eq_true_eq, n_lit, n_eq, ka.1, h6, hk, hxw, Nat.reduceEqDiff, Nat.reduceAdd, Nat.reduceMul, ite_true, ite_false, if_true, if_false, eq_self_iff_true, ↓reduceIte, and_self, and_true, true_and, and_false, false_and, not_true_eq_false, not_false_eq_true, if_pos, if_neg]
    · simp (disch := omega) only [f_R_isSign, jp_c, decide_eq_true_eq, n_lit, n_eq, ka.1, h6, hk, hxw, Nat.reduceEqDiff, Nat.reduceAdd, Nat.reduceMul, ite_true, ite_false, if_true, if_false, eq_self_iff_true, ↓reduceIte, and_self, and_true, true_and, and_false, false_and, not_true_eq_false, not_false_eq_true, if_pos, if_neg]
  · simp (disch := omega) only [f_R_isSign, jp_c, decide_eq_true_eq, n_lit, n_eq, ka.1, hk, Nat.reduceEqDiff, Nat.reduceAdd, Nat.reduceMul, ite_true, ite_false, if_true, if_false, eq_self_iff_true, ↓reduceIte, and_self, and_true, true_and, and_false, false_and, not_true_eq_false, not_false_eq_true, if_pos, if_neg]
/-- the reference's kind of a token -/
theorem sy_k0 (h : Sy c N t A B p n k x) : (B 104 16 = nI 0 ↔ k = 0) ∧ (B 104 16 = nI 3 ↔ k = 2) ∧ (B 104 16 = nI 4 ↔ k = 3) := by
  obtain ⟨hc, hN, tA, tB, hw, a1, b13, a3, a4, b15, b14, pn, nN, kp, k4, ka, kb⟩ := h
  rcases kb with ⟨rfl, h1⟩ | ⟨rfl, h1, -, -⟩ | ⟨rfl, h1, -, -⟩ | ⟨rfl, h1, -, -⟩ | ⟨rfl, h1 | ⟨h1, -⟩⟩ <;> rw [h1] <;> decide
theorem sy_wB (h : Sy c N t A B p n k x) {w : Nat} (hw' : jlo c + w ≤ jhi c) : f_M_isWord (nI (jlo c + w)) B = if k = 1 ∧ x = w then nI 1 else nI 0 := by
  obtain ⟨hc, hN, tA, tB, hw, a1, b13, a3, a4, b15, b14, pn, nN, kp, k4, ka, kb⟩ := h
  have h30 : jhi c ≤ 30 := by unfold jhi; split <;> (try split) <;> (try split) <;> omega
  rcases kb with ⟨rfl, h1⟩ | ⟨rfl, h1, h2, h3⟩ | ⟨rfl, h1, -, -⟩ | ⟨rfl, h1, -, -⟩ | ⟨rfl, h1 | ⟨h1, y, y1, y2, y3⟩⟩
  · simp (disch := omega) only [f_M_isWord, jp_c, decide_eq_true_eq, n_lit, n_eq, h1, Nat.reduceEqDiff, Nat.reduceAdd, Nat.reduceMul, ite_true, ite_false, if_true, if_false, eq_self_iff_true, ↓reduceIte, and_self, and_true, true_and, and_false, false_and, not_true_eq_false, not_false_eq_true, if_pos, if_neg]
  · by_cases hxw : x = w
    · simp (disch := omega) only [f_M_isWord, jp_c, decide_eq_true_eq, n_lit, n_eq, h1, h3, hxw, Nat.reduceEqDiff, Nat.reduceAdd, Nat.reduceMul, ite_true, ite_false, if_true, if_false, eq_self_iff_true, ↓reduceIte, and_self, and_true, true_and, and_false, false_and, not_true_eq_false, not_false_eq_true, if_pos, if_neg]
    · have : ¬ jlo c + x = jlo c + w := by omega
      simp (disch := omega) only [f_M_isWord, jp_c, decide_eq_true_eq, n_lit, n_eq, h1, h3, hxw, this, Nat.reduceEqDiff, Nat.reduceAdd, Nat.reduceMul, ite_true, ite_false, if_true, if_false, eq_self_iff_true, ↓reduceIte, and_self, and_true, true_and, and_false, false_and, not_true_eq_false, not_false_eq_true, if_pos, if_neg]
  · simp (disch := omega) only [f_M_isWord, jp_c, decide_eq_true_eq, n_lit, n_eq, h1, Nat.reduceEqDiff, Nat.reduceAdd, Nat.reduceMul, ite_true, ite_false, if_true, if_false, eq_self_iff_true, ↓reduceIte, and_self, and_true, true_and, and_false, false_and, not_true_eq_false, not_false_eq_true, if_pos, if_neg]
  · simp (disch := omega) only [f_M_isWord, jp_c, decide_eq_true_eq, n_lit, n_eq, h1, Nat.reduceEqDiff, Nat.reduceAdd, Nat.reduceMul, ite_true, ite_false, if_true, if_false, eq_self_iff_true, ↓reduceIte, and_self, and_true, true_and, and_false, false_and, not_true_eq_false, not_false_eq_true, if_pos, if_neg]
  · simp (disch := omega) only [f_M_isWord, jp_c, decide_eq_true_eq, n_lit, n_eq, h1, Nat.reduceEqDiff, Nat.reduceAdd, Nat.reduceMul, ite_true, ite_false, if_true, if_false, eq_self_iff_true, ↓reduceIte, and_self, and_true, true_and, and_false, false_and, not_true_eq_false, not_false_eq_true, if_pos, if_neg]
  · have : ¬ y = jlo c + w := by omega
    simp (disch := omega) only [f_M_isWord, jp_c, decide_eq_true_eq, n_lit, n_eq, h1, y3, this, Nat.reduceEqDiff, Nat.reduceAdd, Nat.reduceMul, ite_true, ite_false, if_true, if_false, eq_self_iff_true, ↓reduceIte, and_self, and_true, true_and, and_false, false_and, not_true_eq_false, not_false_eq_true, if_pos, if_neg]
theorem sy_sB (h : Sy c N t A B p n k x) {w : Nat} (hw' : w < 100) : f_M_isSign (nI w) B = if k = 3 ∧ x = w then nI 1 else nI 0 := by
  have hx := sy_x h
  have h4 := (sy_k0 h).2.2
  obtain ⟨hc, hN, tA, tB, hw, a1, b13, a3, a4, b15, b14, pn, nN, kp, k4, ka, kb⟩ := h
  by_cases hk : k = 3
  · have h6 : B 104 17 = nI x := by
      subst hk
      rcases kb with ⟨h, -⟩ | ⟨h, -⟩ | ⟨h, -⟩ | ⟨-, -, -, h⟩ | ⟨h, -⟩
      · omega
      · omega
      · omega
      · exact h
      · omega
    have := hx.2.2 hk
    have h5 := h4.2 hk
    by_cases hxw : x = w
    · simp (disch := omega) only [f_M_isSign, jp_c, decide_eq_true_eq, n_lit, n_eq, h5, h6, hk, hxw, Nat.reduceEqDiff, Nat.reduceAdd, Nat.reduceMul, ite_true, ite_false, if_true, if_false, eq_self_iff_true, ↓reduceIte, and_self, and_true, true_and, and_false, false_and, not_true_eq_false, not_false_eq_true, if_pos, if_neg]
    · simp (disch := omega) only [f_M_isSign, jp_c, decide_eq_true_eq, n_lit, n_eq, h5, h6, hk, hxw, Nat.reduceEqDiff, Nat.reduceAdd, Nat.reduceMul, ite_true, ite_false, if_true, if_false, eq_self_iff_true, ↓reduceIte, and_self, and_true, true_and, and_false, false_and, not_true_eq_false, not_false_eq_true, if_pos, if_neg]
  · have h5 : ¬ B 104 16 = nI 4 := fun h => hk (h4.1 h)
    simp (disch := omega) only [f_M_isSign, jp_c, decide_eq_true_eq, n_lit, n_eq, h5, hk, Nat.reduceEqDiff, Nat.reduceAdd, Nat.reduceMul, ite_true, ite_false, if_true, if_false, eq_self_iff_true, ↓reduceIte, and_self, and_true, true_and, and_false, false_and, not_true_eq_false, not_false_eq_true, if_pos, if_neg]
end
/-! the law's codes -/
def cdA (A : jp_M) (C : List Int32) : Prop := A 70 1 = nI C.length ∧ jsegC (A 74) 0 C
def cdB (B : jp_M) (G : List (Nat × Int32)) : Prop := B 104 27 = nI G.length ∧ jsegR (B 119) (B 120) 800 G
def xfA (A0 A : jp_M) : Prop := (∀ q, q ∉ [68, 70, 71, 72, 73, 74] → A q = A0 q) ∧ (∀ i, i ∉ [3, 4, 5, 6] → A 68 i = A0 68 i)
def xfB (B0 B : jp_M) : Prop := (∀ q, q ∉ [104, 115, 116, 117, 118, 119, 120, 121] → B q = B0 q) ∧ (∀ i, i ∉ [14, 15, 16, 17, 27, 28, 30] → B 104 i = B0 104 i) ∧
  (∀ i, i < 800 → B 119 i = B0 119 i ∧ B 120 i = B0 120 i) ∧ (∀ i, i < 32 → B 115 i = B0 115 i ∧ B 116 i = B0 116 i ∧ B 117 i = B0 117 i ∧ B 118 i = B0 118 i)
def xLS (N : Nat) (t : Nat → Nat) (A0 B0 A B : jp_M) (p n k x : Nat) (C : List Int32) (G : List (Nat × Int32)) : Prop := Sy 0 N t A B p n k x ∧ cdA A C ∧ cdB B G ∧ xfA A0 A ∧ xfB B0 B
/-- lines and what waits stay as they are -/
def kpL (A A' B B' : jp_M) : Prop := A' 71 = A 71 ∧ A' 72 = A 72 ∧ A' 73 = A 73 ∧ A' 70 0 = A 70 0 ∧ B' 115 = B 115 ∧ B' 116 = B 116 ∧ B' 117 = B 117 ∧ B' 118 = B 118
def kpO (B B' : jp_M) : Prop := B' 104 28 = B 104 28 ∧ B' 104 30 = B 104 30 ∧ B' 121 = B 121
theorem kpL_t {A A' A'' B B' B'' : jp_M} (h : kpL A A' B B') (h' : kpL A' A'' B' B'') : kpL A A'' B B'' := ⟨h'.1.trans h.1, h'.2.1.trans h.2.1, h'.2.2.1.trans h.2.2.1, h'.2.2.2.1.trans h.2.2.2.1, h'.2.2.2.2.1.trans h.2.2.2.2.1, h'.2.2.2.2.2.1.trans h.2.2.2.2.2.1, h'.2.2.2.2.2.2.1.trans h.2.2.2.2.2.2.1, h'.2.2.2.2.2.2.2.trans h.2.2.2.2.2.2.2⟩
theorem kpO_t {B B' B'' : jp_M} (h : kpO B B') (h' : kpO B' B'') : kpO B B'' := ⟨h'.1.trans h.1, h'.2.1.trans h.2.1, h'.2.2.trans h.2.2⟩
theorem kpL_r (A B : jp_M) : kpL A A B B := ⟨rfl, rfl, rfl, rfl, rfl, rfl, rfl, rfl⟩
theorem kpO_r (B : jp_M) : kpO B B := ⟨rfl, rfl, rfl⟩
def Fl (A0 B0 A B : jp_M) : Prop := A 68 7 = B 104 31 ∧ A 68 8 = B 104 32 ∧ (∀ q, q ∉ [68, 70, 71, 72, 73, 74] → A q = A0 q) ∧ (∀ q, q ∉ [104, 115, 116, 117, 118, 119, 120, 121] → B q = B0 q) ∧ (∀ i, i ∉ [14, 15, 16, 17, 27, 28, 30, 31, 32] → B 104 i = B0 104 i) ∧
  (∀ i, i < 800 → B 119 i = B0 119 i ∧ B 120 i = B0 120 i) ∧ (∀ i, i < 32 → B 115 i = B0 115 i ∧ B 116 i = B0 116 i ∧ B 117 i = B0 117 i ∧ B 118 i = B0 118 i)
theorem nin_ne {q r : Nat} {l : List Nat} (h : q ∉ l) (hr : r ∈ l) : ¬ q = r := fun e => h (e ▸ hr)
theorem segC_snoc {cd : Nat → Int32} {C : List Int32} {v : Int32} (h : jsegC cd 0 C) : jsegC (upd cd C.length v) 0 (C ++ [v]) := by
  intro k hk
  rw [List.length_append, List.length_singleton] at hk
  rw [Nat.zero_add]
  by_cases he : k = C.length
  · subst he
    rw [ud_eq rfl, List.getD_eq_getElem?_getD, List.getElem?_append_right (Nat.le_refl _), Nat.sub_self]; rfl
  · rw [ud_ne he]
    have := h k (by omega)
    rw [Nat.zero_add] at this
    rw [this, List.getD_eq_getElem?_getD, List.getD_eq_getElem?_getD, List.getElem?_append_left (by omega)]
theorem segR_snoc {op ar : Nat → Int32} {s : Nat} {G : List (Nat × Int32)} {k : Nat} {v : Int32} (h : jsegR op ar s G) : jsegR (upd op (s + G.length) (nI k)) (upd ar (s + G.length) v) s (G ++ [(k, v)]) := by
  intro i hi
  rw [List.length_append, List.length_singleton] at hi
  by_cases he : i = G.length
  · subst he
    rw [ud_eq rfl, ud_eq rfl, List.getD_eq_getElem?_getD, List.getElem?_append_right (Nat.le_refl _), Nat.sub_self]; exact ⟨rfl, rfl⟩
  · rw [ud_ne (by omega), ud_ne (by omega)]
    have := h i (by omega)
    rw [this.1, this.2, List.getD_eq_getElem?_getD, List.getD_eq_getElem?_getD, List.getElem?_append_left (by omega)]
    exact ⟨rfl, rfl⟩
section
variable {N : Nat} {t : Nat → Nat} {A0 B0 A B : jp_M} {p n k x : Nat} {C : List Int32} {G : List (Nat × Int32)}
theorem ls_adv (h : xLS N t A0 B0 A B p n k x C G) : ∃ A' B' p' n' k' x', f_R_advances 1000 A = some A' ∧ f_M_reads B = some B' ∧ xLS N t A0 B0 A' B' p' n' k' x' C G ∧ n ≤ p' ∧ kpL A A' B B' ∧ kpO B B' := by
  obtain ⟨hS, hA, hB, fA, fB⟩ := h
  obtain ⟨g, h, p', n', k', x', r1, r2, r3, r4, r5, r6⟩ := sy_adv hS
  refine ⟨_, _, p', n', k', x', r1, r2, ⟨r3, ⟨?_, ?_⟩, ⟨?_, ?_⟩, ⟨?_, ?_⟩, ⟨?_, ?_, ?_, ?_⟩⟩, r4, ⟨?_, ?_, ?_, ?_, ?_, ?_, ?_, ?_⟩, ⟨?_, ?_, ?_⟩⟩
  · rw [st_ne (by decide)]; exact hA.1
  · rw [st_ne (by decide)]; exact hA.2
  · rw [st_same, r6 27 (by decide) (by decide) (by decide) (by decide)]; exact hB.1
  · rw [st_ne (by decide), st_ne (by decide)]; exact hB.2
  · intro q hq; rw [st_ne (nin_ne hq (by decide))]; exact fA.1 q hq
  · intro i hi; rw [st_same, r5 i (nin_ne hi (by decide)) (nin_ne hi (by decide)) (nin_ne hi (by decide)) (nin_ne hi (by decide))]; exact fA.2 i hi
  · intro q hq; rw [st_ne (nin_ne hq (by decide))]; exact fB.1 q hq
  · intro i hi; rw [st_same, r6 i (nin_ne hi (by decide)) (nin_ne hi (by decide)) (nin_ne hi (by decide)) (nin_ne hi (by decide))]; exact fB.2.1 i hi
  · intro i hi; rw [st_ne (by decide), st_ne (by decide)]; exact fB.2.2.1 i hi
  · intro i hi; rw [st_ne (by decide), st_ne (by decide), st_ne (by decide), st_ne (by decide)]; exact fB.2.2.2 i hi
  · rw [st_ne (by decide)]
  · rw [st_ne (by decide)]
  · rw [st_ne (by decide)]
  · rw [st_ne (by decide)]
  · rw [st_ne (by decide)]
  · rw [st_ne (by decide)]
  · rw [st_ne (by decide)]
  · rw [st_ne (by decide)]
  · rw [st_same, r6 28 (by decide) (by decide) (by decide) (by decide)]
  · rw [st_same, r6 30 (by decide) (by decide) (by decide) (by decide)]
  · rw [st_ne (by decide)]
theorem ls_add (h : xLS N t A0 B0 A B p n k x C G) (hC : C.length < 400) {v : Nat} (hv : v < 32768) : ∃ A', f_L_adds (nI v) A = some A' ∧ xLS N t A0 B0 A' B p n k x (C ++ [nI v]) G ∧ kpL A A' B B := by
  obtain ⟨hS, hA, hB, fA, fB⟩ := h
  have h0 : ¬ 400 ≤ C.length := by omega
  refine ⟨jp_set (jp_set A 74 (upd (A 74) C.length (nI v))) 70 (upd (A 70) 1 (nI (C.length + 1))), ?_, ⟨?_, ⟨?_, ?_⟩, hB, ⟨?_, ?_⟩, fB⟩, ⟨?_, ?_, ?_, ?_, rfl, rfl, rfl, rfl⟩⟩
  · simp (disch := omega) only [f_L_adds, jp_c, decide_eq_true_eq, n_lit, n_add, n_le, n_in, n_cl, n_sh, st_ap, hA.1, h0, jg_t, Nat.reduceEqDiff, Nat.reduceAdd, Nat.reduceMul, ite_true, ite_false, if_true, if_false, eq_self_iff_true, ↓reduceIte, and_self, and_true, true_and, and_false, false_and, not_true_eq_false, not_false_eq_true, if_pos, if_neg]
  · unfold Sy at hS ⊢
    simp only [st_ap, Nat.reduceEqDiff, Nat.reduceAdd, Nat.reduceMul, ite_true, ite_false, if_true, if_false, eq_self_iff_true, ↓reduceIte, and_self, and_true, true_and, and_false, false_and, not_true_eq_false, not_false_eq_true, if_pos, if_neg]
    exact hS
  · rw [st_same, ud_eq rfl, List.length_append, List.length_singleton]
  · rw [st_ne (by decide), st_same]; exact segC_snoc hA.2
  · intro q hq; rw [st_ne (nin_ne hq (by decide)), st_ne (nin_ne hq (by decide))]; exact fA.1 q hq
  · intro i hi; rw [st_ne (by decide), st_ne (by decide)]; exact fA.2 i hi
  · rw [st_ne (by decide), st_ne (by decide)]
  · rw [st_ne (by decide), st_ne (by decide)]
  · rw [st_ne (by decide), st_ne (by decide)]
  · rw [st_same, ud_ne (by decide)]
theorem ls_emit (h : xLS N t A0 B0 A B p n k x C G) (hG : G.length < 400) {o : Nat} {v : Int32} : ∃ B', f_M_emits (nI o) v B = some B' ∧ xLS N t A0 B0 A B' p n k x C (G ++ [(o, v)]) ∧ kpL A A B B' ∧ kpO B B' := by
  obtain ⟨hS, hA, hB, fA, fB⟩ := h
  refine ⟨jp_set (jp_set (jp_set B 119 (upd (B 119) (800 + G.length) (nI o))) 120 (upd (B 120) (800 + G.length) v)) 104 (upd (B 104) 27 (nI (G.length + 1))), ?_, ⟨?_, hA, ⟨?_, ?_⟩, fA, ⟨?_, ?_, ?_, ?_⟩⟩, ⟨rfl, rfl, rfl, rfl, ?_, ?_, ?_, ?_⟩, ⟨?_, ?_, ?_⟩⟩
  · simp (disch := omega) only [f_M_emits, jp_c, decide_eq_true_eq, n_lit, n_add, n_in, n_cl, st_ap, hB.1, jg_t, Nat.reduceEqDiff, Nat.reduceAdd, Nat.reduceMul, ite_true, ite_false, if_true, if_false, eq_self_iff_true, ↓reduceIte, and_self, and_true, true_and, and_false, false_and, not_true_eq_false, not_false_eq_true, if_pos, if_neg]
  · unfold Sy at hS ⊢
    have hk : tkB 0 k x (upd (B 104) 27 (nI (G.length + 1))) = tkB 0 k x (B 104) := by
      simp only [tkB, ud_ap, Nat.reduceEqDiff, Nat.reduceAdd, Nat.reduceMul, ite_true, ite_false, if_true, if_false, eq_self_iff_true, ↓reduceIte, and_self, and_true, true_and, and_false, false_and, not_true_eq_false, not_false_eq_true, if_pos, if_neg]
    simp only [st_ap, ud_ap, Nat.reduceEqDiff, Nat.reduceAdd, Nat.reduceMul, ite_true, ite_false, if_true, if_false, eq_self_iff_true, ↓reduceIte, and_self, and_true, true_and, and_false, false_and, not_true_eq_false, not_false_eq_true, if_pos, if_neg, hk]
    exact hS
  · rw [st_same, ud_eq rfl, List.length_append, List.length_singleton]
  · rw [st_ne (by decide), st_ne (by decide), st_same, st_ne (by decide), st_same]; exact segR_snoc hB.2
  · intro q hq; rw [st_ne (nin_ne hq (by decide)), st_ne (nin_ne hq (by decide)), st_ne (nin_ne hq (by decide))]; exact fB.1 q hq
  · intro i hi; rw [st_same, ud_ne (nin_ne hi (by decide))]; exact fB.2.1 i hi
  · intro i hi
    rw [st_ne (by decide), st_ne (by decide), st_same, st_ne (by decide), st_same, ud_ne (by omega), ud_ne (by omega)]; exact fB.2.2.1 i hi
  · intro i hi
    simp only [st_ap, Nat.reduceEqDiff, Nat.reduceAdd, Nat.reduceMul, ite_true, ite_false, if_true, if_false, eq_self_iff_true, ↓reduceIte, and_self, and_true, true_and, and_false, false_and, not_true_eq_false, not_false_eq_true, if_pos, if_neg]; exact fB.2.2.2 i hi
  · simp only [st_ap, Nat.reduceEqDiff, Nat.reduceAdd, Nat.reduceMul, ite_true, ite_false, if_true, if_false, eq_self_iff_true, ↓reduceIte, and_self, and_true, true_and, and_false, false_and, not_true_eq_false, not_false_eq_true, if_pos, if_neg]
  · simp only [st_ap, Nat.reduceEqDiff, Nat.reduceAdd, Nat.reduceMul, ite_true, ite_false, if_true, if_false, eq_self_iff_true, ↓reduceIte, and_self, and_true, true_and, and_false, false_and, not_true_eq_false, not_false_eq_true, if_pos, if_neg]
  · simp only [st_ap, Nat.reduceEqDiff, Nat.reduceAdd, Nat.reduceMul, ite_true, ite_false, if_true, if_false, eq_self_iff_true, ↓reduceIte, and_self, and_true, true_and, and_false, false_and, not_true_eq_false, not_false_eq_true, if_pos, if_neg]
  · simp only [st_ap, Nat.reduceEqDiff, Nat.reduceAdd, Nat.reduceMul, ite_true, ite_false, if_true, if_false, eq_self_iff_true, ↓reduceIte, and_self, and_true, true_and, and_false, false_and, not_true_eq_false, not_false_eq_true, if_pos, if_neg]
  · simp only [st_ap, ud_ap, Nat.reduceEqDiff, Nat.reduceAdd, Nat.reduceMul, ite_true, ite_false, if_true, if_false, eq_self_iff_true, ↓reduceIte, and_self, and_true, true_and, and_false, false_and, not_true_eq_false, not_false_eq_true, if_pos, if_neg]
  · simp only [st_ap, ud_ap, Nat.reduceEqDiff, Nat.reduceAdd, Nat.reduceMul, ite_true, ite_false, if_true, if_false, eq_self_iff_true, ↓reduceIte, and_self, and_true, true_and, and_false, false_and, not_true_eq_false, not_false_eq_true, if_pos, if_neg]
  · simp only [st_ap, Nat.reduceEqDiff, Nat.reduceAdd, Nat.reduceMul, ite_true, ite_false, if_true, if_false, eq_self_iff_true, ↓reduceIte, and_self, and_true, true_and, and_false, false_and, not_true_eq_false, not_false_eq_true, if_pos, if_neg]
theorem ls_fl (h : xLS N t A0 B0 A B p n k x C G) (e : Int32) : Fl A0 B0 (f_R_fails e A).2 (f_M_errs e B).2 := by
  obtain ⟨hS, hA, hB, fA, fB⟩ := h
  obtain ⟨hc, hN, tA, tB, hw, a1, b13, a3, a4, b15, b14, pn, nN, kp, k4, ka, kb⟩ := hS
  refine ⟨?_, ?_, ?_, ?_, ?_, ?_, ?_⟩
  · simp only [f_R_fails, f_M_errs, st_ap, ud_ap, Nat.reduceEqDiff, Nat.reduceAdd, Nat.reduceMul, ite_true, ite_false, if_true, if_false, eq_self_iff_true, ↓reduceIte, and_self, and_true, true_and, and_false, false_and, not_true_eq_false, not_false_eq_true, if_pos, if_neg]
  · simp only [f_R_fails, f_M_errs, st_ap, ud_ap, a3, b15, Nat.reduceEqDiff, Nat.reduceAdd, Nat.reduceMul, ite_true, ite_false, if_true, if_false, eq_self_iff_true, ↓reduceIte, and_self, and_true, true_and, and_false, false_and, not_true_eq_false, not_false_eq_true, if_pos, if_neg]
  · intro q hq
    simp only [f_R_fails]
    rw [st_ne (nin_ne hq (by decide)), st_ne (nin_ne hq (by decide))]; exact fA.1 q hq
  · intro q hq
    simp only [f_M_errs]
    rw [st_ne (nin_ne hq (by decide)), st_ne (nin_ne hq (by decide))]; exact fB.1 q hq
  · intro i hi
    simp only [f_M_errs]
    rw [st_same, st_same, ud_ne (nin_ne hi (by decide)), ud_ne (nin_ne hi (by decide))]
    exact fB.2.1 i (fun h => hi (by revert h; simp only [List.mem_cons, List.not_mem_nil, or_false]; omega))
  · intro i hi
    simp only [f_M_errs, st_ap, Nat.reduceEqDiff, Nat.reduceAdd, Nat.reduceMul, ite_true, ite_false, if_true, if_false, eq_self_iff_true, ↓reduceIte, and_self, and_true, true_and, and_false, false_and, not_true_eq_false, not_false_eq_true, if_pos, if_neg]; exact fB.2.2.1 i hi
  · intro i hi
    simp only [f_M_errs, st_ap, Nat.reduceEqDiff, Nat.reduceAdd, Nat.reduceMul, ite_true, ite_false, if_true, if_false, eq_self_iff_true, ↓reduceIte, and_self, and_true, true_and, and_false, false_and, not_true_eq_false, not_false_eq_true, if_pos, if_neg]; exact fB.2.2.2 i hi
end
