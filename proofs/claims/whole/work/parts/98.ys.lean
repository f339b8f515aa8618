/-! the other texts -/
def Fl2 (A0 B0 A B : jp_M) : Prop := A 68 7 = B 104 31 ∧ A 68 8 = B 104 32 ∧ (∀ q, q ∉ [68, 77, 78, 79] → A q = A0 q) ∧ (∀ q, q ∉ [104, 122, 123, 124] → B q = B0 q) ∧ (∀ i, i ∉ [14, 15, 16, 17, 31, 32] → B 104 i = B0 104 i) ∧
  (∀ i, i < 112 → B 122 i = B0 122 i) ∧ (∀ i, i < 10 → B 123 i = B0 123 i) ∧ (∀ i, i < 16 → B 124 i = B0 124 i)
def YS (c N : Nat) (t : Nat → Nat) (A0 B0 A B : jp_M) (p n k x : Nat) (F : List Nat) (L : Nat) : Prop := Sy c N t A B p n k x ∧ ((∀ q, q ∉ [68, 77, 78, 79] → A q = A0 q) ∧ (∀ i, i ∉ [3, 4, 5, 6] → A 68 i = A0 68 i) ∧ (∀ i, i ∉ [2, 3] → A 77 i = A0 77 i)) ∧
  ((∀ q, q ∉ [104, 122, 123, 124] → B q = B0 q) ∧ (∀ i, i ∉ [14, 15, 16, 17] → B 104 i = B0 104 i) ∧ (∀ i, i < 112 → B 122 i = B0 122 i) ∧ (∀ i, i < 10 → B 123 i = B0 123 i) ∧ (∀ i, i < 16 → B 124 i = B0 124 i)) ∧
  A 77 2 = nI F.length ∧ (∀ i, i < F.length → A 79 i = nI (F.getD i 0)) ∧ A 78 0 = nI L
def kB (B B' : jp_M) : Prop := B' 122 = B 122 ∧ B' 123 = B 123 ∧ B' 124 = B 124
theorem gd_l {F : List Nat} {v i : Nat} (h : i < F.length) : (F ++ [v]).getD i 0 = F.getD i 0 := by
  rw [List.getD_eq_getElem?_getD, List.getD_eq_getElem?_getD, List.getElem?_append_left h]
theorem gd_r {F : List Nat} {v i : Nat} (h : i = F.length) : (F ++ [v]).getD i 0 = v := by
  subst h
  rw [List.getD_eq_getElem?_getD, List.getElem?_append_right (Nat.le_refl _), Nat.sub_self]; rfl
theorem ln_s {F : List Nat} {v : Nat} : (F ++ [v]).length = F.length + 1 := by rw [List.length_append]; rfl
section
variable {c N : Nat} {t : Nat → Nat} {A0 B0 A B : jp_M} {p n k x : Nat} {F : List Nat} {L : Nat}
theorem y_adv (h : YS c N t A0 B0 A B p n k x F L) : ∃ A' B' p' n' k' x', f_R_advances (1000 + c) A = some A' ∧ f_M_reads B = some B' ∧ YS c N t A0 B0 A' B' p' n' k' x' F L ∧ kB B B' ∧ A' 77 = A 77 := by
  obtain ⟨hS, ⟨f1, f2, f3⟩, ⟨b1, b2, b3, b4, b5⟩, e1, e2, e3⟩ := h
  obtain ⟨g, h, p', n', k', x', r1, r2, r3, r4, r5, r6⟩ := sy_adv hS
  refine ⟨_, _, p', n', k', x', r1, r2, ⟨r3, ⟨?_, ?_, ?_⟩, ⟨?_, ?_, ?_, ?_, ?_⟩, ?_, ?_, ?_⟩, ⟨?_, ?_, ?_⟩, ?_⟩
  · intro q hq; rw [st_ne (nin_ne hq (by decide))]; exact f1 q hq
  · intro i hi; rw [st_same, r5 i (nin_ne hi (by decide)) (nin_ne hi (by decide)) (nin_ne hi (by decide)) (nin_ne hi (by decide))]; exact f2 i hi
  · intro i hi; rw [st_ne (by decide)]; exact f3 i hi
  · intro q hq; rw [st_ne (nin_ne hq (by decide))]; exact b1 q hq
  · intro i hi; rw [st_same, r6 i (nin_ne hi (by decide)) (nin_ne hi (by decide)) (nin_ne hi (by decide)) (nin_ne hi (by decide))]; exact b2 i hi
  · intro i hi; rw [st_ne (by decide)]; exact b3 i hi
  · intro i hi; rw [st_ne (by decide)]; exact b4 i hi
  · intro i hi; rw [st_ne (by decide)]; exact b5 i hi
  · rw [st_ne (by decide)]; exact e1
  · intro i hi; rw [st_ne (by decide)]; exact e2 i hi
  · rw [st_ne (by decide)]; exact e3
  · rw [st_ne (by decide)]
  · rw [st_ne (by decide)]
  · rw [st_ne (by decide)]
  · rw [st_ne (by decide)]
theorem y_fl (h : YS c N t A0 B0 A B p n k x F L) (e : Int32) : Fl2 A0 B0 (f_R_fails e A).2 (f_M_errs e B).2 := by
  obtain ⟨hS, ⟨f1, f2, f3⟩, ⟨b1, b2, b3, b4, b5⟩, e1, e2, e3⟩ := h
  obtain ⟨hc, hN, tA, tB, hw, a1, b13, a3, a4, b15, b14, pn, nN, kp, k4, ka, kb⟩ := hS
  refine ⟨?_, ?_, ?_, ?_, ?_, ?_, ?_, ?_⟩
  · simp only [f_R_fails, f_M_errs, st_ap, ud_ap, Nat.reduceEqDiff, Nat.reduceAdd, Nat.reduceMul, ite_true, ite_false, if_true, if_false, eq_self_iff_true, ↓reduceIte, and_self, and_true, true_and, and_false, false_and, not_true_eq_false, not_false_eq_true, if_pos, if_neg]
  · simp only [f_R_fails, f_M_errs, st_ap, ud_ap, a3, b15, Nat.reduceEqDiff, Nat.reduceAdd, Nat.reduceMul, ite_true, ite_false, if_true, if_false, eq_self_iff_true, ↓reduceIte, and_self, and_true, true_and, and_false, false_and, not_true_eq_false, not_false_eq_true, if_pos, if_neg]
  · intro q hq
    simp only [f_R_fails]
    rw [st_ne (nin_ne hq (by decide)), st_ne (nin_ne hq (by decide))]; exact f1 q hq
  · intro q hq
    simp only [f_M_errs]
    rw [st_ne (nin_ne hq (by decide)), st_ne (nin_ne hq (by decide))]; exact b1 q hq
  · intro i hi
    simp only [f_M_errs]
    rw [st_same, st_same, ud_ne (nin_ne hi (by decide)), ud_ne (nin_ne hi (by decide))]
    exact b2 i (nin_sub hi (by decide))
  · intro i hi; simp only [f_M_errs, st_ap, Nat.reduceEqDiff, Nat.reduceAdd, Nat.reduceMul, ite_true, ite_false, if_true, if_false, eq_self_iff_true, ↓reduceIte, and_self, and_true, true_and, and_false, false_and, not_true_eq_false, not_false_eq_true, if_pos, if_neg]; exact b3 i hi
  · intro i hi; simp only [f_M_errs, st_ap, Nat.reduceEqDiff, Nat.reduceAdd, Nat.reduceMul, ite_true, ite_false, if_true, if_false, eq_self_iff_true, ↓reduceIte, and_self, and_true, true_and, and_false, false_and, not_true_eq_false, not_false_eq_true, if_pos, if_neg]; exact b4 i hi
  · intro i hi; simp only [f_M_errs, st_ap, Nat.reduceEqDiff, Nat.reduceAdd, Nat.reduceMul, ite_true, ite_false, if_true, if_false, eq_self_iff_true, ↓reduceIte, and_self, and_true, true_and, and_false, false_and, not_true_eq_false, not_false_eq_true, if_pos, if_neg]; exact b5 i hi
def stOK (q j : Nat) : Prop := (q = 122 ∧ 112 ≤ j) ∨ (q = 123 ∧ 10 ≤ j) ∨ (q = 124 ∧ 16 ≤ j)
theorem y_st (h : YS c N t A0 B0 A B p n k x F L) {q j : Nat} (hq : stOK q j) (v : Int32) : YS c N t A0 B0 A (jp_set B q (upd (B q) j v)) p n k x F L := by
  obtain ⟨hS, f, ⟨b1, b2, b3, b4, b5⟩, e⟩ := h
  have e1 : ∀ r, ¬ r = 122 → ¬ r = 123 → ¬ r = 124 → jp_set B q (upd (B q) j v) r = B r := fun r h1 h2 h3 => st_ne (by unfold stOK at hq; omega)
  have e2 : ∀ r i, (r = q → i < j) → jp_set B q (upd (B q) j v) r i = B r i := by
    intro r i hi
    rw [st_ap]
    split
    · next he => rw [he, ud_ne (by have := hi he; omega)]
    · rfl
  refine ⟨?_, f, ⟨?_, ?_, ?_, ?_, ?_⟩, e⟩
  · unfold Sy at hS ⊢
    rw [e1 112 (by decide) (by decide) (by decide), e1 113 (by decide) (by decide) (by decide), e1 104 (by decide) (by decide) (by decide)]
    exact hS
  · intro r hr; rw [e1 r (nin_ne hr (by decide)) (nin_ne hr (by decide)) (nin_ne hr (by decide))]; exact b1 r hr
  · intro i hi; rw [e1 104 (by decide) (by decide) (by decide)]; exact b2 i hi
  · intro i hi; rw [e2 122 i (by unfold stOK at hq; omega)]; exact b3 i hi
  · intro i hi; rw [e2 123 i (by unfold stOK at hq; omega)]; exact b4 i hi
  · intro i hi; rw [e2 124 i (by unfold stOK at hq; omega)]; exact b5 i hi
theorem fl2_st (h : Fl2 A0 B0 A B) {q j : Nat} (hq : stOK q j) (v : Int32) : Fl2 A0 B0 A (jp_set B q (upd (B q) j v)) := by
  obtain ⟨g1, g2, g3, b1, b2, b3, b4, b5⟩ := h
  have e1 : ∀ r, ¬ r = 122 → ¬ r = 123 → ¬ r = 124 → jp_set B q (upd (B q) j v) r = B r := fun r h1 h2 h3 => st_ne (by unfold stOK at hq; omega)
  have e2 : ∀ r i, (r = q → i < j) → jp_set B q (upd (B q) j v) r i = B r i := by
    intro r i hi
    rw [st_ap]
    split
    · next he => rw [he, ud_ne (by have := hi he; omega)]
    · rfl
  refine ⟨?_, ?_, g3, ?_, ?_, ?_, ?_, ?_⟩
  · rw [e1 104 (by decide) (by decide) (by decide)]; exact g1
  · rw [e1 104 (by decide) (by decide) (by decide)]; exact g2
  · intro r hr; rw [e1 r (nin_ne hr (by decide)) (nin_ne hr (by decide)) (nin_ne hr (by decide))]; exact b1 r hr
  · intro i hi; rw [e1 104 (by decide) (by decide) (by decide)]; exact b2 i hi
  · intro i hi; rw [e2 122 i (by unfold stOK at hq; omega)]; exact b3 i hi
  · intro i hi; rw [e2 123 i (by unfold stOK at hq; omega)]; exact b4 i hi
  · intro i hi; rw [e2 124 i (by unfold stOK at hq; omega)]; exact b5 i hi
theorem y_w (h : YS c N t A0 B0 A B p n k x F L) {w : Nat} (hw : jlo c + w ≤ jhi c) (hw' : w < 100) :
    (∃ A', f_R_passesWord (nI w) (1000 + c) A = some (nI 0, A') ∧ f_M_isWord (nI (jlo c + w)) B = nI 0 ∧ Fl2 A0 B0 A' (f_M_errs (nI 1) B).2) ∨
    (∃ A' B' p' n' k' x', f_R_passesWord (nI w) (1000 + c) A = some (nI 1, A') ∧ f_M_isWord (nI (jlo c + w)) B = nI 1 ∧ f_M_reads B = some B' ∧ YS c N t A0 B0 A' B' p' n' k' x' F L ∧ kB B B' ∧ A' 77 = A 77) := by
  have iw := sy_wA h.1 (w := w) hw'
  have rw' := sy_wB h.1 (w := w) hw
  by_cases hk : k = 1 ∧ x = w
  · rw [if_pos hk] at iw rw'
    obtain ⟨A', B', p', n', k', x', r1, r2, r3, r4, r5⟩ := y_adv h
    refine Or.inr ⟨A', B', p', n', k', x', ?_, rw', r2, r3, r4, r5⟩
    simp (disch := omega) only [f_R_passesWord, jp_c, decide_eq_true_eq, n_lit, n_eq, iw, r1, Option.bind_some, Nat.reduceEqDiff, Nat.reduceAdd, Nat.reduceMul, ite_true, ite_false, if_true, if_false, eq_self_iff_true, ↓reduceIte, and_self, and_true, true_and, and_false, false_and, not_true_eq_false, not_false_eq_true, if_pos, if_neg]
  · rw [if_neg hk] at iw rw'
    refine Or.inl ⟨(f_R_fails (nI 1) A).2, ?_, rw', y_fl h _⟩
    simp (disch := omega) only [f_R_passesWord, f_R_fails, jp_c, decide_eq_true_eq, n_lit, n_eq, iw, Nat.reduceEqDiff, Nat.reduceAdd, Nat.reduceMul, ite_true, ite_false, if_true, if_false, eq_self_iff_true, ↓reduceIte, and_self, and_true, true_and, and_false, false_and, not_true_eq_false, not_false_eq_true, if_pos, if_neg]
theorem y_s (h : YS c N t A0 B0 A B p n k x F L) :
    (∃ A', f_R_passesSign (nI 59) (1000 + c) A = some (nI 0, A') ∧ f_M_isSign (nI 59) B = nI 0 ∧ Fl2 A0 B0 A' (f_M_errs (nI 1) B).2) ∨
    (∃ A' B' p' n' k' x', f_R_passesSign (nI 59) (1000 + c) A = some (nI 1, A') ∧ f_M_isSign (nI 59) B = nI 1 ∧ f_M_reads B = some B' ∧ YS c N t A0 B0 A' B' p' n' k' x' F L ∧ kB B B') := by
  have iw := sy_sA h.1 (w := 59) (by omega)
  have rw' := sy_sB h.1 (w := 59) (by omega)
  by_cases hk : k = 3 ∧ x = 59
  · rw [if_pos hk] at iw rw'
    obtain ⟨A', B', p', n', k', x', r1, r2, r3, r4, r5⟩ := y_adv h
    refine Or.inr ⟨A', B', p', n', k', x', ?_, rw', r2, r3, r4⟩
    simp (disch := omega) only [f_R_passesSign, jp_c, decide_eq_true_eq, n_lit, n_eq, iw, r1, Option.bind_some, Nat.reduceEqDiff, Nat.reduceAdd, Nat.reduceMul, ite_true, ite_false, if_true, if_false, eq_self_iff_true, ↓reduceIte, and_self, and_true, true_and, and_false, false_and, not_true_eq_false, not_false_eq_true, if_pos, if_neg]
  · rw [if_neg hk] at iw rw'
    refine Or.inl ⟨(f_R_fails (nI 1) A).2, ?_, rw', y_fl h _⟩
    simp (disch := omega) only [f_R_passesSign, f_R_fails, jp_c, decide_eq_true_eq, n_lit, n_eq, iw, Nat.reduceEqDiff, Nat.reduceAdd, Nat.reduceMul, ite_true, ite_false, if_true, if_false, eq_self_iff_true, ↓reduceIte, and_self, and_true, true_and, and_false, false_and, not_true_eq_false, not_false_eq_true, if_pos, if_neg]
theorem y_fill (h : YS c N t A0 B0 A B p n k x F L) (hF : F.length < 112) (v : Nat) (l : Int32) : YS c N t A0 B0 (jp_set (jp_set A 79 (upd (A 79) F.length (nI v))) 77 (upd (upd (A 77) 3 l) 2 (nI (F.length + 1)))) B p n k x (F ++ [v]) L := by
  obtain ⟨hS, ⟨f1, f2, f3⟩, fb, e1, e2, e3⟩ := h
  refine ⟨?_, ⟨?_, ?_, ?_⟩, fb, ?_, ?_, ?_⟩
  · unfold Sy at hS ⊢
    simp only [st_ap, Nat.reduceEqDiff, Nat.reduceAdd, Nat.reduceMul, ite_true, ite_false, if_true, if_false, eq_self_iff_true, ↓reduceIte, and_self, and_true, true_and, and_false, false_and, not_true_eq_false, not_false_eq_true, if_pos, if_neg]; exact hS
  · intro q hq; rw [st_ne (nin_ne hq (by decide)), st_ne (nin_ne hq (by decide))]; exact f1 q hq
  · intro i hi; rw [st_ne (by decide), st_ne (by decide)]; exact f2 i hi
  · intro i hi; rw [st_same, ud_ne (nin_ne hi (by decide)), ud_ne (nin_ne hi (by decide))]; exact f3 i hi
  · rw [st_same, ud_eq rfl, ln_s]
  · intro i hi
    rw [ln_s] at hi
    rw [st_ne (by decide), st_same]
    by_cases he : i = F.length
    · rw [ud_eq he, gd_r he]
    · rw [ud_ne he, gd_l (by omega)]; exact e2 i (by omega)
  · rw [st_ne (by decide), st_ne (by decide)]; exact e3
theorem y_n (h : YS c N t A0 B0 A B p n k x F L) (hF : F.length < 112) {lo H : Nat} {hi : Int32} (hlo : lo < 10000) (hhi : ∀ v, v < 10000 → (nI v ≤ hi ↔ v < H)) :
    (∃ A' B', f_IR_number (nI lo) hi (1000 + c) A = some (nI 0, A') ∧ f_M_readNumber (nI lo) hi B = some (nI 4294967295, B') ∧ Fl2 A0 B0 A' B') ∨
    (∃ A' B' p' n' k' x' v, (k = 2 ∧ x = v) ∧ f_IR_number (nI lo) hi (1000 + c) A = some (nI 1, A') ∧ f_M_readNumber (nI lo) hi B = some (nI v, B') ∧ lo ≤ v ∧ v < H ∧ v < 10000 ∧ YS c N t A0 B0 A' B' p' n' k' x' (F ++ [v]) L ∧ A' 77 3 = nI v ∧ kB B B') := by
  have h' := h
  have hx := sy_x h.1
  have hk0 := sy_k0 h.1
  obtain ⟨hS, ⟨f1, f2, f3⟩, fb, e1, e2, e3⟩ := h
  have hS' := hS
  obtain ⟨hc, hN, tA, tB, hw, a1, b13, a3, a4, b15, b14, pn, nN, kp, k4, ka, kb⟩ := hS'
  by_cases hk : k = 2
  · subst hk
    have hx9 := hx.2.1 rfl
    have v6 : A 68 6 = nI x := ka.2 (by omega) (by omega)
    have v16 : B 104 16 = nI 3 := hk0.2.1.2 rfl
    have v17 : B 104 17 = nI x := by
      rcases kb with ⟨h, -⟩ | ⟨h, -⟩ | ⟨-, -, -, h⟩ | ⟨h, -⟩ | ⟨h, -⟩
      · omega
      · omega
      · exact h
      · omega
      · omega
    have hii := hhi x hx9
    by_cases hl : x < lo
    · refine Or.inl ⟨(f_R_fails (nI 2) A).2, (f_M_errs (nI 2) B).2, ?_, ?_, y_fl h' _⟩
      · simp (disch := omega) only [f_IR_number, f_IR_number_42, f_R_fails, jp_c, decide_eq_true_eq, n_lit, n_lt, ka.1, v6, hl, Nat.reduceEqDiff, Nat.reduceAdd, Nat.reduceMul, ite_true, ite_false, if_true, if_false, eq_self_iff_true, ↓reduceIte, and_self, and_true, true_and, and_false, false_and, not_true_eq_false, not_false_eq_true, if_pos, if_neg]
      · have e : f_M_isIn (nI x) (nI lo) hi = nI 0 := by
          rw [n_isIn, if_neg]
          rintro ⟨h1, -⟩
          rw [n_le (by omega) (by omega)] at h1
          omega
        simp (disch := omega) only [f_M_readNumber, f_M_errs, jp_c, decide_eq_true_eq, n_lit, n_neg1, v16, v17, e, Nat.reduceEqDiff, Nat.reduceAdd, Nat.reduceMul, ite_true, ite_false, if_true, if_false, eq_self_iff_true, ↓reduceIte, and_self, and_true, true_and, and_false, false_and, not_true_eq_false, not_false_eq_true, if_pos, if_neg]
    · by_cases hH : x < H
      · have hi' : nI x ≤ hi := hii.2 hH
        obtain ⟨A', B', p', n', k', x', r1, r2, r3, r4, r5⟩ := y_adv (y_fill h' hF x (nI x))
        have hF' : ¬ 112 ≤ F.length := by omega
        refine Or.inr ⟨A', B', p', n', k', x', x, ⟨rfl, rfl⟩, ?_, ?_, by omega, hH, hx9, r3, ?_, r4⟩
        · simp (disch := omega) only [f_IR_number, f_IR_fills, jp_c, decide_eq_true_eq, n_lit, n_add, n_lt, n_le, n_in, n_cl, ka.1, v6, hl, hi', e1, hF', st_ap, st_st, ud_ap, jg_t, Nat.reduceEqDiff, Nat.reduceAdd, Nat.reduceMul, ite_true, ite_false, if_true, if_false, eq_self_iff_true, ↓reduceIte, and_self, and_true, true_and, and_false, false_and, not_true_eq_false, not_false_eq_true, if_pos, if_neg]
          have e9 : jp_set (jp_set (jp_set A 77 (upd (A 77) 3 (nI x))) 79 (upd (A 79) F.length (nI x))) 77 (upd (upd (A 77) 3 (nI x)) 2 (nI (F.length + 1))) = jp_set (jp_set A 79 (upd (A 79) F.length (nI x))) 77 (upd (upd (A 77) 3 (nI x)) 2 (nI (F.length + 1))) := by
            funext q
            by_cases h7 : q = 77
            · subst h7; rw [st_same, st_same]
            · by_cases h8 : q = 79
              · subst h8; simp only [st_ap, Nat.reduceEqDiff, Nat.reduceAdd, Nat.reduceMul, ite_true, ite_false, if_true, if_false, eq_self_iff_true, ↓reduceIte, and_self, and_true, true_and, and_false, false_and, not_true_eq_false, not_false_eq_true, if_pos, if_neg]
              · rw [st_ne h7, st_ne h8, st_ne h7, st_ne h7, st_ne h8]
          rw [e9, Option.bind_some, r1]
          rfl
        · have e : f_M_isIn (nI x) (nI lo) hi = nI 1 := by
            rw [n_isIn, if_pos ⟨by rw [n_le (by omega) (by omega)]; omega, hi'⟩]
          simp (disch := omega) only [f_M_readNumber, jp_c, decide_eq_true_eq, n_lit, n_eq, v16, v17, e, r2, Option.bind_some, Nat.reduceEqDiff, Nat.reduceAdd, Nat.reduceMul, ite_true, ite_false, if_true, if_false, eq_self_iff_true, ↓reduceIte, and_self, and_true, true_and, and_false, false_and, not_true_eq_false, not_false_eq_true, if_pos, if_neg]
        · rw [r5, st_same, ud_ne (by decide), ud_eq rfl]
      · have hi' : ¬ nI x ≤ hi := fun e => hH (hii.1 e)
        refine Or.inl ⟨(f_R_fails (nI 2) A).2, (f_M_errs (nI 2) B).2, ?_, ?_, y_fl h' _⟩
        · simp (disch := omega) only [f_IR_number, f_IR_number_42, f_R_fails, jp_c, decide_eq_true_eq, n_lit, n_lt, ka.1, v6, hl, hi', Nat.reduceEqDiff, Nat.reduceAdd, Nat.reduceMul, ite_true, ite_false, if_true, if_false, eq_self_iff_true, ↓reduceIte, and_self, and_true, true_and, and_false, false_and, not_true_eq_false, not_false_eq_true, if_pos, if_neg]
        · have e : f_M_isIn (nI x) (nI lo) hi = nI 0 := by
            rw [n_isIn, if_neg (fun h => hi' h.2)]
          simp (disch := omega) only [f_M_readNumber, f_M_errs, jp_c, decide_eq_true_eq, n_lit, n_neg1, v16, v17, e, Nat.reduceEqDiff, Nat.reduceAdd, Nat.reduceMul, ite_true, ite_false, if_true, if_false, eq_self_iff_true, ↓reduceIte, and_self, and_true, true_and, and_false, false_and, not_true_eq_false, not_false_eq_true, if_pos, if_neg]
  · have v16 : ¬ B 104 16 = nI 3 := fun e => hk (hk0.2.1.1 e)
    refine Or.inl ⟨(f_R_fails (nI 1) A).2, (f_M_errs (nI 1) B).2, ?_, ?_, y_fl h' _⟩
    · simp (disch := omega) only [f_IR_number, f_R_fails, jp_c, decide_eq_true_eq, n_lit, n_eq, ka.1, hk, Nat.reduceEqDiff, Nat.reduceAdd, Nat.reduceMul, ite_true, ite_false, if_true, if_false, eq_self_iff_true, ↓reduceIte, and_self, and_true, true_and, and_false, false_and, not_true_eq_false, not_false_eq_true, if_pos, if_neg]
    · simp (disch := omega) only [f_M_readNumber, f_M_errs, jp_c, decide_eq_true_eq, n_lit, n_neg1, v16, Nat.reduceEqDiff, Nat.reduceAdd, Nat.reduceMul, ite_true, ite_false, if_true, if_false, eq_self_iff_true, ↓reduceIte, and_self, and_true, true_and, and_false, false_and, not_true_eq_false, not_false_eq_true, if_pos, if_neg]
end
theorem hi_lit {h : Nat} (hh : h < 10000) : ∀ v, v < 10000 → (nI v ≤ nI h ↔ v < h + 1) := fun v hv => by
  rw [n_le (by omega) (by omega)]; omega
theorem hi_sub {P : Nat} (hh : P ≤ 10) : ∀ v, v < 10000 → (nI v ≤ nI P - nI 1 ↔ v < P) := fun v hv => by
  by_cases h0 : P = 0
  · subst h0
    have e : nI 0 - nI 1 < nI 0 := by decide
    refine ⟨fun h => ?_, fun h => absurd h (by omega)⟩
    have h1 : nI 0 ≤ nI v := by rw [n_le (by omega) (by omega)]; omega
    exact absurd (Int32.lt_of_le_of_lt (Int32.le_trans h1 h) e) (Int32.lt_irrefl)
  · rw [n_sub (by omega), n_le (by omega) (by omega)]; omega
/-- the kind of a petition -/
theorem y_k {N : Nat} {t : Nat → Nat} {A0 B0 A B : jp_M} {p n k x : Nat} {F : List Nat} {L : Nat} (h : YS 1 N t A0 B0 A B p n k x F L) (hF : F.length < 112) :
    (∃ A', f_IR_kind 1001 A = some (nI 0, A') ∧ (¬ B 104 16 = nI 2 ∨ (B 104 16 = nI 2 ∧ f_M_isIn (B 104 17) (nI 19) (nI 24) = nI 0)) ∧ Fl2 A0 B0 A' (f_M_errs (nI 1) B).2) ∨
    (∃ A1 v, v < 6 ∧ f_IR_kind 1001 A = (f_R_advances 1001 A1).bind (fun q2 => some (nI 1, q2)) ∧ B 104 16 = nI 2 ∧ f_M_isIn (B 104 17) (nI 19) (nI 24) = nI 1 ∧ B 104 17 - nI 19 = nI v ∧ YS 1 N t A0 B0 A1 B p n k x (F ++ [v]) L) := by
  have h' := h
  have hx := sy_x h.1
  obtain ⟨hS, ⟨f1, f2, f3⟩, fb, e1, e2, e3⟩ := h
  obtain ⟨hc, hN, tA, tB, hw, a1, b13, a3, a4, b15, b14, pn, nN, kp, k4, ka, kb⟩ := hS
  have j1 : jlo 1 = 17 := rfl
  have j2 : jhi 1 = 26 := rfl
  have hz : ∀ y, y < 100 → f_M_isIn (nI y) (nI 19) (nI 24) = if 19 ≤ y ∧ y ≤ 24 then nI 1 else nI 0 := by
    intro y hy
    rw [n_isIn]
    simp (disch := omega) only [n_le]
  by_cases hk : k = 1
  · subst hk
    have v6 : A 68 6 = nI x := ka.2 (by omega) (by omega)
    obtain ⟨k1, k2, k3⟩ : B 104 16 = nI 2 ∧ 17 + x ≤ 26 ∧ B 104 17 = nI (17 + x) := by
      rcases kb with ⟨h, -⟩ | ⟨-, g1, g2, g3⟩ | ⟨h, -⟩ | ⟨h, -⟩ | ⟨h, -⟩
      · omega
      · rw [j1, j2] at g2; rw [j1] at g3; exact ⟨g1, g2, g3⟩
      · omega
      · omega
      · omega
    have hzx := hz (17 + x) (by omega)
    by_cases hr : 2 ≤ x ∧ x ≤ 7
    · rw [if_pos (by omega)] at hzx
      have g1 : ¬ x < 2 := by omega
      have hF' : ¬ 112 ≤ F.length := by omega
      refine Or.inr ⟨_, x - 2, by omega, ?_, k1, by rw [k3]; exact hzx, by rw [k3, n_sub (by omega)]; congr 1; omega, y_fill h' hF (x - 2) (A 77 3)⟩
      rw [ud_self (f := A 77) (k := 3) rfl]
      simp (disch := omega) only [f_IR_kind, f_IR_fills, jp_c, decide_eq_true_eq, n_lit, n_add, n_sub, n_eq, n_lt, n_le, n_in, n_cl, ka.1, v6, g1, hr.2, e1, hF', st_ap, jg_t, Option.bind_some, Nat.reduceEqDiff, Nat.reduceAdd, Nat.reduceMul, ite_true, ite_false, if_true, if_false, eq_self_iff_true, ↓reduceIte, and_self, and_true, true_and, and_false, false_and, not_true_eq_false, not_false_eq_true, if_pos, if_neg]
    · rw [if_neg (by omega)] at hzx
      refine Or.inl ⟨(f_R_fails (nI 1) A).2, ?_, Or.inr ⟨k1, by rw [k3]; exact hzx⟩, y_fl h' _⟩
      by_cases hl : x < 2
      · simp (disch := omega) only [f_IR_kind, f_IR_kind_34, f_R_fails, jp_c, decide_eq_true_eq, n_lit, n_eq, n_lt, n_le, ka.1, v6, hl, Nat.reduceEqDiff, Nat.reduceAdd, Nat.reduceMul, ite_true, ite_false, if_true, if_false, eq_self_iff_true, ↓reduceIte, and_self, and_true, true_and, and_false, false_and, not_true_eq_false, not_false_eq_true, if_pos, if_neg]
      · have hr2 : ¬ x ≤ 7 := by omega
        simp (disch := omega) only [f_IR_kind, f_IR_kind_34, f_R_fails, jp_c, decide_eq_true_eq, n_lit, n_eq, n_lt, n_le, ka.1, v6, hl, hr2, Nat.reduceEqDiff, Nat.reduceAdd, Nat.reduceMul, ite_true, ite_false, if_true, if_false, eq_self_iff_true, ↓reduceIte, and_self, and_true, true_and, and_false, false_and, not_true_eq_false, not_false_eq_true, if_pos, if_neg]
  · refine Or.inl ⟨(f_R_fails (nI 1) A).2, ?_, ?_, y_fl h' _⟩
    · simp (disch := omega) only [f_IR_kind, f_IR_kind_34, f_R_fails, jp_c, decide_eq_true_eq, n_lit, n_eq, ka.1, hk, Nat.reduceEqDiff, Nat.reduceAdd, Nat.reduceMul, ite_true, ite_false, if_true, if_false, eq_self_iff_true, ↓reduceIte, and_self, and_true, true_and, and_false, false_and, not_true_eq_false, not_false_eq_true, if_pos, if_neg]
    · rcases kb with ⟨-, h1⟩ | ⟨h, -⟩ | ⟨-, h1, -⟩ | ⟨-, h1, -⟩ | ⟨-, h1 | ⟨h1, y, y1, y2, y3⟩⟩
      · left; rw [h1]; decide
      · omega
      · left; rw [h1]; decide
      · left; rw [h1]; decide
      · left; rw [h1]; decide
      · rw [j1, j2] at y2
        right
        refine ⟨h1, ?_⟩
        rw [y3, hz y (by omega), if_neg (by omega)]
