theorem st_ap (M : jp_M) (p : Nat) (f : Nat → Int32) (q : Nat) : jp_set M p f q = if q = p then f else M q := rfl
theorem ud_ap (f : Nat → Int32) (k : Nat) (x : Int32) (j : Nat) : upd f k x j = if j = k then x else f j := rfl
theorem ud_eq {f : Nat → Int32} {k j : Nat} {x : Int32} (h : j = k) : upd f k x j = x := by simp [upd, h]
theorem jg_t {α : Type} {p : Prop} [Decidable p] {x : Option α} (h : p) : jg p x = x := if_pos h
theorem n_it0 {c : Prop} [Decidable c] : ((if c then nI 1 else nI 0) = nI 0) ↔ ¬ c := by
  by_cases h : c
  · rw [if_pos h, n_eq (by omega) (by omega)]; simp [h]
  · rw [if_neg h]; simp [h]
theorem rPic_sA {A B : jp_M} {x y : Int32} {p : Nat} {f : Nat → Int32} (hp : p < 24 ∨ 49 ≤ p) (h : rPic A x y B) : rPic (jp_set A p f) x y B := rPic_cg (fun q _ _ => st_ne (by omega)) rfl rfl rfl h
theorem rPic_sB {A B : jp_M} {x y : Int32} {p : Nat} {f : Nat → Int32} (hp : ¬ 143 = p) (h : rPic A x y B) : rPic A x y (jp_set B p f) := rPic_cg (fun q _ _ => rfl) (st_ne hp) rfl rfl h
theorem rKept_sA {A : jp_M} {p : Nat} {f : Nat → Int32} {c c' nw : Int32} {rws t h e : Nat → Int32} {pp ss ln : Int32} (hp : p < 80 ∨ 104 ≤ p) (hk : rKept A c c' nw rws t h e pp ss ln) : rKept (jp_set A p f) c c' nw rws t h e pp ss ln := rKept_cg (fun q _ _ => st_ne (by omega)) hk
/-- places of the class that hold nothing between two calls -/
def scA : List Nat := [12, 13, 50, 51, 52, 53, 55, 56, 57, 58, 59, 60, 61, 62, 63, 64, 65, 66, 69, 70, 71, 72, 73, 74, 75, 76, 77, 78, 79]
/-- the same of the reference -/
def scB : List Nat := [104, 107, 121, 125, 126, 127, 128, 134, 136, 142]
/-- fields of the reference that hold nothing between two calls -/
def scF : List Nat := [0, 14, 15, 16, 17, 26, 27, 28, 30, 31, 32, 62, 64]
theorem Rel_scA {A A' B : jp_M} (h : ∀ p, p ∉ scA → A' p = A p) (hR : Rel A B) : Rel A' B := by
  obtain ⟨⟨hW, hBk, hLw, hPe, hLe, hCi, hWi, hKi, hPo, hWy, hVo⟩, hPic, hKe, hTa, hFa, hTh, hWd⟩ := hR
  have hP : rPic A' (A 0 2) (B 104 63) B := by
    obtain ⟨h1, h2⟩ := hPic
    refine ⟨h1, h2.imp id (fun h3 => ⟨h3.1, ?_⟩)⟩
    have h4 := h3.2
    simp only [rA] at h4 ⊢
    simp (disch := decide) only [Nat.reduceAdd, h] at h4 ⊢
    exact h4
  refine ⟨⟨?_, ?_, ?_, ?_, ?_, ?_, ?_, ?_, ?_, ?_, ?_⟩, ?_, ?_, ?_, ?_, ?_, ?_⟩
  rotate_left 11
  · simp (disch := decide) only [h]; exact hP
  · simp (disch := decide) only [h]; exact rKept_cg (fun q h1 h2 => h q (by simp only [scA, List.mem_cons, List.not_mem_nil, or_false, not_or]; omega)) hKe
  all_goals (first | assumption | (simp (disch := decide) only [h]; assumption))
theorem Rel_scB {A B B' : jp_M} (h : ∀ p, p ∉ scB → B' p = B p) (hf : ∀ i, i ∉ scF → B' 104 i = B 104 i) (hR : Rel A B) : Rel A B' := by
  obtain ⟨⟨hW, hBk, hLw, hPe, hLe, hCi, hWi, hKi, hPo, hWy, hVo⟩, hPic, hKe, hTa, hFa, hTh, hWd⟩ := hR
  refine ⟨⟨?_, ?_, ?_, ?_, ?_, ?_, ?_, ?_, ?_, ?_, ?_⟩, ?_, ?_, ?_, ?_, ?_, ?_⟩
  rotate_left 11
  · simp (disch := decide) only [h, hf]; exact rPic_cg (fun q _ _ => rfl) (h 143 (by decide)) rfl rfl hPic
  all_goals (simp (disch := decide) only [h, hf]; assumption)
theorem Rel_told {A B : jp_M} {x : Int32} (hR : Rel A B) : Rel A (jp_set B 104 (upd (B 104) 0 x)) := by
  refine Rel_scB (fun p hp => st_ne ?_) (fun i hi => ?_) hR
  · rintro rfl; exact hp (by decide)
  · rw [st_same, ud_ne]; rintro rfl; exact hi (by decide)
/-- both answer, and alike, and what they hold goes on being alike -/
def pOK (o o' : Option (Int32 × jp_M)) : Prop := ∃ r A' B', o = some (r, A') ∧ o' = some (r, B') ∧ Rel A' B'
theorem pOK_mk {r r' : Int32} {A B : jp_M} (hr : r = r') (h : Rel A B) : pOK (some (r, A)) (some (r', B)) := ⟨r, A, B, rfl, by rw [hr], h⟩
def wA : List Nat := [0, 2, 3, 4, 5, 6, 12, 13, 50, 51, 52, 53, 55, 56, 57, 58, 59, 60, 61, 62, 63, 64, 65, 66, 69, 70, 71, 72, 73, 74, 75, 76, 77, 78, 79, 80, 81, 82, 83, 84, 85, 86, 87, 88, 89, 90, 91, 92, 93, 94, 95, 96, 97, 98, 99, 100, 101, 102, 103]
def wBB : List Nat := [104, 105, 106, 107, 108, 109, 110, 111, 121, 125, 126, 127, 128, 134, 136, 142]
def wF : List Nat := [0, 3, 6, 7, 14, 15, 16, 17, 26, 27, 28, 30, 31, 32, 62, 64]
/-- the world, the book and what is kept have changed, no more -/
theorem Rel_w {A A' B B' : jp_M} (hR : Rel A B) (hA : ∀ p, p ∉ wA → A' p = A p) (hA0 : ∀ i, i ∉ [4, 5] → A' 0 i = A 0 i) (hB : ∀ p, p ∉ wBB → B' p = B p) (hB0 : ∀ i, i ∉ wF → B' 104 i = B 104 i)
    (h1 : rW (A' 2) (A' 3) (A' 4) (A' 5) (B' 105) (B' 108) (B' 109) (B' 110) (B' 104 6) (B' 104 7)) (h2 : rBook (A' 2 7) (B' 105 2) (A' 6) (B' 111)) (h3 : rPet (A' 2 4) (A 14 0) (B 104 35) (A 15) (B 122))
    (h4 : rKept A' (A' 0 4) (B' 104 3) (A' 0 5) (B' 106) (B' 108) (B' 109) (B' 110) (B' 104 6) (B' 104 7) (A' 2 7)) : Rel A' B' := by
  obtain ⟨⟨hW, hBk, hLw, hPe, hLe, hCi, hWi, hKi, hPo, hWy, hVo⟩, hPic, hKe, hTa, hFa, hTh, hWd⟩ := hR
  refine ⟨⟨h1, h2, ?_, ?_, ?_, ?_, ?_, ?_, ?_, ?_, ?_⟩, ?_, h4, ?_, ?_, ?_, ?_⟩
  all_goals (simp (disch := decide) only [hA, hA0, hB, hB0])
  all_goals first | assumption | skip
  exact rPic_cg (fun q h1 h2 => hA q (by simp only [wA, List.mem_cons, List.not_mem_nil, or_false, not_or]; omega)) (hB 143 (by decide)) rfl rfl hPic
theorem p_state (a : Int32) {A B : jp_M} (hR : Rel A B) : pOK (some (f_C_state a A)) (some (f_M_state a B)) := by
  have hR' := hR
  obtain ⟨⟨hW, hBk, hLw, hPe, hLe, hCi, hWi, hKi, hPo, hWy, hVo⟩, hPic, hKe, hTa, hFa, hTh, hWd⟩ := hR
  have hN := rKept_nw hKe
  simp only [f_C_state, f_M_state, f_C_forgetKept]
  refine pOK_mk ?_ ?_
  · simp only [st_ap, ud_ap, Nat.reduceEqDiff, Nat.reduceAdd, Nat.reduceMul, ite_true, ite_false, if_true, if_false, eq_self_iff_true, ↓reduceIte, and_self, and_true, true_and, and_false, false_and, not_true_eq_false, not_false_eq_true, if_pos, if_neg]; exact hW.1.1.1
  · refine Rel_w hR' ?_ ?_ ?_ ?_ ?_ ?_ ?_ ?_
    · (intro p hp; simp only [wA, wBB, wF, scA, scB, scF, List.mem_cons, List.not_mem_nil, or_false, not_or] at hp; simp only [st_ap, ud_ap, hp, Nat.reduceEqDiff, ite_false, if_false, ite_true, if_true, reduceIte])
    · (intro p hp; simp only [wA, wBB, wF, scA, scB, scF, List.mem_cons, List.not_mem_nil, or_false, not_or] at hp; simp only [st_ap, ud_ap, hp, Nat.reduceEqDiff, ite_false, if_false, ite_true, if_true, reduceIte])
    · (intro p hp; simp only [wA, wBB, wF, scA, scB, scF, List.mem_cons, List.not_mem_nil, or_false, not_or] at hp; simp only [st_ap, ud_ap, hp, Nat.reduceEqDiff, ite_false, if_false, ite_true, if_true, reduceIte])
    · (intro p hp; simp only [wA, wBB, wF, scA, scB, scF, List.mem_cons, List.not_mem_nil, or_false, not_or] at hp; simp only [st_ap, ud_ap, hp, Nat.reduceEqDiff, ite_false, if_false, ite_true, if_true, reduceIte])
    · simp only [st_ap, ud_ap, Nat.reduceEqDiff, Nat.reduceAdd, Nat.reduceMul, ite_true, ite_false, if_true, if_false, eq_self_iff_true, ↓reduceIte, and_self, and_true, true_and, and_false, false_and, not_true_eq_false, not_false_eq_true, if_pos, if_neg]
      obtain ⟨⟨⟨e0, e1, e2, e3, e4, e5, e6⟩, eP, eB, eR⟩, nW⟩ := hW
      refine ⟨⟨⟨?_, ?_, ?_, ?_, ?_, ?_, ?_⟩, fun i hi => ?_, fun i hi => ?_, fun i hi => ?_⟩, ?_⟩
      all_goals try simp (disch := omega) only [ud_ne, ud_eq]
      all_goals first | assumption | skip
      · exact eP i hi
      · exact eB i hi
      · exact eR i hi
    · simp only [st_ap, ud_ap, Nat.reduceEqDiff, Nat.reduceAdd, Nat.reduceMul, ite_true, ite_false, if_true, if_false, eq_self_iff_true, ↓reduceIte, and_self, and_true, true_and, and_false, false_and, not_true_eq_false, not_false_eq_true, if_pos, if_neg]; exact hBk
    · simp only [st_ap, ud_ap, Nat.reduceEqDiff, Nat.reduceAdd, Nat.reduceMul, ite_true, ite_false, if_true, if_false, eq_self_iff_true, ↓reduceIte, and_self, and_true, true_and, and_false, false_and, not_true_eq_false, not_false_eq_true, if_pos, if_neg]; exact hPe
    · simp only [st_ap, ud_ap, Nat.reduceEqDiff, Nat.reduceAdd, Nat.reduceMul, ite_true, ite_false, if_true, if_false, eq_self_iff_true, ↓reduceIte, and_self, and_true, true_and, and_false, false_and, not_true_eq_false, not_false_eq_true, if_pos, if_neg]; exact rKept_0 hN
theorem p_person (a b c : Int32) {A B : jp_M} (hR : Rel A B) : pOK (f_C_person a b c A) (f_M_person a b c B) := by
  have hR' := hR
  obtain ⟨⟨hW, hBk, hLw, hPe, hLe, hCi, hWi, hKi, hPo, hWy, hVo⟩, hPic, hKe, hTa, hFa, hTh, hWd⟩ := hR
  have hN := rKept_nw hKe
  obtain ⟨⟨⟨e0, e1, e2, e3, e4, e5, e6⟩, eP, eB, eR⟩, nW⟩ := hW
  obtain ⟨P, S, U, hP, hS, hU, f4, f5, f6, nP, nB, nR⟩ := nW
  have g6 : B 104 6 = nI P := by rw [← e4, f4]
  by_cases h4 : P = 10
  · have : pOK (some (nI 4294967295, A)) (some (nI 4294967295, jp_set B 104 (upd (B 104) 0 0))) := pOK_mk rfl (Rel_told hR')
    by_cases h1 : nI 0 ≤ a ∧ a ≤ nI 7 <;> by_cases h2 : nI 0 ≤ b ∧ b ≤ nI 9 <;> by_cases h3 : nI 0 ≤ c ∧ c ≤ nI 9999 <;>
    simp (disch := omega) only [f_C_person, f_M_person, n_within, n_isIn, n_it0, jp_c, decide_eq_true_eq, n_lit, n_neg1, n_add, n_mul, n_sub, n_div, n_mod, n_le, n_lt, n_eq, n_cl, n_in, st_ap, ud_ap, Nat.reduceEqDiff, Nat.reduceAdd, Nat.reduceMul, ite_true, ite_false, if_true, if_false, eq_self_iff_true, ↓reduceIte, and_self, and_true, true_and, and_false, false_and, not_true_eq_false, not_false_eq_true, if_pos, if_neg, f4, g6, h1, h2, h3, h4] <;> exact this
  · by_cases h1 : nI 0 ≤ a ∧ a ≤ nI 7
    · by_cases h2 : nI 0 ≤ b ∧ b ≤ nI 9
      · by_cases h3 : nI 0 ≤ c ∧ c ≤ nI 9999
        · simp (disch := omega) only [f_C_person, f_M_person, f_C_forgetKept, n_within, n_isIn, n_it0, jp_c, decide_eq_true_eq, n_lit, n_neg1, n_add, n_mul, n_sub, n_div, n_mod, n_le, n_lt, n_eq, n_cl, n_in, st_ap, ud_ap, Nat.reduceEqDiff, Nat.reduceAdd, Nat.reduceMul, ite_true, ite_false, if_true, if_false, eq_self_iff_true, ↓reduceIte, and_self, and_true, true_and, and_false, false_and, not_true_eq_false, not_false_eq_true, if_pos, if_neg, f4, g6, h1, h2, h3, h4, jg_t]
          obtain ⟨x, -, hx, rfl⟩ := n_rng (by omega) h1.1 (by omega) h1.2
          obtain ⟨y, -, hy, rfl⟩ := n_rng (by omega) h2.1 (by omega) h2.2
          refine pOK_mk rfl ?_
          refine Rel_w hR' ?_ ?_ ?_ ?_ ?_ ?_ ?_ ?_
          · (intro p hp; simp only [wA, wBB, wF, scA, scB, scF, List.mem_cons, List.not_mem_nil, or_false, not_or] at hp; simp only [st_ap, ud_ap, hp, Nat.reduceEqDiff, ite_false, if_false, ite_true, if_true, reduceIte])
          · (intro p hp; simp only [wA, wBB, wF, scA, scB, scF, List.mem_cons, List.not_mem_nil, or_false, not_or] at hp; simp only [st_ap, ud_ap, hp, Nat.reduceEqDiff, ite_false, if_false, ite_true, if_true, reduceIte])
          · (intro p hp; simp only [wA, wBB, wF, scA, scB, scF, List.mem_cons, List.not_mem_nil, or_false, not_or] at hp; simp only [st_ap, ud_ap, hp, Nat.reduceEqDiff, ite_false, if_false, ite_true, if_true, reduceIte])
          · (intro p hp; simp only [wA, wBB, wF, scA, scB, scF, List.mem_cons, List.not_mem_nil, or_false, not_or] at hp; simp only [st_ap, ud_ap, hp, Nat.reduceEqDiff, ite_false, if_false, ite_true, if_true, reduceIte])
          · simp only [st_ap, ud_ap, Nat.reduceEqDiff, Nat.reduceAdd, Nat.reduceMul, ite_true, ite_false, if_true, if_false, eq_self_iff_true, ↓reduceIte, and_self, and_true, true_and, and_false, false_and, not_true_eq_false, not_false_eq_true, if_pos, if_neg]
            refine ⟨⟨⟨?_, ?_, ?_, ?_, ?_, ?_, ?_⟩, fun i hi => ?_, fun i hi => ?_, fun i hi => ?_⟩, ?_⟩
            all_goals try simp (disch := omega) only [ud_ne, ud_eq]
            all_goals first | assumption | skip
            · by_cases hi' : i = P
              · subst hi'
                simp (disch := omega) only [ud_ne, ud_eq, and_self]
              · simp (disch := omega) only [ud_ne, ud_eq]
                exact eP i hi
            · exact eB i hi
            · exact eR i hi
            · refine ⟨P + 1, S, U, by omega, hS, hU, ?_, ?_, ?_, fun i hi => ?_, nB, fun i hi => ?_⟩
              · simp (disch := omega) only [ud_ne, ud_eq]
              · simp (disch := omega) only [ud_ne, ud_eq, f5]
              · simp (disch := omega) only [ud_ne, ud_eq, f6]
              · by_cases hi' : i = P
                · subst hi'
                  refine ⟨x, y, 0, hx, hy, by omega, ?_, ?_, ?_⟩ <;> simp (disch := omega) only [ud_ne, ud_eq]
                · simp (disch := omega) only [ud_ne, ud_eq]
                  exact nP i hi
              · obtain ⟨x, y, z, v, h5, h6⟩ := nR i hi
                exact ⟨x, y, z, v, by omega, h6⟩
          · simp (disch := omega) only [st_ap, ud_ne, ud_eq, Nat.reduceEqDiff, Nat.reduceAdd, Nat.reduceMul, ite_true, ite_false, if_true, if_false, eq_self_iff_true, ↓reduceIte, and_self, and_true, true_and, and_false, false_and, not_true_eq_false, not_false_eq_true, if_pos, if_neg]; exact hBk
          · simp (disch := omega) only [st_ap, ud_ne, ud_eq, Nat.reduceEqDiff, Nat.reduceAdd, Nat.reduceMul, ite_true, ite_false, if_true, if_false, eq_self_iff_true, ↓reduceIte, and_self, and_true, true_and, and_false, false_and, not_true_eq_false, not_false_eq_true, if_pos, if_neg]
            obtain ⟨P', N, h6, h7, h8, h9, h10, h11, h12⟩ := hPe
            rw [f4, n_eq (by omega) (by omega)] at h8
            subst h8
            refine ⟨P + 1, N, by omega, h7, rfl, h9, h10, h11, fun i hi => ?_⟩
            obtain ⟨x, y, z, v, h5, h6⟩ := h12 i hi
            exact ⟨x, y, z, v, by omega, h6⟩
          · simp only [st_ap, ud_ap, Nat.reduceEqDiff, Nat.reduceAdd, Nat.reduceMul, ite_true, ite_false, if_true, if_false, eq_self_iff_true, ↓reduceIte, and_self, and_true, true_and, and_false, false_and, not_true_eq_false, not_false_eq_true, if_pos, if_neg]; exact rKept_0 hN
        · simp (disch := omega) only [f_C_person, f_M_person, n_within, n_isIn, n_it0, jp_c, decide_eq_true_eq, n_lit, n_neg1, n_add, n_mul, n_sub, n_div, n_mod, n_le, n_lt, n_eq, n_cl, n_in, st_ap, ud_ap, Nat.reduceEqDiff, Nat.reduceAdd, Nat.reduceMul, ite_true, ite_false, if_true, if_false, eq_self_iff_true, ↓reduceIte, and_self, and_true, true_and, and_false, false_and, not_true_eq_false, not_false_eq_true, if_pos, if_neg, f4, g6, h1, h2, h3]
          exact pOK_mk rfl (Rel_told hR')
      · simp (disch := omega) only [f_C_person, f_M_person, n_within, n_isIn, n_it0, jp_c, decide_eq_true_eq, n_lit, n_neg1, n_add, n_mul, n_sub, n_div, n_mod, n_le, n_lt, n_eq, n_cl, n_in, st_ap, ud_ap, Nat.reduceEqDiff, Nat.reduceAdd, Nat.reduceMul, ite_true, ite_false, if_true, if_false, eq_self_iff_true, ↓reduceIte, and_self, and_true, true_and, and_false, false_and, not_true_eq_false, not_false_eq_true, if_pos, if_neg, f4, g6, h1, h2]
        exact pOK_mk rfl (Rel_told hR')
    · simp (disch := omega) only [f_C_person, f_M_person, n_within, n_isIn, n_it0, jp_c, decide_eq_true_eq, n_lit, n_neg1, n_add, n_mul, n_sub, n_div, n_mod, n_le, n_lt, n_eq, n_cl, n_in, st_ap, ud_ap, Nat.reduceEqDiff, Nat.reduceAdd, Nat.reduceMul, ite_true, ite_false, if_true, if_false, eq_self_iff_true, ↓reduceIte, and_self, and_true, true_and, and_false, false_and, not_true_eq_false, not_false_eq_true, if_pos, if_neg, f4, g6, h1]
      exact pOK_mk rfl (Rel_told hR')
