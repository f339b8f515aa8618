/-- what waits in the reference, the latest first -/
def stn (m : Nat → Int32) : List Nat → Prop
  | [] => True
  | x :: P => m P.length = nI x ∧ stn m P
theorem stn_up {m : Nat → Int32} {k : Nat} {v : Int32} : ∀ {P : List Nat}, stn m P → P.length ≤ k → stn (upd m k v) P
  | [], _, _ => trivial
  | x :: P, h, hk => by
    simp only [List.length_cons] at hk
    exact ⟨by rw [ud_ne (by omega)]; exact h.1, stn_up h.2 (by omega)⟩
def pnB (B : jp_M) (P : List Nat) : Prop := B 104 30 = nI P.length ∧ stn (B 121) P ∧ ∀ y, y ∈ P → y ≤ 12
def LC (N : Nat) (t : Nat → Nat) (A0 B0 A B : jp_M) (p n k x : Nat) (C : List Int32) (G : List (Nat × Int32)) (o : Nat) (P : List Nat) : Prop := xLS N t A0 B0 A B p n k x C G ∧ B 104 28 = nI o ∧ pnB B P
theorem LC_k {N : Nat} {t : Nat → Nat} {A0 B0 A B A' B' : jp_M} {p n k x p' n' k' x' : Nat} {C C' : List Int32} {G G' : List (Nat × Int32)} {o : Nat} {P : List Nat} (h : LC N t A0 B0 A B p n k x C G o P) (h' : xLS N t A0 B0 A' B' p' n' k' x' C' G') (k : kpO B B') : LC N t A0 B0 A' B' p' n' k' x' C' G' o P :=
  ⟨h', k.1.trans h.2.1, k.2.1.trans h.2.2.1, by rw [k.2.2]; exact h.2.2.2.1, h.2.2.2.2⟩
section
variable {N : Nat} {t : Nat → Nat} {A0 B0 A B : jp_M} {p n k x : Nat} {C : List Int32} {G : List (Nat × Int32)} {o : Nat} {P : List Nat}
/-- the reference's fields 28 and 30 are no part of the rest -/
theorem LS_o (h : xLS N t A0 B0 A B p n k x C G) {f : Nat} (hf : f = 28 ∨ f = 30) (v : Int32) : xLS N t A0 B0 A (jp_set B 104 (upd (B 104) f v)) p n k x C G := by
  obtain ⟨hS, hA, hB, fA, fB⟩ := h
  refine ⟨?_, hA, ⟨?_, ?_⟩, fA, ⟨?_, ?_, ?_, ?_⟩⟩
  · unfold Sy at hS ⊢
    rcases hf with rfl | rfl
    · have hk : tkB 0 k x (upd (B 104) 28 v) = tkB 0 k x (B 104) := by simp only [tkB, ud_ap, Nat.reduceEqDiff, Nat.reduceAdd, Nat.reduceMul, ite_true, ite_false, if_true, if_false, eq_self_iff_true, ↓reduceIte, and_self, and_true, true_and, and_false, false_and, not_true_eq_false, not_false_eq_true, if_pos, if_neg]
      simp only [st_ap, ud_ap, Nat.reduceEqDiff, Nat.reduceAdd, Nat.reduceMul, ite_true, ite_false, if_true, if_false, eq_self_iff_true, ↓reduceIte, and_self, and_true, true_and, and_false, false_and, not_true_eq_false, not_false_eq_true, if_pos, if_neg, hk]
      exact hS
    · have hk : tkB 0 k x (upd (B 104) 30 v) = tkB 0 k x (B 104) := by simp only [tkB, ud_ap, Nat.reduceEqDiff, Nat.reduceAdd, Nat.reduceMul, ite_true, ite_false, if_true, if_false, eq_self_iff_true, ↓reduceIte, and_self, and_true, true_and, and_false, false_and, not_true_eq_false, not_false_eq_true, if_pos, if_neg]
      simp only [st_ap, ud_ap, Nat.reduceEqDiff, Nat.reduceAdd, Nat.reduceMul, ite_true, ite_false, if_true, if_false, eq_self_iff_true, ↓reduceIte, and_self, and_true, true_and, and_false, false_and, not_true_eq_false, not_false_eq_true, if_pos, if_neg, hk]
      exact hS
  · rw [st_same, ud_ne (by omega)]; exact hB.1
  · rw [st_ne (by decide), st_ne (by decide)]; exact hB.2
  · intro q hq; rw [st_ne (nin_ne hq (by decide))]; exact fB.1 q hq
  · intro i hi; rw [st_same, ud_ne]; exact fB.2.1 i hi
    rcases hf with rfl | rfl
    · exact nin_ne hi (by decide)
    · exact nin_ne hi (by decide)
  · intro i hi; rw [st_ne (by decide), st_ne (by decide)]; exact fB.2.2.1 i hi
  · intro i hi; rw [st_ne (by decide), st_ne (by decide), st_ne (by decide), st_ne (by decide)]; exact fB.2.2.2 i hi
theorem lc_open (h : LC N t A0 B0 A B p n k x C G o P) (v : Nat) : LC N t A0 B0 A (jp_set B 104 (upd (B 104) 28 (nI v))) p n k x C G v P := by
  refine ⟨LS_o h.1 (Or.inl rfl) _, by rw [st_same, ud_eq rfl], ?_, ?_, h.2.2.2.2⟩
  · rw [st_same, ud_ne (by decide)]; exact h.2.2.1
  · rw [st_ne (by decide)]; exact h.2.2.2.1
theorem lc_pop {y : Nat} (h : LC N t A0 B0 A B p n k x C G o (y :: P)) : LC N t A0 B0 A (jp_set B 104 (upd (B 104) 30 (nI P.length))) p n k x C G o P := by
  refine ⟨LS_o h.1 (Or.inr rfl) _, by rw [st_same, ud_ne (by decide)]; exact h.2.1, ?_, ?_, fun y hy => h.2.2.2.2 y (List.mem_cons_of_mem _ hy)⟩
  · rw [st_same, ud_eq rfl]
  · rw [st_ne (by decide)]; exact h.2.2.2.1.2
theorem kpL_104 (A B : jp_M) (f : Nat → Int32) : kpL A A B (jp_set B 104 f) := by
  refine ⟨rfl, rfl, rfl, rfl, ?_, ?_, ?_, ?_⟩ <;> rw [st_ne (by decide)]
theorem lc_wait (h : LC N t A0 B0 A B p n k x C G o P) (hP : P.length < 40) {v : Nat} (hv : v ≤ 12) : ∃ B', f_M_waits (nI v) B = some B' ∧ LC N t A0 B0 A B' p n k x C G o (v :: P) ∧ kpL A A B B' := by
  obtain ⟨h1, h2, h3, h4, h5⟩ := h
  refine ⟨jp_set (jp_set B 121 (upd (B 121) P.length (nI v))) 104 (upd (B 104) 30 (nI (P.length + 1))), ?_, ⟨?_, ?_, ?_, ?_, ?_⟩, ?_⟩
  · simp (disch := omega) only [f_M_waits, jp_c, decide_eq_true_eq, n_lit, n_add, n_in, n_cl, st_ap, h3, jg_t, Nat.reduceEqDiff, Nat.reduceAdd, Nat.reduceMul, ite_true, ite_false, if_true, if_false, eq_self_iff_true, ↓reduceIte, and_self, and_true, true_and, and_false, false_and, not_true_eq_false, not_false_eq_true, if_pos, if_neg]
  · have h6 : xLS N t A0 B0 A (jp_set B 121 (upd (B 121) P.length (nI v))) p n k x C G := by
      obtain ⟨hS, hA, hB, fA, fB⟩ := h1
      refine ⟨?_, hA, ⟨?_, ?_⟩, fA, ⟨?_, ?_, ?_, ?_⟩⟩
      · unfold Sy at hS ⊢
        simp only [st_ap, Nat.reduceEqDiff, Nat.reduceAdd, Nat.reduceMul, ite_true, ite_false, if_true, if_false, eq_self_iff_true, ↓reduceIte, and_self, and_true, true_and, and_false, false_and, not_true_eq_false, not_false_eq_true, if_pos, if_neg]; exact hS
      · rw [st_ne (by decide)]; exact hB.1
      · rw [st_ne (by decide), st_ne (by decide)]; exact hB.2
      · intro q hq; rw [st_ne (nin_ne hq (by decide))]; exact fB.1 q hq
      · intro i hi; rw [st_ne (by decide)]; exact fB.2.1 i hi
      · intro i hi; rw [st_ne (by decide), st_ne (by decide)]; exact fB.2.2.1 i hi
      · intro i hi; rw [st_ne (by decide), st_ne (by decide), st_ne (by decide), st_ne (by decide)]; exact fB.2.2.2 i hi
    have h7 := LS_o h6 (f := 30) (Or.inr rfl) (nI (P.length + 1))
    rw [st_ne (show ¬ 104 = 121 by decide)] at h7
    exact h7
  · rw [st_same, ud_ne (by decide)]; exact h2
  · rw [st_same, ud_eq rfl, List.length_cons]
  · rw [st_ne (by decide), st_same]
    exact ⟨ud_eq rfl, stn_up h4 (Nat.le_refl _)⟩
  · intro y hy
    rcases List.mem_cons.mp hy with rfl | hy
    · exact hv
    · exact h5 y hy
  · refine ⟨rfl, rfl, rfl, rfl, ?_, ?_, ?_, ?_⟩ <;> rw [st_ne (by decide), st_ne (by decide)]
end
section
variable {N : Nat} {t : Nat → Nat} {A0 B0 A : jp_M} {p n k x : Nat} {C : List Int32}
theorem lc_settle {w : Nat} (hw : w ≤ 12) {Q : List Nat} (hQ : ¬ Q.head? = some w) : ∀ (j : Nat) (B : jp_M) (G : List (Nat × Int32)) (o m : Nat), j < m → LC N t A0 B0 A B p n k x C G o (List.replicate j w ++ Q) → G.length + j ≤ 400 → (w = 9 → j ≤ o) → j + Q.length ≤ 40 → o < 100 →
    ∃ B', f_M_settles_0 m (nI w) B = some B' ∧ LC N t A0 B0 A B' p n k x C (G ++ List.replicate j (w, nI 0)) (if w = 9 then o - j else o) Q ∧ kpL A A B B' := by
  intro j
  induction j with
  | zero =>
    intro B G o m hm h hG ho hl ho'
    obtain ⟨m, rfl⟩ : ∃ k, m = k + 1 := ⟨m - 1, by omega⟩
    simp only [List.replicate_zero, List.nil_append] at h
    refine ⟨B, ?_, ?_, kpL_r A B⟩
    · obtain ⟨h1, h2, h3, h4, h5⟩ := h
      cases Q with
      | nil =>
        simp only [List.length_nil] at h3
        simp (disch := omega) only [f_M_settles_0, jp_c, decide_eq_true_eq, n_lit, n_le, h3, Nat.le_refl, Nat.reduceEqDiff, Nat.reduceAdd, Nat.reduceMul, ite_true, ite_false, if_true, if_false, eq_self_iff_true, ↓reduceIte, and_self, and_true, true_and, and_false, false_and, not_true_eq_false, not_false_eq_true, if_pos, if_neg]
      | cons y Q =>
        simp only [List.length_cons] at h3 hl
        have hy := h5 y List.mem_cons_self
        have hy' : ¬ y = w := fun e => hQ (by rw [e]; rfl)
        have l0 : ¬ Q.length + 1 ≤ 0 := by omega
        have l1 : Q.length + 1 - 1 = Q.length := by omega
        simp (disch := omega) only [f_M_settles_0, jp_c, decide_eq_true_eq, n_lit, n_sub, n_le, n_in, n_cl, n_eq, h3, h4.1, l0, l1, hy', jg_t, Nat.reduceEqDiff, Nat.reduceAdd, Nat.reduceMul, ite_true, ite_false, if_true, if_false, eq_self_iff_true, ↓reduceIte, and_self, and_true, true_and, and_false, false_and, not_true_eq_false, not_false_eq_true, if_pos, if_neg]
    · rw [List.replicate_zero, List.append_nil]
      have : (if w = 9 then o - 0 else o) = o := by split <;> omega
      rw [this]; exact h
  | succ j ih =>
    intro B G o m hm h hG ho hl ho'
    obtain ⟨m, rfl⟩ : ∃ k, m = k + 1 := ⟨m - 1, by omega⟩
    rw [List.replicate_succ, List.cons_append] at h
    have hp := lc_pop h
    obtain ⟨B1, b1, b2, b3, b4⟩ := ls_emit hp.1 (by omega) (o := w) (v := nI 0)
    have hc := LC_k hp b2 b4
    have ln : (List.replicate j w ++ Q).length = j + Q.length := by rw [List.length_append, List.length_replicate]
    obtain ⟨h1, h2, h3, h4, h5⟩ := h
    rw [List.length_cons] at h3
    have l0 : ¬ (List.replicate j w ++ Q).length + 1 ≤ 0 := by omega
    have l1 : (List.replicate j w ++ Q).length + 1 - 1 = (List.replicate j w ++ Q).length := by omega
    have eG : G ++ [(w, nI 0)] ++ List.replicate j (w, nI 0) = G ++ List.replicate (j + 1) (w, nI 0) := by rw [List.append_assoc, List.replicate_succ]; rfl
    by_cases h9 : w = 9
    · have ho1 := ho h9
      have hc2 := lc_open hc (o - 1)
      obtain ⟨B', r1, r2, r3⟩ := ih _ (G ++ [(w, nI 0)]) (o - 1) m (by omega) hc2 (by rw [List.length_append, List.length_singleton]; omega) (fun _ => by omega) (by omega) (by omega)
      refine ⟨B', ?_, ?_, kpL_t (kpL_104 A B _) (kpL_t b3 (kpL_t (kpL_104 A B1 _) r3))⟩
      · rw [← r1]
        have hv := hc.2.1
        have h9' : nI w = nI 9 := by rw [h9]
        have h99 : ¬ ¬ nI w = nI 9 := fun h => h h9'
        simp (disch := omega) only [f_M_settles_0, jp_c, decide_eq_true_eq, n_lit, n_sub, n_le, n_in, n_cl, h3, h4.1, l0, l1, b1, hv, h99, Option.bind_some, jg_t, Nat.reduceEqDiff, Nat.reduceAdd, Nat.reduceMul, ite_true, ite_false, if_true, if_false, eq_self_iff_true, ↓reduceIte, and_self, and_true, true_and, and_false, false_and, not_true_eq_false, not_false_eq_true, if_pos, if_neg]
      · rw [eG, if_pos h9] at r2
        rw [if_pos h9, show o - (j + 1) = o - 1 - j by omega]; exact r2
    · obtain ⟨B', r1, r2, r3⟩ := ih _ (G ++ [(w, nI 0)]) o m (by omega) hc (by rw [List.length_append, List.length_singleton]; omega) (fun e => absurd e h9) (by omega) ho'
      refine ⟨B', ?_, ?_, kpL_t (kpL_104 A B _) (kpL_t b3 r3)⟩
      · rw [← r1]
        have h9' : ¬ nI w = nI 9 := by rw [n_eq (by omega) (by omega)]; exact h9
        simp (disch := omega) only [f_M_settles_0, jp_c, decide_eq_true_eq, n_lit, n_sub, n_le, n_in, n_cl, h3, h4.1, l0, l1, b1, h9', Option.bind_some, jg_t, Nat.reduceEqDiff, Nat.reduceAdd, Nat.reduceMul, ite_true, ite_false, if_true, if_false, eq_self_iff_true, ↓reduceIte, and_self, and_true, true_and, and_false, false_and, not_true_eq_false, not_false_eq_true, if_pos, if_neg]
      · rw [eG, if_neg h9] at r2
        rw [if_neg h9]; exact r2
end
/-- a clause: the reference goes on behind it, with the nots that waited -/
def RC (N : Nat) (t : Nat → Nat) (A0 B0 A B : jp_M) (p : Nat) (C : List Int32) (G : List (Nat × Int32)) (o : Nat) (P : List Nat) (j br : Nat) (oc oR : Option (Int32 × jp_M)) : Prop :=
  (∃ A' B', oc = some (nI 0, A') ∧ oR = some (nI 4294967295, B') ∧ Fl A0 B0 A' B') ∨
  (∃ A' B' p' n' k' x' E m, oc = some (nI 1, A') ∧ oR = f_M_readAny_9 m (nI br) (nI 0) B' ∧ 400 < m + p' ∧ LC N t A0 B0 A' B' p' n' k' x' (C ++ E.flatMap jenc) (G ++ E ++ List.replicate j (9, nI 0)) (o - j) P ∧
    (∀ s : List Nat, s.length ≤ 2 * o + 2 → jtyp E s (2 :: s)) ∧ (E.flatMap jenc).length + p ≤ p' ∧ p < p' ∧ kpL A A' B B')
def OPN (N : Nat) (t : Nat → Nat) (A0 B0 : jp_M) (op : Int32 → Nat → jp_M → Option (Int32 × jp_M)) (h : Nat) : Prop :=
  ∀ (p n k x : Nat) (A B : jp_M) (C : List Int32) (G : List (Nat × Int32)) (o : Nat) (P : List Nat) (j br fn : Nat), LC N t A0 B0 A B p n k x C G o (List.replicate j 9 ++ P) → ¬ P.head? = some 9 → ((k = 1 ∧ x = 6) ∨ (k = 3 ∧ x = 40)) → o < 8 → 8 ≤ h + o → j ≤ o → br ≤ o → P.length + j ≤ 3 * o + 2 → C.length ≤ p → G.length + j ≤ p → 1 ≤ p → 400 < fn + p →
    RC N t A0 B0 A B p C G o P j br (op (nI (o + 1)) 1000 A) (f_M_readAny_9 fn (nI br) (nI 1) B)
section
variable {N : Nat} {t : Nat → Nat} {A0 B0 : jp_M} {op : Int32 → Nat → jp_M → Option (Int32 × jp_M)} {h : Nat}
theorem l_clause (hop : OPN N t A0 B0 op h) {p n k x : Nat} {A B : jp_M} {C : List Int32} {G : List (Nat × Int32)} {o : Nat} {P : List Nat} {j br fn : Nat} (hL : LC N t A0 B0 A B p n k x C G o (List.replicate j 9 ++ P)) (hP : ¬ P.head? = some 9) (ho : o ≤ 8) (hh : 8 ≤ h + o) (hj : j ≤ o) (hbr : br ≤ o) (hPl : P.length + j ≤ 3 * o + 2) (hC : C.length ≤ p) (hG : G.length + j ≤ p) (hp1 : 1 ≤ p) (hfn : 400 < fn + p) :
    RC N t A0 B0 A B p C G o P j br (f_LR_clause op (nI o) 1000 A) (f_M_readAny_9 fn (nI br) (nI 1) B) := by
  have iw := sy_wA hL.1.1 (w := 6) (by omega)
  have rw6 := sy_wB hL.1.1 (w := 6) (by decide)
  rw [show jlo 0 + 6 = 6 from rfl] at rw6
  have is := sy_sA hL.1.1 (w := 40) (by omega)
  have rs := sy_sB hL.1.1 (w := 40) (by omega)
  have hp := sy_p hL.1.1
  by_cases ht : (k = 1 ∧ x = 6) ∨ (k = 3 ∧ x = 40)
  · by_cases ho8 : o < 8
    · have h1 := hop p n k x A B C G o P j br fn hL hP ht ho8 hh hj hbr hPl hC hG hp1 hfn
      have h8 : ¬ 8 ≤ o := by omega
      have e1 : f_LR_clause op (nI o) 1000 A = op (nI (o + 1)) 1000 A := by
        have e2 : f_LR_clause_24 op (nI o) 1000 A = op (nI (o + 1)) 1000 A := by
          simp (disch := omega) only [f_LR_clause_24, jp_c, decide_eq_true_eq, n_lit, n_add, n_le, h8, Nat.reduceEqDiff, Nat.reduceAdd, Nat.reduceMul, ite_true, ite_false, if_true, if_false, eq_self_iff_true, ↓reduceIte, and_self, and_true, true_and, and_false, false_and, not_true_eq_false, not_false_eq_true, if_pos, if_neg]
          cases op (nI (o + 1)) 1000 A with
          | none => rfl
          | some q => rfl
        rw [← e2]
        rcases ht with ht | ht
        · rw [if_pos ht] at iw
          simp (disch := omega) only [f_LR_clause, jp_c, decide_eq_true_eq, n_lit, n_eq, iw, Nat.reduceEqDiff, Nat.reduceAdd, Nat.reduceMul, ite_true, ite_false, if_true, if_false, eq_self_iff_true, ↓reduceIte, and_self, and_true, true_and, and_false, false_and, not_true_eq_false, not_false_eq_true, if_pos, if_neg]
        · rw [if_neg (by omega)] at iw
          rw [if_pos ht] at is
          simp (disch := omega) only [f_LR_clause, jp_c, decide_eq_true_eq, n_lit, n_eq, iw, is, Nat.reduceEqDiff, Nat.reduceAdd, Nat.reduceMul, ite_true, ite_false, if_true, if_false, eq_self_iff_true, ↓reduceIte, and_self, and_true, true_and, and_false, false_and, not_true_eq_false, not_false_eq_true, if_pos, if_neg]
      rw [e1]; exact h1
    · have h8 : o = 8 := by omega
      subst h8
      obtain ⟨fn, rfl⟩ : ∃ k, fn = k + 1 := ⟨fn - 1, by omega⟩
      refine Or.inl ⟨(f_R_fails (nI 3) A).2, (f_M_errs (nI 3) B).2, ?_, ?_, ls_fl hL.1 _⟩
      · rcases ht with ht | ht
        · rw [if_pos ht] at iw
          simp (disch := omega) only [f_LR_clause, f_LR_clause_24, f_R_fails, jp_c, decide_eq_true_eq, n_lit, n_eq, n_le, iw, Nat.le_refl, Nat.reduceEqDiff, Nat.reduceAdd, Nat.reduceMul, ite_true, ite_false, if_true, if_false, eq_self_iff_true, ↓reduceIte, and_self, and_true, true_and, and_false, false_and, not_true_eq_false, not_false_eq_true, if_pos, if_neg]
        · rw [if_neg (by omega)] at iw
          rw [if_pos ht] at is
          simp (disch := omega) only [f_LR_clause, f_LR_clause_24, f_R_fails, jp_c, decide_eq_true_eq, n_lit, n_eq, n_le, iw, is, Nat.le_refl, Nat.reduceEqDiff, Nat.reduceAdd, Nat.reduceMul, ite_true, ite_false, if_true, if_false, eq_self_iff_true, ↓reduceIte, and_self, and_true, true_and, and_false, false_and, not_true_eq_false, not_false_eq_true, if_pos, if_neg]
      · have h28 := hL.2.1
        rcases ht with ht | ht
        · rw [if_pos ht] at rw6
          simp (disch := omega) only [f_M_readAny_9, f_M_readAny_33, f_M_errs, jp_c, decide_eq_true_eq, n_lit, n_neg1, n_eq, rw6, h28, Nat.reduceEqDiff, Nat.reduceAdd, Nat.reduceMul, ite_true, ite_false, if_true, if_false, eq_self_iff_true, ↓reduceIte, and_self, and_true, true_and, and_false, false_and, not_true_eq_false, not_false_eq_true, if_pos, if_neg]
        · rw [if_neg (by omega)] at rw6
          rw [if_pos ht] at rs
          simp (disch := omega) only [f_M_readAny_9, f_M_readAny_33, f_M_errs, jp_c, decide_eq_true_eq, n_lit, n_neg1, n_eq, rw6, rs, h28, Nat.reduceEqDiff, Nat.reduceAdd, Nat.reduceMul, ite_true, ite_false, if_true, if_false, eq_self_iff_true, ↓reduceIte, and_self, and_true, true_and, and_false, false_and, not_true_eq_false, not_false_eq_true, if_pos, if_neg]
  · rw [if_neg (fun e => ht (Or.inl e))] at iw rw6
    rw [if_neg (fun e => ht (Or.inr e))] at is rs
    obtain ⟨fn, rfl⟩ : ∃ k, fn = k + 1 := ⟨fn - 1, by omega⟩
    have ra : f_M_readAny_9 (fn + 1) (nI br) (nI 1) B = (f_M_readCompared B).bind fun q20 => (
        if jp_c .ne q20.1 (-1 : Int32) = true then (
        (f_M_settles (9 : Int32) q20.2).bind fun q21 => (
        f_M_readAny_9 fn (nI br) (0 : Int32) q21)) else (
        some ((-1 : Int32), q20.2))) := by
      simp (disch := omega) only [f_M_readAny_9, jp_c, decide_eq_true_eq, n_lit, n_eq, rw6, rs, Nat.reduceEqDiff, Nat.reduceAdd, Nat.reduceMul, ite_true, ite_false, if_true, if_false, eq_self_iff_true, ↓reduceIte, and_self, and_true, true_and, and_false, false_and, not_true_eq_false, not_false_eq_true, if_pos, if_neg]
    rw [ra]
    rcases p_sum hL.1 hp1 hC (by omega) with ⟨A1, B1, s1, s2, s3⟩ | ⟨A1, B1, p1, n1, k1, x1, E1, s1, s2, s3, s4, s5, s6, s7⟩
    · refine Or.inl ⟨A1, B1, ?_, ?_, s3⟩
      · simp (disch := omega) only [f_LR_clause, jp_c, decide_eq_true_eq, n_lit, n_eq, iw, is, s1, Option.bind_some, Nat.reduceEqDiff, Nat.reduceAdd, Nat.reduceMul, ite_true, ite_false, if_true, if_false, eq_self_iff_true, ↓reduceIte, and_self, and_true, true_and, and_false, false_and, not_true_eq_false, not_false_eq_true, if_pos, if_neg]
      · simp (disch := omega) only [f_M_readCompared, jp_c, decide_eq_true_eq, n_lit, n_neg1, n_eq, s2, Option.bind_some, Nat.reduceEqDiff, Nat.reduceAdd, Nat.reduceMul, ite_true, ite_false, if_true, if_false, eq_self_iff_true, ↓reduceIte, and_self, and_true, true_and, and_false, false_and, not_true_eq_false, not_false_eq_true, if_pos, if_neg]
    · have hp1' := sy_p s3.1
      have i60 := sy_sA s3.1 (w := 60) (by omega)
      have i61 := sy_sA s3.1 (w := 61) (by omega)
      have i62 := sy_sA s3.1 (w := 62) (by omega)
      have r60 := sy_sB s3.1 (w := 60) (by omega)
      have r61 := sy_sB s3.1 (w := 61) (by omega)
      have r62 := sy_sB s3.1 (w := 62) (by omega)
      have fE1 := fm_len E1
      by_cases hs : k1 = 3 ∧ (x1 = 60 ∨ x1 = 61 ∨ x1 = 62)
      · obtain ⟨rfl, hx1⟩ := hs
        have hpn1 := hp1'.2.2.2 (by omega)
        have v6 := sy_v s3.1 (by omega) (by omega)
        have v17 : B1 104 17 = nI x1 := by
          rcases sy_B0 s3.1 with h' | h' | h' | ⟨-, t1, t2, t3⟩ | h' | h'
          · omega
          · omega
          · omega
          · exact t2
          · omega
          · omega
        have c1 : f_LR_clause op (nI o) 1000 A = f_LR_clause_111 op (nI x1) 1000 A1 := by
          rcases hx1 with rfl | rfl | rfl
          · simp (disch := omega) only [f_LR_clause, jp_c, decide_eq_true_eq, n_lit, n_eq, iw, is, s1, i60, v6, Option.bind_some, Nat.reduceEqDiff, Nat.reduceAdd, Nat.reduceMul, ite_true, ite_false, if_true, if_false, eq_self_iff_true, ↓reduceIte, and_self, and_true, true_and, and_false, false_and, not_true_eq_false, not_false_eq_true, if_pos, if_neg]
          · simp (disch := omega) only [f_LR_clause, jp_c, decide_eq_true_eq, n_lit, n_eq, iw, is, s1, i60, i61, v6, Option.bind_some, Nat.reduceEqDiff, Nat.reduceAdd, Nat.reduceMul, ite_true, ite_false, if_true, if_false, eq_self_iff_true, ↓reduceIte, and_self, and_true, true_and, and_false, false_and, not_true_eq_false, not_false_eq_true, if_pos, if_neg]
          · simp (disch := omega) only [f_LR_clause, jp_c, decide_eq_true_eq, n_lit, n_eq, iw, is, s1, i60, i61, i62, v6, Option.bind_some, Nat.reduceEqDiff, Nat.reduceAdd, Nat.reduceMul, ite_true, ite_false, if_true, if_false, eq_self_iff_true, ↓reduceIte, and_self, and_true, true_and, and_false, false_and, not_true_eq_false, not_false_eq_true, if_pos, if_neg]
        obtain ⟨w, hw, r1⟩ : ∃ w, w + 54 = x1 ∧ f_M_readCompared B = f_M_readCompared_73 (nI w) B1 := by
          rcases hx1 with rfl | rfl | rfl
          · refine ⟨6, rfl, ?_⟩
            simp (disch := omega) only [f_M_readCompared, f_M_readCompared_43, jp_c, decide_eq_true_eq, n_lit, n_neg1, n_eq, s2, r60, v17, Option.bind_some, Nat.reduceEqDiff, Nat.reduceAdd, Nat.reduceMul, ite_true, ite_false, if_true, if_false, eq_self_iff_true, ↓reduceIte, and_self, and_true, true_and, and_false, false_and, not_true_eq_false, not_false_eq_true, if_pos, if_neg]
          · refine ⟨7, rfl, ?_⟩
            simp (disch := omega) only [f_M_readCompared, f_M_readCompared_43, jp_c, decide_eq_true_eq, n_lit, n_neg1, n_eq, s2, r60, r61, v17, Option.bind_some, Nat.reduceEqDiff, Nat.reduceAdd, Nat.reduceMul, ite_true, ite_false, if_true, if_false, eq_self_iff_true, ↓reduceIte, and_self, and_true, true_and, and_false, false_and, not_true_eq_false, not_false_eq_true, if_pos, if_neg]
          · refine ⟨8, rfl, ?_⟩
            simp (disch := omega) only [f_M_readCompared, f_M_readCompared_43, jp_c, decide_eq_true_eq, n_lit, n_neg1, n_eq, s2, r60, r61, r62, v17, Option.bind_some, Nat.reduceEqDiff, Nat.reduceAdd, Nat.reduceMul, ite_true, ite_false, if_true, if_false, eq_self_iff_true, ↓reduceIte, and_self, and_true, true_and, and_false, false_and, not_true_eq_false, not_false_eq_true, if_pos, if_neg]
        rw [c1, r1]
        obtain ⟨A2, B2, p2, n2, k2, x2, g1, g2, g3, g4, g5, g6⟩ := ls_adv s3
        have hp2 := sy_p g3.1
        have lC : (C ++ E1.flatMap jenc).length = C.length + (E1.flatMap jenc).length := List.length_append
        have lG : (G ++ E1).length = G.length + E1.length := List.length_append
        rcases p_sum g3 (by omega) (by omega) (by omega) with ⟨A3, B3, u1, u2, u3⟩ | ⟨A3, B3, p3, n3, k3, x3, E2, u1, u2, u3, u4, u5, u6, u7⟩
        · refine Or.inl ⟨A3, B3, ?_, ?_, u3⟩
          · simp (disch := omega) only [f_LR_clause_111, jp_c, decide_eq_true_eq, n_lit, n_eq, g1, u1, Option.bind_some, Nat.reduceEqDiff, Nat.reduceAdd, Nat.reduceMul, ite_true, ite_false, if_true, if_false, eq_self_iff_true, ↓reduceIte, and_self, and_true, true_and, and_false, false_and, not_true_eq_false, not_false_eq_true, if_pos, if_neg]
          · simp (disch := omega) only [f_M_readCompared_73, jp_c, decide_eq_true_eq, n_lit, n_neg1, n_eq, g2, u2, Option.bind_some, Nat.reduceEqDiff, Nat.reduceAdd, Nat.reduceMul, ite_true, ite_false, if_true, if_false, eq_self_iff_true, ↓reduceIte, and_self, and_true, true_and, and_false, false_and, not_true_eq_false, not_false_eq_true, if_pos, if_neg]
        · have hp3 := sy_p u3.1
          have fE2 := fm_len E2
          have lC2 : (C ++ E1.flatMap jenc ++ E2.flatMap jenc).length = C.length + (E1.flatMap jenc).length + (E2.flatMap jenc).length := by rw [List.length_append, lC]
          have lG2 : (G ++ E1 ++ E2).length = G.length + E1.length + E2.length := by rw [List.length_append, lG]
          obtain ⟨A4, a1, a2, a3⟩ := ls_add u3 (by omega) (v := 20000 + x1) (by omega)
          obtain ⟨B4, b1, b2, b3, b4⟩ := ls_emit a2 (by omega) (o := w) (v := nI 0)
          have hje : jenc (w, nI 0) = [nI (20000 + x1)] := by
            have : w = 6 ∨ w = 7 ∨ w = 8 := by omega
            rcases this with rfl | rfl | rfl <;> rw [← hw] <;> rfl
          have eC : C ++ E1.flatMap jenc ++ E2.flatMap jenc ++ [nI (20000 + x1)] = C ++ (E1 ++ E2 ++ [(w, nI 0)]).flatMap jenc := by
            rw [List.flatMap_append, List.flatMap_append, List.flatMap_singleton, hje, List.append_assoc, List.append_assoc, List.append_assoc]
          have eG : G ++ E1 ++ E2 ++ [(w, nI 0)] = G ++ (E1 ++ E2 ++ [(w, nI 0)]) := by rw [List.append_assoc, List.append_assoc, List.append_assoc]
          rw [eC, eG] at b2
          have lE : ((E1 ++ E2 ++ [(w, nI 0)]).flatMap jenc).length = (E1.flatMap jenc).length + (E2.flatMap jenc).length + 1 ∧ (E1 ++ E2 ++ [(w, nI 0)]).length = E1.length + E2.length + 1 := by
            rw [List.flatMap_append, List.flatMap_append, List.flatMap_singleton, hje, List.length_append, List.length_append, List.length_append, List.length_append]
            exact ⟨rfl, rfl⟩
          have hL4 : LC N t A0 B0 A4 B4 p3 n3 k3 x3 _ _ o (List.replicate j 9 ++ P) := LC_k hL b2 (kpO_t s7 (kpO_t g6 (kpO_t u7 b4)))
          obtain ⟨B5, v1, v2, v3⟩ := lc_settle (w := 9) (by omega) hP j B4 _ o jFu (show j < 100000 by omega) hL4 (by rw [List.length_append, lE.2]; omega) (fun _ => hj) (by omega) (by omega)
          refine Or.inr ⟨A4, B5, p3, n3, k3, x3, E1 ++ E2 ++ [(w, nI 0)], fn, ?_, ?_, by omega, ?_, ?_, ?_, by omega, ?_⟩
          · simp (disch := omega) only [f_LR_clause_111, jp_c, decide_eq_true_eq, n_lit, n_add, n_eq, g1, u1, a1, Option.bind_some, Nat.reduceEqDiff, Nat.reduceAdd, Nat.reduceMul, ite_true, ite_false, if_true, if_false, eq_self_iff_true, ↓reduceIte, and_self, and_true, true_and, and_false, false_and, not_true_eq_false, not_false_eq_true, if_pos, if_neg]
          · have e9 : f_M_settles (nI 9) B4 = some B5 := by rw [f_M_settles]; exact v1
            simp (disch := omega) only [f_M_readCompared_73, jp_c, decide_eq_true_eq, n_lit, n_neg1, n_eq, g2, u2, b1, e9, Option.bind_some, Nat.reduceEqDiff, Nat.reduceAdd, Nat.reduceMul, ite_true, ite_false, if_true, if_false, eq_self_iff_true, ↓reduceIte, and_self, and_true, true_and, and_false, false_and, not_true_eq_false, not_false_eq_true, if_pos, if_neg]
          · rw [if_pos rfl] at v2; exact v2
          · intro s hs
            obtain ⟨y1, z1, z2⟩ := s4 s (by omega)
            obtain ⟨y2, z3, z4⟩ := u4 (y1 :: s) (by rw [List.length_cons]; omega)
            exact ty_app (ty_app z2 z4) (ty_cmp (by omega) (by omega) (by omega) z1 z3 (by rw [jtyp]))
          · rw [lE.1]; omega
          · exact kpL_t s6 (kpL_t g5 (kpL_t u6 (kpL_t a3 (kpL_t b3 v3))))
      · rw [if_neg (fun e => hs ⟨e.1, Or.inl e.2⟩)] at i60 r60
        rw [if_neg (fun e => hs ⟨e.1, Or.inr (Or.inl e.2)⟩)] at i61 r61
        rw [if_neg (fun e => hs ⟨e.1, Or.inr (Or.inr e.2)⟩)] at i62 r62
        refine Or.inl ⟨(f_R_fails (nI 1) A1).2, (f_M_errs (nI 1) B1).2, ?_, ?_, ls_fl s3 _⟩
        · simp (disch := omega) only [f_LR_clause, f_R_fails, jp_c, decide_eq_true_eq, n_lit, n_eq, iw, is, s1, i60, i61, i62, Option.bind_some, Nat.reduceEqDiff, Nat.reduceAdd, Nat.reduceMul, ite_true, ite_false, if_true, if_false, eq_self_iff_true, ↓reduceIte, and_self, and_true, true_and, and_false, false_and, not_true_eq_false, not_false_eq_true, if_pos, if_neg]
        · simp (disch := omega) only [f_M_readCompared, f_M_errs, jp_c, decide_eq_true_eq, n_lit, n_neg1, n_eq, s2, r60, r61, r62, Option.bind_some, Nat.reduceEqDiff, Nat.reduceAdd, Nat.reduceMul, ite_true, ite_false, if_true, if_false, eq_self_iff_true, ↓reduceIte, and_self, and_true, true_and, and_false, false_and, not_true_eq_false, not_false_eq_true, if_pos, if_neg]
/-- the reference behind a condition -/
def RF (m : Nat) (l1 : Int32) (q4 : jp_M) : Option (Int32 × jp_M) :=
    if jp_c .ne l1 0 = true then (
    if jp_c .ne (f_M_isSign (41 : Int32) q4) 0 = true then (
    let M6 := jp_set q4 104 (upd (q4 104) 30 ((q4 104 30) - (1 : Int32)))
    let M7 := jp_set M6 104 (upd (M6 104) 28 ((M6 104 28) - (1 : Int32)))
    (f_M_settles (9 : Int32) M7).bind fun q8 => (
    (f_M_reads q8).bind fun q9 => (
    f_M_readAny_9 m (l1 - (1 : Int32)) (0 : Int32) q9))) else (
    let q10 := f_M_errs (1 : Int32) q4
    some (q10.1, q10.2))) else (
    some ((0 : Int32), q4))
def RB (N : Nat) (t : Nat → Nat) (A0 B0 A B : jp_M) (p : Nat) (C : List Int32) (G : List (Nat × Int32)) (o : Nat) (Q : List Nat) (aw ow br : Nat) (oc oR : Option (Int32 × jp_M)) : Prop :=
  (∃ A' B', oc = some (nI 0, A') ∧ oR = some (nI 4294967295, B') ∧ Fl A0 B0 A' B') ∨
  (∃ A' B' p' n' k' x' E m, oc = some (nI 1, A') ∧ oR = RF m (nI br) B' ∧ 400 < m + 1 + p' ∧ LC N t A0 B0 A' B' p' n' k' x' (C ++ E.flatMap jenc) (G ++ E) o Q ∧
    (∀ s : List Nat, s.length ≤ 2 * o → jtyp E (st1 aw 2 (st1 ow 2 s)) (2 :: s)) ∧ (E.flatMap jenc).length + p ≤ p' + (aw + ow) ∧ p < p' ∧ kpL A A' B B')
theorem RB_app {A B A1 B1 : jp_M} {p p1 : Nat} {C C1 : List Int32} {G G1 : List (Nat × Int32)} {o : Nat} {Q : List Nat} {aw ow aw' ow' br : Nat} {oc oR : Option (Int32 × jp_M)} (E0 : List (Nat × Int32)) (hC : C1 = C ++ E0.flatMap jenc) (hG : G1 = G ++ E0) (hP : ∀ E, (∀ s : List Nat, s.length ≤ 2 * o → jtyp E (st1 aw' 2 (st1 ow' 2 s)) (2 :: s)) → ∀ s : List Nat, s.length ≤ 2 * o → jtyp (E0 ++ E) (st1 aw 2 (st1 ow 2 s)) (2 :: s)) (hp : (E0.flatMap jenc).length + p + (aw' + ow') ≤ p1 + (aw + ow)) (hp1 : p ≤ p1) (k1 : kpL A A1 B B1) (h : RB N t A0 B0 A1 B1 p1 C1 G1 o Q aw' ow' br oc oR) : RB N t A0 B0 A B p C G o Q aw ow br oc oR := by
  subst hC; subst hG
  rcases h with h | ⟨A', B', p', n', k', x', E, m, h1, h2, h3, h4, h5, h6, h7, h8⟩
  · exact Or.inl h
  · refine Or.inr ⟨A', B', p', n', k', x', E0 ++ E, m, h1, h2, h3, ?_, hP E h5, ?_, by omega, kpL_t k1 h8⟩
    · rw [List.flatMap_append, ← List.append_assoc, ← List.append_assoc]; exact h4
    · rw [List.flatMap_append, List.length_append]; omega
theorem rp_len (a w : Nat) (v : Int32) (hw : w = 10 ∨ w = 11) : ((List.replicate a (w, v)).flatMap jenc).length = a := by
  induction a with
  | zero => rfl
  | succ a ih =>
    rw [List.replicate_succ, List.flatMap_cons, List.length_append, ih]
    rcases hw with rfl | rfl <;> simp [jenc] <;> omega
/-- an 'and' or 'or' that waits is laid down by the class -/
theorem l_adds {A B : jp_M} {p n k x : Nat} {C : List Int32} {G : List (Nat × Int32)} (hL : xLS N t A0 B0 A B p n k x C G) {aw w : Nat} (haw : aw ≤ 1) (hw : w = 10 ∨ w = 11) (hC : C.length + aw ≤ 400) {α : Type} (c : jp_M → Option α) :
    ∃ A', xLS N t A0 B0 A' B p n k x (C ++ (List.replicate aw (w, nI 0)).flatMap jenc) G ∧ kpL A A' B B ∧ (if jp_c .eq (nI aw) (0 : Int32) = true then c A else (f_L_adds (nI (if w = 10 then 20038 else 20124)) A).bind fun q => c q) = c A' := by
  have : aw = 0 ∨ aw = 1 := by omega
  rcases this with rfl | rfl
  · refine ⟨A, by simpa using hL, kpL_r A B, ?_⟩
    simp only [jp_c, decide_eq_true_eq, n_lit, Nat.reduceEqDiff, Nat.reduceAdd, Nat.reduceMul, ite_true, ite_false, if_true, if_false, eq_self_iff_true, ↓reduceIte, and_self, and_true, true_and, and_false, false_and, not_true_eq_false, not_false_eq_true, if_pos, if_neg]
  · obtain ⟨A', a1, a2, a3⟩ := ls_add hL hC (v := if w = 10 then 20038 else 20124) (by split <;> omega)
    refine ⟨A', ?_, a3, ?_⟩
    · have : (List.replicate 1 (w, nI 0)).flatMap jenc = [nI (if w = 10 then 20038 else 20124)] := by rcases hw with rfl | rfl <;> rfl
      rw [this]; exact a2
    · rw [a1, Option.bind_some]
      simp (disch := omega) only [jp_c, decide_eq_true_eq, n_lit, n_eq, Nat.reduceEqDiff, Nat.reduceAdd, Nat.reduceMul, ite_true, ite_false, if_true, if_false, eq_self_iff_true, ↓reduceIte, and_self, and_true, true_and, and_false, false_and, not_true_eq_false, not_false_eq_true, if_pos, if_neg]
theorem l_cond (hop : OPN N t A0 B0 op h) : ∀ d (p n k x : Nat) (A B : jp_M) (C : List Int32) (G : List (Nat × Int32)) (o : Nat) (Q : List Nat) (aw ow i m fn br : Nat), N < p + d → LC N t A0 B0 A B p n k x C G o (List.replicate aw 10 ++ (List.replicate ow 11 ++ Q)) → (Q = [] ∨ Q.head? = some 12) → o ≤ 8 → 8 ≤ h + o → br ≤ o → Q.length ≤ 3 * o → aw ≤ 1 → ow ≤ 1 → C.length + (aw + ow) ≤ p → G.length + (aw + ow) ≤ p → i < p → 400 < m + p → 400 < fn + p →
    RB N t A0 B0 A B p C G o Q aw ow br (f_LR_condition_7 op m (nI o) (nI aw) (nI ow) (nI i) 1000 A) (f_M_readAny_9 fn (nI br) (nI 1) B) := by
  intro d
  induction d with
  | zero =>
    intro p n k x A B C G o Q aw ow i m fn br hd hL
    have := sy_p hL.1.1
    omega
  | succ d ih =>
    intro p n k x A B C G o Q aw ow i m fn br hd hL hQ ho hh hbr hQl haw how hC hG hi hm hfn
    have hp := sy_p hL.1.1
    obtain ⟨m, rfl⟩ : ∃ k, m = k + 1 := ⟨m - 1, by omega⟩
    have hQ9 : ¬ (List.replicate aw 10 ++ (List.replicate ow 11 ++ Q)).head? = some 9 := by
      have h1 : aw = 0 ∨ aw = 1 := by omega
      have h2 : ow = 0 ∨ ow = 1 := by omega
      rcases h1 with rfl | rfl
      · rcases h2 with rfl | rfl
        · rcases hQ with rfl | hQ
          · simp
          · simp [hQ]
        · simp
      · simp
    have hQ10 : ¬ (List.replicate ow 11 ++ Q).head? = some 10 := by
      have h2 : ow = 0 ∨ ow = 1 := by omega
      rcases h2 with rfl | rfl
      · rcases hQ with rfl | hQ
        · simp
        · simp [hQ]
      · simp
    have hQ11 : ¬ Q.head? = some 11 := by
      rcases hQ with rfl | hQ
      · simp
      · simp [hQ]
    have lP : (List.replicate aw 10 ++ (List.replicate ow 11 ++ Q)).length = aw + (ow + Q.length) := by rw [List.length_append, List.length_append, List.length_replicate, List.length_replicate]
    have lP2 : (List.replicate ow 11 ++ Q).length = ow + Q.length := by rw [List.length_append, List.length_replicate]
    have hi4 : ¬ 400 ≤ i := by omega
    rcases l_clause hop (j := 0) (fn := fn) (br := br) (by simpa using hL) hQ9 ho hh (by omega) hbr (by omega) (by omega) (by omega) (by omega) hfn with ⟨A1, B1, s1, s2, s3⟩ | ⟨A1, B1, p1, n1, k1, x1, E1, nn, s1, s2, s3, s4, s5, s6, s7, s8⟩
    · refine Or.inl ⟨A1, B1, ?_, s2, s3⟩
      simp (disch := omega) only [f_LR_condition_7, jp_c, decide_eq_true_eq, n_lit, n_le, n_eq, hi4, s1, Option.bind_some, Nat.reduceEqDiff, Nat.reduceAdd, Nat.reduceMul, ite_true, ite_false, if_true, if_false, eq_self_iff_true, ↓reduceIte, and_self, and_true, true_and, and_false, false_and, not_true_eq_false, not_false_eq_true, if_pos, if_neg]
    · rw [List.replicate_zero, List.append_nil, Nat.sub_zero] at s4
      have hp1 := sy_p s4.1.1
      have fE1 := fm_len E1
      have lC : (C ++ E1.flatMap jenc).length = C.length + (E1.flatMap jenc).length := List.length_append
      have lG : (G ++ E1).length = G.length + E1.length := List.length_append
      -- the 'and'
      obtain ⟨A2, a1, a2, a3⟩ := l_adds s4.1 haw (w := 10) (Or.inl rfl) (by omega) (f_LR_condition_39 op (f_LR_condition_7 op m) (nI o) (nI ow) (nI i) 1000)
      obtain ⟨B2, b1, b2, b3⟩ := lc_settle (A := A1) (w := 10) (by omega) hQ10 aw B1 _ o jFu (show aw < 100000 by omega) s4 (by omega) (fun e => absurd e (by decide)) (by omega) (by omega)
      rw [if_neg (by decide)] at b2
      have hL2 : LC N t A0 B0 A2 B2 p1 n1 k1 x1 (C ++ E1.flatMap jenc ++ (List.replicate aw (10, nI 0)).flatMap jenc) (G ++ E1 ++ List.replicate aw (10, nI 0)) o (List.replicate ow 11 ++ Q) := by
        refine ⟨⟨?_, a1.2.1, b2.1.2.2.1, a1.2.2.2.1, b2.1.2.2.2.2⟩, b2.2⟩
        have h1 := a1.1
        have h2 := b2.1.1
        unfold Sy at h1 h2 ⊢
        exact ⟨h1.1, h1.2.1, h1.2.2.1, h2.2.2.2.1, h2.2.2.2.2.1, h1.2.2.2.2.2.1, h2.2.2.2.2.2.2.1, h1.2.2.2.2.2.2.2.1, h1.2.2.2.2.2.2.2.2.1, h2.2.2.2.2.2.2.2.2.2.1, h2.2.2.2.2.2.2.2.2.2.2.1, h1.2.2.2.2.2.2.2.2.2.2.2.1, h1.2.2.2.2.2.2.2.2.2.2.2.2.1, h1.2.2.2.2.2.2.2.2.2.2.2.2.2.1, h1.2.2.2.2.2.2.2.2.2.2.2.2.2.2.1, h1.2.2.2.2.2.2.2.2.2.2.2.2.2.2.2.1, h2.2.2.2.2.2.2.2.2.2.2.2.2.2.2.2.2⟩
      have kL2 : kpL A A2 B B2 := kpL_t s8 ⟨a2.1, a2.2.1, a2.2.2.1, a2.2.2.2.1, b3.2.2.2.2⟩
      have c7 : f_LR_condition_7 op (m + 1) (nI o) (nI aw) (nI ow) (nI i) 1000 A = f_LR_condition_39 op (f_LR_condition_7 op m) (nI o) (nI ow) (nI i) 1000 A2 := by
        rw [← a3, if_pos rfl]
        simp (disch := omega) only [f_LR_condition_7, jp_c, decide_eq_true_eq, n_lit, n_le, n_eq, hi4, s1, Option.bind_some, Nat.reduceEqDiff, Nat.reduceAdd, Nat.reduceMul, ite_true, ite_false, if_true, if_false, eq_self_iff_true, ↓reduceIte, and_self, and_true, true_and, and_false, false_and, not_true_eq_false, not_false_eq_true, if_pos, if_neg]
      have e10 : f_M_settles (nI 10) B1 = some B2 := by rw [f_M_settles]; exact b1
      have ra := rp_len aw 10 (nI 0) (Or.inl rfl)
      have ro := rp_len ow 11 (nI 0) (Or.inr rfl)
      have hje : C ++ E1.flatMap jenc ++ (List.replicate aw (10, nI 0)).flatMap jenc = C ++ (E1 ++ List.replicate aw (10, nI 0)).flatMap jenc := by rw [List.flatMap_append, List.append_assoc]
      have hjg : G ++ E1 ++ List.replicate aw (10, nI 0) = G ++ (E1 ++ List.replicate aw (10, nI 0)) := List.append_assoc _ _ _
      rw [hje, hjg] at hL2
      have lE2 : ((E1 ++ List.replicate aw (10, nI 0)).flatMap jenc).length = (E1.flatMap jenc).length + aw ∧ (E1 ++ List.replicate aw (10, nI 0)).length = E1.length + aw := by
        rw [List.flatMap_append, List.length_append, ra, List.length_append, List.length_replicate]; exact ⟨rfl, rfl⟩
      -- the stack behind clause and 'and'
      have ty2 : ∀ s : List Nat, s.length ≤ 2 * o + 1 → jtyp (E1 ++ List.replicate aw (10, nI 0)) (st1 aw 2 s) (2 :: s) := by
        intro s hs
        have h1 : aw = 0 ∨ aw = 1 := by omega
        rcases h1 with rfl | rfl
        · rw [List.replicate_zero, List.append_nil]; exact s5 s (by omega)
        · rw [show List.replicate 1 ((10 : Nat), nI 0) = [(10, nI 0)] from rfl, show st1 1 2 s = 2 :: s from rfl]
          have hj1 : jtyp [(10, nI 0)] (2 :: 2 :: s) (2 :: s) := ty_join (by omega) (Or.inl rfl) (by rw [jtyp])
          exact ty_app (s5 (2 :: s) (by rw [List.length_cons]; omega)) hj1
      have w5 := sy_wA hL2.1.1 (w := 5) (by omega)
      have w4 := sy_wA hL2.1.1 (w := 4) (by omega)
      have m5 := sy_wB s4.1.1 (w := 5) (by decide)
      have m4 := sy_wB s4.1.1 (w := 4) (by decide)
      rw [show jlo 0 + 5 = 5 from rfl] at m5
      rw [show jlo 0 + 4 = 4 from rfl] at m4
      rw [c7, s2]
      obtain ⟨nn, rfl⟩ : ∃ k, nn = k + 1 := ⟨nn - 1, by omega⟩
      by_cases hand : k1 = 1 ∧ x1 = 5
      · rw [if_pos hand] at w5 m5
        have hpn1 := hp1.2.2.2 (by omega)
        obtain ⟨B3, b31, b32, b33⟩ := lc_wait hL2 (by omega) (v := 10) (by omega)
        obtain ⟨A4, B4, p4, n4, k4, x4, g1, g2, g3, g4, g5, g6⟩ := ls_adv b32.1
        have hL4 := LC_k b32 g3 g6
        have hp4 := sy_p g3.1
        have c39 : f_LR_condition_39 op (f_LR_condition_7 op m) (nI o) (nI ow) (nI i) 1000 A2 = f_LR_condition_7 op m (nI o) (nI 1) (nI ow) (nI (i + 1)) 1000 A4 := by
          simp (disch := omega) only [f_LR_condition_39, f_LR_condition_81, jp_c, decide_eq_true_eq, n_lit, n_add, n_eq, w5, g1, Option.bind_some, Nat.reduceEqDiff, Nat.reduceAdd, Nat.reduceMul, ite_true, ite_false, if_true, if_false, eq_self_iff_true, ↓reduceIte, and_self, and_true, true_and, and_false, false_and, not_true_eq_false, not_false_eq_true, if_pos, if_neg]
        have r9 : f_M_readAny_9 (nn + 1) (nI br) (nI 0) B1 = f_M_readAny_9 nn (nI br) (nI 1) B4 := by
          simp (disch := omega) only [f_M_readAny_9, jp_c, decide_eq_true_eq, n_lit, n_eq, m5, e10, b31, g2, Option.bind_some, Nat.reduceEqDiff, Nat.reduceAdd, Nat.reduceMul, ite_true, ite_false, if_true, if_false, eq_self_iff_true, ↓reduceIte, and_self, and_true, true_and, and_false, false_and, not_true_eq_false, not_false_eq_true, if_pos, if_neg]
        rw [c39, r9]
        refine RB_app (E1 ++ List.replicate aw (10, nI 0)) rfl rfl ?_ ?_ (by omega) (kpL_t kL2 (kpL_t b33 g5)) (ih p4 n4 k4 x4 A4 B4 _ _ o Q 1 ow (i + 1) m nn br (by omega) hL4 hQ ho hh hbr hQl (by omega) how ?_ ?_ (by omega) (by omega) (by omega))
        · intro E hE s hs
          refine ty_app (ty2 (st1 ow 2 s) (by have := st1_len (a := ow) (x := 2) (s := s); omega)) ?_
          exact hE s hs
        · rw [lE2.1]; omega
        · rw [List.length_append, lE2.1]; omega
        · rw [List.length_append, lE2.2]; omega
      · rw [if_neg hand] at w5 m5
        obtain ⟨A3, f1, f2, f3⟩ := l_adds hL2.1 how (w := 11) (Or.inr rfl) (by rw [List.length_append, lE2.1]; omega) (f_LR_condition_66 op (f_LR_condition_7 op m) (nI o) (nI 0) (nI i) 1000)
        obtain ⟨B3, v1, v2, v3⟩ := lc_settle (A := A2) (w := 11) (by omega) hQ11 ow B2 _ o jFu (show ow < 100000 by omega) hL2 (by rw [List.length_append, lE2.2]; omega) (fun e => absurd e (by decide)) (by omega) (by omega)
        rw [if_neg (by decide)] at v2
        have hL3 : LC N t A0 B0 A3 B3 p1 n1 k1 x1 (C ++ (E1 ++ List.replicate aw (10, nI 0)).flatMap jenc ++ (List.replicate ow (11, nI 0)).flatMap jenc) (G ++ (E1 ++ List.replicate aw (10, nI 0)) ++ List.replicate ow (11, nI 0)) o Q := by
          refine ⟨⟨?_, f1.2.1, v2.1.2.2.1, f1.2.2.2.1, v2.1.2.2.2.2⟩, v2.2⟩
          have h1 := f1.1
          have h2 := v2.1.1
          unfold Sy at h1 h2 ⊢
          exact ⟨h1.1, h1.2.1, h1.2.2.1, h2.2.2.2.1, h2.2.2.2.2.1, h1.2.2.2.2.2.1, h2.2.2.2.2.2.2.1, h1.2.2.2.2.2.2.2.1, h1.2.2.2.2.2.2.2.2.1, h2.2.2.2.2.2.2.2.2.2.1, h2.2.2.2.2.2.2.2.2.2.2.1, h1.2.2.2.2.2.2.2.2.2.2.2.1, h1.2.2.2.2.2.2.2.2.2.2.2.2.1, h1.2.2.2.2.2.2.2.2.2.2.2.2.2.1, h1.2.2.2.2.2.2.2.2.2.2.2.2.2.2.1, h1.2.2.2.2.2.2.2.2.2.2.2.2.2.2.2.1, h2.2.2.2.2.2.2.2.2.2.2.2.2.2.2.2.2⟩
        have kL3 : kpL A A3 B B3 := kpL_t kL2 ⟨f2.1, f2.2.1, f2.2.2.1, f2.2.2.2.1, v3.2.2.2.2⟩
        have e11 : f_M_settles (nI 11) B2 = some B3 := by rw [f_M_settles]; exact v1
        have c39 : f_LR_condition_39 op (f_LR_condition_7 op m) (nI o) (nI ow) (nI i) 1000 A2 = f_LR_condition_66 op (f_LR_condition_7 op m) (nI o) (nI 0) (nI i) 1000 A3 := by
          rw [← f3]
          simp (disch := omega) only [f_LR_condition_39, jp_c, decide_eq_true_eq, n_lit, n_eq, w5, Nat.reduceEqDiff, Nat.reduceAdd, Nat.reduceMul, ite_true, ite_false, if_true, if_false, eq_self_iff_true, ↓reduceIte, and_self, and_true, true_and, and_false, false_and, not_true_eq_false, not_false_eq_true, if_pos, if_neg]
        have hje3 : C ++ (E1 ++ List.replicate aw (10, nI 0)).flatMap jenc ++ (List.replicate ow (11, nI 0)).flatMap jenc = C ++ (E1 ++ List.replicate aw (10, nI 0) ++ List.replicate ow (11, nI 0)).flatMap jenc := by rw [List.flatMap_append (ys := List.replicate ow (11, nI 0)), List.append_assoc]
        have hjg3 : G ++ (E1 ++ List.replicate aw (10, nI 0)) ++ List.replicate ow (11, nI 0) = G ++ (E1 ++ List.replicate aw (10, nI 0) ++ List.replicate ow (11, nI 0)) := List.append_assoc _ _ _
        rw [hje3, hjg3] at hL3
        have lE3 : ((E1 ++ List.replicate aw (10, nI 0) ++ List.replicate ow (11, nI 0)).flatMap jenc).length = (E1.flatMap jenc).length + aw + ow ∧ (E1 ++ List.replicate aw (10, nI 0) ++ List.replicate ow (11, nI 0)).length = E1.length + aw + ow := by
          rw [List.flatMap_append (ys := List.replicate ow (11, nI 0)), List.length_append, ro, lE2.1, List.length_append, lE2.2, List.length_replicate]; exact ⟨rfl, rfl⟩
        have ty3 : ∀ s : List Nat, s.length ≤ 2 * o → jtyp (E1 ++ List.replicate aw (10, nI 0) ++ List.replicate ow (11, nI 0)) (st1 aw 2 (st1 ow 2 s)) (2 :: s) := by
          intro s hs
          have h1 : ow = 0 ∨ ow = 1 := by omega
          rcases h1 with rfl | rfl
          · rw [List.replicate_zero, List.append_nil]; exact ty2 s (by omega)
          · rw [show List.replicate 1 ((11 : Nat), nI 0) = [(11, nI 0)] from rfl, show st1 1 2 s = 2 :: s from rfl]
            have hj1 : jtyp [(11, nI 0)] (2 :: 2 :: s) (2 :: s) := ty_join (by omega) (Or.inr rfl) (by rw [jtyp])
            exact ty_app (ty2 (2 :: s) (by rw [List.length_cons]; omega)) hj1
        have w4' := sy_wA hL3.1.1 (w := 4) (by omega)
        rw [c39]
        by_cases hor : k1 = 1 ∧ x1 = 4
        · rw [if_pos hor] at w4' m4
          have hpn1 := hp1.2.2.2 (by omega)
          obtain ⟨B5, b51, b52, b53⟩ := lc_wait hL3 (by omega) (v := 11) (by omega)
          obtain ⟨A4, B4, p4, n4, k4, x4, g1, g2, g3, g4, g5, g6⟩ := ls_adv b52.1
          have hL4 := LC_k b52 g3 g6
          have hp4 := sy_p g3.1
          have c66 : f_LR_condition_66 op (f_LR_condition_7 op m) (nI o) (nI 0) (nI i) 1000 A3 = f_LR_condition_7 op m (nI o) (nI 0) (nI 1) (nI (i + 1)) 1000 A4 := by
            simp (disch := omega) only [f_LR_condition_66, f_LR_condition_81, jp_c, decide_eq_true_eq, n_lit, n_add, n_eq, w4', g1, Option.bind_some, Nat.reduceEqDiff, Nat.reduceAdd, Nat.reduceMul, ite_true, ite_false, if_true, if_false, eq_self_iff_true, ↓reduceIte, and_self, and_true, true_and, and_false, false_and, not_true_eq_false, not_false_eq_true, if_pos, if_neg]
          have r9 : f_M_readAny_9 (nn + 1) (nI br) (nI 0) B1 = f_M_readAny_9 nn (nI br) (nI 1) B4 := by
            simp (disch := omega) only [f_M_readAny_9, jp_c, decide_eq_true_eq, n_lit, n_eq, m5, m4, e10, e11, b51, g2, Option.bind_some, Nat.reduceEqDiff, Nat.reduceAdd, Nat.reduceMul, ite_true, ite_false, if_true, if_false, eq_self_iff_true, ↓reduceIte, and_self, and_true, true_and, and_false, false_and, not_true_eq_false, not_false_eq_true, if_pos, if_neg]
          rw [c66, r9]
          refine RB_app (E1 ++ List.replicate aw (10, nI 0) ++ List.replicate ow (11, nI 0)) rfl rfl ?_ ?_ (by omega) (kpL_t kL3 (kpL_t b53 g5)) (ih p4 n4 k4 x4 A4 B4 _ _ o Q 0 1 (i + 1) m nn br (by omega) hL4 hQ ho hh hbr hQl (by omega) (by omega) ?_ ?_ (by omega) (by omega) (by omega))
          · intro E hE s hs
            exact ty_app (ty3 s hs) (hE s hs)
          · rw [lE3.1]; omega
          · rw [List.length_append, lE3.1]; omega
          · rw [List.length_append, lE3.2]; omega
        · rw [if_neg hor] at w4' m4
          refine Or.inr ⟨A3, B3, p1, n1, k1, x1, E1 ++ List.replicate aw (10, nI 0) ++ List.replicate ow (11, nI 0), nn, ?_, ?_, by omega, hL3, ty3, ?_, s7, kL3⟩
          · simp (disch := omega) only [f_LR_condition_66, jp_c, decide_eq_true_eq, n_lit, n_eq, w4', Nat.reduceEqDiff, Nat.reduceAdd, Nat.reduceMul, ite_true, ite_false, if_true, if_false, eq_self_iff_true, ↓reduceIte, and_self, and_true, true_and, and_false, false_and, not_true_eq_false, not_false_eq_true, if_pos, if_neg]
          · simp (disch := omega) only [f_M_readAny_9, RF, jp_c, decide_eq_true_eq, n_lit, n_eq, m5, m4, e10, e11, Option.bind_some, Nat.reduceEqDiff, Nat.reduceAdd, Nat.reduceMul, ite_true, ite_false, if_true, if_false, eq_self_iff_true, ↓reduceIte, and_self, and_true, true_and, and_false, false_and, not_true_eq_false, not_false_eq_true, if_pos, if_neg]
          · rw [lE3.1]; omega
/-- 'not' and '(' -/
theorem l_open (hop : OPN N t A0 B0 (f_LR_opened h) h) : OPN N t A0 B0 (f_LR_opened (h + 1)) (h + 1) := by
  intro p n k x A B C G o P j br fn hL hP ht ho hh hj hbr hPl hC hG hp1 hfn
  have hp := sy_p hL.1.1
  have hpn := hp.2.2.2 (by omega)
  obtain ⟨fn, rfl⟩ : ∃ k, fn = k + 1 := ⟨fn - 1, by omega⟩
  have iw := sy_wA hL.1.1 (w := 6) (by omega)
  have rw6 := sy_wB hL.1.1 (w := 6) (by decide)
  rw [show jlo 0 + 6 = 6 from rfl] at rw6
  have rs := sy_sB hL.1.1 (w := 40) (by omega)
  have h28 := hL.2.1
  have h8 : ¬ o = 8 := by omega
  have hL1 := lc_open hL (o + 1)
  have lP : (List.replicate j 9 ++ P).length = j + P.length := by rw [List.length_append, List.length_replicate]
  rcases ht with ht | ht
  · rw [if_pos ht] at iw rw6
    have hpn2 : p + 2 ≤ n := by
      have := hL.1.1
      unfold Sy at this
      exact this.2.2.2.2.2.2.2.2.2.2.2.2.2.1.2 ht.1
    obtain ⟨B1, b1, b2, b3⟩ := lc_wait hL1 (by omega) (v := 9) (by omega)
    obtain ⟨A2, B2, p2, n2, k2, x2, g1, g2, g3, g4, g5, g6⟩ := ls_adv b2.1
    have hL2 := LC_k b2 g3 g6
    rw [← List.cons_append, ← List.replicate_succ] at hL2
    have r9 : f_M_readAny_9 (fn + 1) (nI br) (nI 1) B = f_M_readAny_9 fn (nI br) (nI 1) B2 := by
      simp (disch := omega) only [f_M_readAny_9, f_M_readAny_33, f_M_readAny_66, f_M_readAny_78, jp_c, decide_eq_true_eq, n_lit, n_add, n_eq, rw6, h28, h8, b1, g2, Option.bind_some, Nat.reduceEqDiff, Nat.reduceAdd, Nat.reduceMul, ite_true, ite_false, if_true, if_false, eq_self_iff_true, ↓reduceIte, and_self, and_true, true_and, and_false, false_and, not_true_eq_false, not_false_eq_true, if_pos, if_neg]
    rw [r9]
    have hp2 := sy_p g3.1
    rcases l_clause hop (fn := fn) (br := br) hL2 hP (by omega) (by omega) (by omega) (by omega) (by omega) (by omega) (by omega) (by omega) (by omega) with ⟨A3, B3, s1, s2, s3⟩ | ⟨A3, B3, p3, n3, k3, x3, E, m, s1, s2, s3, s4, s5, s6, s7, s8⟩
    · refine Or.inl ⟨A3, B3, ?_, s2, s3⟩
      simp (disch := omega) only [f_LR_opened, jp_c, decide_eq_true_eq, n_lit, n_eq, iw, g1, s1, Option.bind_some, Nat.reduceEqDiff, Nat.reduceAdd, Nat.reduceMul, ite_true, ite_false, if_true, if_false, eq_self_iff_true, ↓reduceIte, and_self, and_true, true_and, and_false, false_and, not_true_eq_false, not_false_eq_true, if_pos, if_neg]
    · have hp3 := sy_p s4.1.1
      have lC : (C ++ E.flatMap jenc).length = C.length + (E.flatMap jenc).length := List.length_append
      obtain ⟨A4, a1, a2, a3⟩ := ls_add s4.1 (by omega) (v := 0) (by omega)
      obtain ⟨A5, a4, a5, a6⟩ := ls_add a2 (by rw [List.length_append, List.length_singleton]; omega) (v := 20061) (by omega)
      have eC : C ++ E.flatMap jenc ++ [nI 0] ++ [nI 20061] = C ++ (E ++ [(9, nI 0)]).flatMap jenc := by
        rw [List.flatMap_append, List.flatMap_singleton, List.append_assoc, List.append_assoc]; rfl
      have eG : G ++ E ++ List.replicate (j + 1) (9, nI 0) = G ++ (E ++ [(9, nI 0)]) ++ List.replicate j (9, nI 0) := by
        rw [List.replicate_succ, List.append_assoc, List.append_assoc, List.append_assoc]; rfl
      rw [eC, eG] at a5
      refine Or.inr ⟨A5, B3, p3, n3, k3, x3, E ++ [(9, nI 0)], m, ?_, s2, s3, ⟨a5, ?_, s4.2.2⟩, ?_, ?_, by omega, kpL_t (kpL_104 A B _) (kpL_t b3 (kpL_t g5 (kpL_t s8 (kpL_t a3 a6))))⟩
      · simp (disch := omega) only [f_LR_opened, jp_c, decide_eq_true_eq, n_lit, n_eq, iw, g1, s1, a1, a4, Option.bind_some, Nat.reduceEqDiff, Nat.reduceAdd, Nat.reduceMul, ite_true, ite_false, if_true, if_false, eq_self_iff_true, ↓reduceIte, and_self, and_true, true_and, and_false, false_and, not_true_eq_false, not_false_eq_true, if_pos, if_neg]
      · rw [s4.2.1]; congr 1; omega
      · intro s hs
        exact ty_app (s5 s (by omega)) (ty_not (by omega) (by rw [jtyp]))
      · rw [List.flatMap_append, List.length_append]
        show _ + 2 + p ≤ p3
        omega
  · rw [if_neg (by omega)] at iw rw6
    rw [if_pos ht] at rs
    obtain ⟨B1, b1, b2, b3⟩ := lc_wait hL1 (by omega) (v := 12) (by omega)
    obtain ⟨A2, B2, p2, n2, k2, x2, g1, g2, g3, g4, g5, g6⟩ := ls_adv b2.1
    have hL2 := LC_k b2 g3 g6
    have r9 : f_M_readAny_9 (fn + 1) (nI br) (nI 1) B = f_M_readAny_9 fn (nI (br + 1)) (nI 1) B2 := by
      simp (disch := omega) only [f_M_readAny_9, f_M_readAny_33, f_M_readAny_66, f_M_readAny_78, jp_c, decide_eq_true_eq, n_lit, n_add, n_eq, rw6, rs, h28, h8, b1, g2, Option.bind_some, Nat.reduceEqDiff, Nat.reduceAdd, Nat.reduceMul, ite_true, ite_false, if_true, if_false, eq_self_iff_true, ↓reduceIte, and_self, and_true, true_and, and_false, false_and, not_true_eq_false, not_false_eq_true, if_pos, if_neg]
    rw [r9]
    have hp2 := sy_p g3.1
    have hc := l_cond hop (N - p2 + 1) p2 n2 k2 x2 A2 B2 C G (o + 1) (12 :: (List.replicate j 9 ++ P)) 0 0 0 jFu fn (br + 1) (by omega) (by simpa using hL2) (Or.inr rfl) (by omega) (by omega) (by omega) (by rw [List.length_cons]; omega) (by omega) (by omega) (by omega) (by omega) (by omega) (show 400 < 100000 + p2 by omega) (by omega)
    rcases hc with ⟨A3, B3, s1, s2, s3⟩ | ⟨A3, B3, p3, n3, k3, x3, E, m, s1, s2, s3, s4, s5, s6, s7, s8⟩
    · refine Or.inl ⟨A3, B3, ?_, s2, s3⟩
      simp (disch := omega) only [f_LR_opened, f_LR_condition, jp_c, decide_eq_true_eq, n_lit, n_eq, iw, g1, s1, Option.bind_some, Nat.reduceEqDiff, Nat.reduceAdd, Nat.reduceMul, ite_true, ite_false, if_true, if_false, eq_self_iff_true, ↓reduceIte, and_self, and_true, true_and, and_false, false_and, not_true_eq_false, not_false_eq_true, if_pos, if_neg]
    · have hp3 := sy_p s4.1.1
      have i41 := sy_sA s4.1.1 (w := 41) (by omega)
      have r41 := sy_sB s4.1.1 (w := 41) (by omega)
      rw [s2]
      by_cases h41 : k3 = 3 ∧ x3 = 41
      · rw [if_pos h41] at i41 r41
        have hpn3 := hp3.2.2.2 (by omega)
        have hL5 := lc_open (lc_pop s4) o
        have fE := fm_len E
        obtain ⟨B6, v1, v2, v3⟩ := lc_settle (w := 9) (by omega) hP j _ _ o jFu (show j < 100000 by omega) hL5 (by rw [List.length_append]; omega) (fun _ => hj) (by omega) (by omega)
        rw [if_pos rfl] at v2
        obtain ⟨A7, B7, p7, n7, k7, x7, y1, y2, y3, y4, y5, y6⟩ := ls_adv v2.1
        have hL7 := LC_k v2 y3 y6
        have hp7 := sy_p y3.1
        refine Or.inr ⟨A7, B7, p7, n7, k7, x7, E, m, ?_, ?_, by omega, hL7, ?_, by omega, by omega, kpL_t (kpL_104 A B _) (kpL_t b3 (kpL_t g5 (kpL_t s8 (kpL_t (kpL_104 A3 B3 _) (kpL_t (kpL_104 A3 _ _) (kpL_t v3 y5))))))⟩
        · simp (disch := omega) only [f_LR_opened, f_LR_condition, f_R_passesSign, jp_c, decide_eq_true_eq, n_lit, n_eq, iw, g1, s1, i41, y1, Option.bind_some, Nat.reduceEqDiff, Nat.reduceAdd, Nat.reduceMul, ite_true, ite_false, if_true, if_false, eq_self_iff_true, ↓reduceIte, and_self, and_true, true_and, and_false, false_and, not_true_eq_false, not_false_eq_true, if_pos, if_neg]
        · have e30 := s4.2.2.1
          rw [List.length_cons] at e30
          have e28 := s4.2.1
          have e9 : f_M_settles (nI 9) (jp_set (jp_set B3 104 (upd (B3 104) 30 (nI (List.replicate j 9 ++ P).length))) 104 (upd ((jp_set B3 104 (upd (B3 104) 30 (nI (List.replicate j 9 ++ P).length))) 104) 28 (nI o))) = some B6 := by rw [f_M_settles]; exact v1
          rw [st_st, st_same] at e9
          have n30 : nI ((List.replicate j 9 ++ P).length + 1) - nI 1 = nI (List.replicate j 9 ++ P).length := by rw [n_sub (by omega)]; congr 1
          have n28 : nI (o + 1) - nI 1 = nI o := by rw [n_sub (by omega)]; congr 1
          have nbr : nI (br + 1) - nI 1 = nI br := by rw [n_sub (by omega)]; congr 1
          have hbr0 : ¬ br + 1 = 0 := by omega
          simp (disch := omega) only [RF, jp_c, decide_eq_true_eq, n_lit, n_eq, r41, st_ap, st_st, ud_ap, e30, e28, n30, n28, nbr, hbr0, e9, y2, Option.bind_some, Nat.reduceEqDiff, Nat.reduceAdd, Nat.reduceMul, ite_true, ite_false, if_true, if_false, eq_self_iff_true, ↓reduceIte, and_self, and_true, true_and, and_false, false_and, not_true_eq_false, not_false_eq_true, if_pos, if_neg]
        · intro s hs
          exact s5 s (by omega)
      · rw [if_neg h41] at i41 r41
        have hbr0 : ¬ br + 1 = 0 := by omega
        refine Or.inl ⟨(f_R_fails (nI 1) A3).2, (f_M_errs (nI 1) B3).2, ?_, ?_, ls_fl s4.1 _⟩
        · simp (disch := omega) only [f_LR_opened, f_LR_condition, f_R_passesSign, f_R_fails, jp_c, decide_eq_true_eq, n_lit, n_eq, iw, g1, s1, i41, Option.bind_some, Nat.reduceEqDiff, Nat.reduceAdd, Nat.reduceMul, ite_true, ite_false, if_true, if_false, eq_self_iff_true, ↓reduceIte, and_self, and_true, true_and, and_false, false_and, not_true_eq_false, not_false_eq_true, if_pos, if_neg]
        · simp (disch := omega) only [RF, f_M_errs, jp_c, decide_eq_true_eq, n_lit, n_neg1, n_eq, r41, hbr0, Nat.reduceEqDiff, Nat.reduceAdd, Nat.reduceMul, ite_true, ite_false, if_true, if_false, eq_self_iff_true, ↓reduceIte, and_self, and_true, true_and, and_false, false_and, not_true_eq_false, not_false_eq_true, if_pos, if_neg]
end
theorem opn_all (N : Nat) (t : Nat → Nat) (A0 B0 : jp_M) : ∀ h, OPN N t A0 B0 (f_LR_opened h) h
  | 0 => fun p n k x A B C G o P j br fn _ _ _ h1 h2 => absurd h2 (by omega)
  | h + 1 => l_open (opn_all N t A0 B0 h)
/-- B -/
theorem p_cond {N : Nat} {t : Nat → Nat} {A0 B0 A B : jp_M} {p n k x : Nat} {C : List Int32} {G : List (Nat × Int32)} (h : xLS N t A0 B0 A B p n k x C G) (h28 : B 104 28 = nI 0) (hp : 1 ≤ p) (hC : C.length ≤ p) (hG : G.length ≤ p) :
    (∃ A' B', f_LR_condition (f_LR_opened 10) (nI 0) 1000 A = some (nI 0, A') ∧ f_M_readAny B = some (nI 4294967295, B') ∧ Fl A0 B0 A' B') ∨
    (∃ A' B' p' n' k' x' E, f_LR_condition (f_LR_opened 10) (nI 0) 1000 A = some (nI 1, A') ∧ f_M_readAny B = some (nI 0, B') ∧ xLS N t A0 B0 A' B' p' n' k' x' (C ++ E.flatMap jenc) (G ++ E) ∧ B' 104 28 = nI 0 ∧ jtyp E [] [2] ∧ (E.flatMap jenc).length + p ≤ p' ∧ kpL A A' B B') := by
  have hL : LC N t A0 B0 A (jp_set B 104 (upd (B 104) 30 (nI 0))) p n k x C G 0 [] := ⟨LS_o h (Or.inr rfl) _, by rw [st_same, ud_ne (by decide)]; exact h28, by rw [st_same, ud_eq rfl]; rfl, trivial, fun y hy => absurd hy (by simp)⟩
  have hpp := sy_p h.1
  have e1 : f_M_readAny B = f_M_readAny_9 jFu (nI 0) (nI 1) (jp_set B 104 (upd (B 104) 30 (nI 0))) := rfl
  have e2 : f_LR_condition (f_LR_opened 10) (nI 0) 1000 A = f_LR_condition_7 (f_LR_opened 10) jFu (nI 0) (nI 0) (nI 0) (nI 0) 1000 A := rfl
  rw [e1, e2]
  rcases l_cond (opn_all N t A0 B0 10) (N - p + 1) p n k x A _ C G 0 [] 0 0 0 jFu jFu 0 (by omega) hL (Or.inl rfl) (by omega) (by omega) (by omega) (by simp) (by omega) (by omega) (by omega) (by omega) (by omega) (show 400 < 100000 + p by omega) (show 400 < 100000 + p by omega) with h' | ⟨A', B', p', n', k', x', E, m, s1, s2, s3, s4, s5, s6, s7, s8⟩
  · exact Or.inl h'
  · refine Or.inr ⟨A', B', p', n', k', x', E, s1, ?_, s4.1, s4.2.1, s5 [] (by simp), by omega, kpL_t (kpL_104 A B _) s8⟩
    rw [s2]
    simp only [RF, jp_c, decide_eq_true_eq, n_lit, Nat.reduceEqDiff, Nat.reduceAdd, Nat.reduceMul, ite_true, ite_false, if_true, if_false, eq_self_iff_true, ↓reduceIte, and_self, and_true, true_and, and_false, false_and, not_true_eq_false, not_false_eq_true, if_pos, if_neg]
