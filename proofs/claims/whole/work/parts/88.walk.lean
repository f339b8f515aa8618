def eC (x : Nat) : Nat := if x = 1000 then 4294967295 else x
/-- the class's steps, ways and queue -/
def CS (A : jp_M) (st w q : Nat → Nat) (n : Nat) (M : jp_M) : Prop := (∀ p, ¬ p = 56 → ¬ p = 58 → ¬ p = 59 → ¬ p = 60 → M p = A p) ∧ (∀ v, v < 80 → M 58 v = nI (eC (st v)) ∧ M 59 v = nI (w v)) ∧ M 56 5 = nI n ∧ ∀ j, j < n → M 60 j = nI (q j)
/-- how far the class is: at the queue's place i, of whose neighbours those in D are done -/
def QI (F : Nat → Bool) (i n : Nat) (q st : Nat → Nat) (E : Nat → Nat → Bool) (D : Nat → Bool) : Prop := n ≤ 80 ∧ i < n ∧ (∀ j, j < n → q j < 80 ∧ st (q j) ≤ 80 ∧ st (q j) ≤ j) ∧ (∀ a b, a < n → b < n → q a = q b → a = b) ∧ (∀ a b, a ≤ b → b < n → st (q a) ≤ st (q b)) ∧ (∀ j, j < n → st (q j) ≤ st (q i) + 1) ∧
  (∀ v, v < 80 → st v ≤ 80 → ∃ j, j < n ∧ q j = v) ∧ (∀ a x, E a x = true → (∃ j, j < i ∧ q j = a) ∨ (a = q i ∧ D x = true)) ∧ (∀ j, j < i → ∀ x, x < 80 → adj (q j) x = true → F x = true → E (q j) x = true) ∧ ∀ x, x < 80 → D x = true → adj (q i) x = true → F x = true → E (q i) x = true
def addD (D : Nat → Bool) (v : Nat) : Nat → Bool := fun x => if x = v then true else D x
/-- one neighbour -/
theorem c_go {A M : jp_M} {g : Nat → Int32} {U s i n r h : Nat} {st w q : Nat → Nat} {E : Nat → Nat → Bool} {D : Nat → Bool} (hs : s < 80) (hfA : ∀ r, r < 10 → frA A g U r) (hr : r < 10) (hh : h < 8) (hC : CS A st w q n M) (hB : BI s (fcl g U) st w E) (hQ : QI (fcl g U) i n q st E D) (ha : adj (q i) (8 * r + h) = true) (hD : D (8 * r + h) = false) :
    ∃ M' st' w' q' n' E', f_T_reaches (nI (q i)) (nI r) (nI h) M = some M' ∧ CS A st' w' q' n' M' ∧ BI s (fcl g U) st' w' E' ∧ QI (fcl g U) i n' q' st' E' (addD D (8 * r + h)) ∧ q' i = q i := by
  obtain ⟨m1, m2, m3, m4⟩ := hC
  obtain ⟨q1, q2, q3, q4, q5, q6, q7, q8, q9, q10⟩ := hQ
  have hf0 := p_tf (M := M) (g := g) (U := U) (r := r) (h := h) (by
    obtain ⟨w, w1, w2, w3⟩ := hfA r hr
    exact ⟨w, w1, by rw [m1 57 (by decide) (by decide) (by decide) (by decide), w2], w3⟩) hr hh
  have hfe : fcl g U (8 * r + h) = fr g U (nI r) h := by
    unfold fcl
    rw [show (8 * r + h) / 8 = r by omega, show (8 * r + h) % 8 = h by omega]
  rw [← hfe] at hf0
  have hv : 8 * r + h < 80 := by omega
  obtain ⟨u1, u2, u3⟩ := q3 i q2
  generalize hv0 : 8 * r + h = v at *
  have huv : ¬ q i = v := by
    intro e
    rw [e, adj_i] at ha; exact absurd ha (by decide)
  have hsu : st (q i) < 80 := by omega
  obtain ⟨o1, o2⟩ := m2 v hv
  obtain ⟨c1, c2⟩ := m2 (q i) u1
  have hcx : eC (st (q i)) = st (q i) := if_neg (by omega)
  rw [hcx] at c1
  rcases Bool.eq_false_or_eq_true (fcl g U v) with hf | hf
  · rw [hf] at hf0
    have hE : E (q i) v = false := by
      rcases Bool.eq_false_or_eq_true (E (q i) v) with e | e
      · rcases q8 (q i) v e with ⟨j, j1, j2⟩ | ⟨-, d⟩
        · have := q4 j i (by omega) q2 j2; omega
        · rw [hD] at d; exact absurd d (by decide)
      · exact e
    have hle : st v ≤ st (q i) + 1 ∨ st v = 1000 := by
      rcases hB.j1 v hv with e | e
      · exact Or.inr e
      · obtain ⟨j, j1, j2⟩ := q7 v hv e
        have := q6 j j1
        rw [j2] at this
        exact Or.inl this
    have hno : st v ≤ st (q i) ∨ ∀ x, E v x = false := by
      by_cases hlt : st v ≤ st (q i)
      · exact Or.inl hlt
      · right
        intro x
        rcases Bool.eq_false_or_eq_true (E v x) with e | e
        · rcases q8 v x e with ⟨j, j1, j2⟩ | ⟨d, -⟩
          · have := q5 j i (by omega) q2
            rw [j2] at this; omega
          · exact absurd d.symm huv
        · exact e
    have hB' := BI_rel hB hs u1 hv ha hf hsu hE hle hno
    have wo := hB.jw v hv
    have wc := hB.jw (q i) u1
    have hPR : PR = 1000000007 := rfl
    have e8 : ∀ a x, eR' E (q i) v a x = true → (∃ j, j < i ∧ q j = a) ∨ (a = q i ∧ addD D v x = true) := by
      intro a x e
      unfold eR' at e
      by_cases hax : a = q i ∧ x = v
      · right; exact ⟨hax.1, if_pos hax.2⟩
      · rw [if_neg hax] at e
        rcases q8 a x e with e1 | ⟨e1, e2⟩
        · exact Or.inl e1
        · right
          refine ⟨e1, ?_⟩
          unfold addD
          split
          · rfl
          · exact e2
    have e9 : ∀ j, j < i → ∀ x, x < 80 → adj (q j) x = true → fcl g U x = true → eR' E (q i) v (q j) x = true := by
      intro j hj x hx h1 h2
      unfold eR'
      split
      · rfl
      · exact q9 j hj x hx h1 h2
    have e10 : ∀ x, x < 80 → addD D v x = true → adj (q i) x = true → fcl g U x = true → eR' E (q i) v (q i) x = true := by
      intro x hx h1 h2 h3
      unfold eR'
      by_cases hxv : x = v
      · rw [if_pos ⟨rfl, hxv⟩]
      · rw [if_neg (fun e => hxv e.2)]
        unfold addD at h1
        rw [if_neg hxv] at h1
        exact q10 x hx h1 h2 h3
    by_cases h1 : st v = 1000
    · -- new in the queue
      have hn80 : n < 80 := by
        have := php 80 (n + 1) (fun j => if j = n then v else q j) (by
          intro j hj
          split
          · exact hv
          · exact (q3 j (by omega)).1) (by
          intro a b ha' hb' e
          split at e
          · split at e
            · omega
            · have := (q3 b (by omega)).2.1
              rw [← e] at this; omega
          · split at e
            · have := (q3 a (by omega)).2.1
              rw [e] at this; omega
            · exact q4 a b (by omega) (by omega) e)
        omega
      have e1 : stR st (q i) v = upN st v (st (q i) + 1) := if_pos h1
      have e2 : wR' st w (q i) v = upN w v ((w v + w (q i)) % PR) := by unfold wR'; rw [e1, if_pos (show upN st v (st (q i) + 1) v = st (q i) + 1 from if_pos rfl)]
      rw [e1, e2] at hB'
      have sx : ∀ x, ¬ x = v → upN st v (st (q i) + 1) x = st x := fun x hx => if_neg hx
      have sv : upN st v (st (q i) + 1) v = st (q i) + 1 := if_pos rfl
      have qn : upN q n v n = v := if_pos rfl
      have qx : ∀ j, ¬ j = n → upN q n v j = q j := fun j hj => if_neg hj
      have qv : ∀ j, j < n → ¬ q j = v := by
        intro j hj e
        have := (q3 j hj).2.1
        rw [e] at this; omega
      have x1 : eC (st v) = 4294967295 := if_pos h1
      rw [x1] at o1
      refine ⟨jp_set (jp_set (jp_set (jp_set M 58 (upd (M 58) v (nI (st (q i) + 1)))) 60 (upd (M 60) n (nI v))) 56 (upd (M 56) 5 (nI (n + 1)))) 59 (upd (M 59) v (nI ((w v + w (q i)) % PR))), upN st v (st (q i) + 1), upN w v ((w v + w (q i)) % PR), upN q n v, n + 1, eR' E (q i) v, ?_, ⟨?_, ?_, ?_, ?_⟩, hB', ⟨by omega, by omega, ?_, ?_, ?_, ?_, ?_, ?_, ?_, ?_⟩, qx i (by omega)⟩
      · have hin : ¬ 80 ≤ n := by omega
        have huv' : ¬ v = q i := fun e => huv e.symm
        simp (disch := omega) only [f_T_reaches, f_T_reaches_74, jp_c, decide_eq_true_eq, n_lit, n_neg1, n_add, n_mul, n_mod, n_le, n_eq, n_in, n_cl, Nat.reduceEqDiff, Nat.reduceAdd, Nat.reduceMul, ite_true, ite_false, if_true, if_false, eq_self_iff_true, ↓reduceIte, and_self, and_true, true_and, and_false, false_and, not_true_eq_false, not_false_eq_true, if_pos, if_neg, hf0, hv0, o1, o2, c1, c2, m3, hin, Option.bind_some, jg_t, st_ap, ud_eq, ud_ne]
        rw [hPR]
      · intro p p1 p2 p3 p4; rw [st_ne p3, st_ne p1, st_ne p4, st_ne p2, m1 p p1 p2 p3 p4]
      · intro x hx
        rw [st_ne (by decide), st_ne (by decide), st_ne (by decide), st_same, st_same]
        by_cases hxv : x = v
        · subst hxv
          rw [ud_eq rfl, ud_eq rfl, sv, show upN w x ((w x + w (q i)) % PR) x = (w x + w (q i)) % PR from if_pos rfl]
          unfold eC
          rw [if_neg (by omega)]
          exact ⟨rfl, rfl⟩
        · rw [ud_ne hxv, ud_ne hxv, sx x hxv, show upN w v ((w v + w (q i)) % PR) x = w x from if_neg hxv]
          exact m2 x hx
      · rw [st_ne (by decide), st_same, ud_eq rfl]
      · intro j hj
        rw [st_ne (by decide), st_ne (by decide), st_same]
        by_cases hjn : j = n
        · rw [ud_eq hjn, hjn, qn]
        · rw [ud_ne hjn, qx j hjn]; exact m4 j (by omega)
      · intro j hj
        by_cases hjn : j = n
        · rw [hjn, qn, sv]; exact ⟨hv, by omega, by omega⟩
        · rw [qx j hjn, sx _ (qv j (by omega))]; exact q3 j (by omega)
      · intro a b ha' hb' e
        by_cases han : a = n
        · by_cases hbn : b = n
          · omega
          · rw [han, qn, qx b hbn] at e
            exact absurd e.symm (qv b (by omega))
        · by_cases hbn : b = n
          · rw [hbn, qn, qx a han] at e
            exact absurd e (qv a (by omega))
          · rw [qx a han, qx b hbn] at e
            exact q4 a b (by omega) (by omega) e
      · intro a b hab hb'
        by_cases hbn : b = n
        · rw [hbn, qn, sv]
          by_cases han : a = n
          · rw [han, qn, sv]; omega
          · rw [qx a han, sx _ (qv a (by omega))]; exact q6 a (by omega)
        · rw [qx b hbn, sx _ (qv b (by omega)), qx a (by omega), sx _ (qv a (by omega))]; exact q5 a b hab (by omega)
      · intro j hj
        rw [qx i (by omega), sx _ huv]
        by_cases hjn : j = n
        · rw [hjn, qn, sv]; omega
        · rw [qx j hjn, sx _ (qv j (by omega))]; exact q6 j (by omega)
      · intro x hx hx80
        by_cases hxv : x = v
        · exact ⟨n, by omega, by rw [qn, hxv]⟩
        · rw [sx x hxv] at hx80
          obtain ⟨j, j1, j2⟩ := q7 x hx hx80
          exact ⟨j, by omega, by rw [qx j (by omega), j2]⟩
      · intro a x e
        rcases e8 a x e with ⟨j, j1, j2⟩ | ⟨d1, d2⟩
        · exact Or.inl ⟨j, j1, by rw [qx j (by omega), j2]⟩
        · exact Or.inr ⟨by rw [qx i (by omega)]; exact d1, d2⟩
      · intro j hj x hx g1 g2
        rw [qx j (by omega)] at g1 ⊢
        exact e9 j hj x hx g1 g2
      · intro x hx g0 g1 g2
        rw [qx i (by omega)] at g1 ⊢
        exact e10 x hx g0 g1 g2
    · have h80 := (hB.j1 v hv).resolve_left h1
      have e1 : stR st (q i) v = st := if_neg h1
      have x1 : eC (st v) = st v := if_neg h1
      rw [x1] at o1
      have hn : ¬ st v = 4294967295 := by omega
      have hQ' : QI (fcl g U) i n q st (eR' E (q i) v) (addD D v) := ⟨q1, q2, q3, q4, q5, q6, q7, e8, e9, e10⟩
      by_cases h2 : st v = st (q i) + 1
      · have e2 : wR' st w (q i) v = upN w v ((w v + w (q i)) % PR) := by unfold wR'; rw [e1, if_pos h2]
        rw [e1, e2] at hB'
        refine ⟨jp_set M 59 (upd (M 59) v (nI ((w v + w (q i)) % PR))), st, upN w v ((w v + w (q i)) % PR), q, n, eR' E (q i) v, ?_, ⟨?_, ?_, ?_, ?_⟩, hB', hQ', rfl⟩
        · simp (disch := omega) only [f_T_reaches, f_T_reaches_74, jp_c, decide_eq_true_eq, n_lit, n_neg1, n_add, n_mul, n_mod, n_le, n_eq, n_in, n_cl, Nat.reduceEqDiff, Nat.reduceAdd, Nat.reduceMul, ite_true, ite_false, if_true, if_false, eq_self_iff_true, ↓reduceIte, and_self, and_true, true_and, and_false, false_and, not_true_eq_false, not_false_eq_true, if_pos, if_neg, hf0, hv0, o1, o2, c1, c2, hn, h2, Option.bind_some, jg_t]
          rw [hPR]
        · intro p p1 p2 p3 p4; rw [st_ne p3, m1 p p1 p2 p3 p4]
        · intro x hx
          rw [st_ne (by decide), st_same]
          by_cases hxv : x = v
          · subst hxv
            rw [ud_eq rfl, show upN w x ((w x + w (q i)) % PR) x = (w x + w (q i)) % PR from if_pos rfl]
            exact ⟨(m2 x hx).1, rfl⟩
          · rw [ud_ne hxv, show upN w v ((w v + w (q i)) % PR) x = w x from if_neg hxv]
            exact m2 x hx
        · rw [st_ne (by decide), m3]
        · intro j hj; rw [st_ne (by decide)]; exact m4 j hj
      · have e2 : wR' st w (q i) v = w := by unfold wR'; rw [e1, if_neg h2]
        rw [e1, e2] at hB'
        refine ⟨M, st, w, q, n, eR' E (q i) v, ?_, ⟨m1, m2, m3, m4⟩, hB', hQ', rfl⟩
        simp (disch := omega) only [f_T_reaches, f_T_reaches_74, jp_c, decide_eq_true_eq, n_lit, n_neg1, n_add, n_mul, n_le, n_eq, n_in, n_cl, Nat.reduceEqDiff, Nat.reduceAdd, Nat.reduceMul, ite_true, ite_false, if_true, if_false, eq_self_iff_true, ↓reduceIte, and_self, and_true, true_and, and_false, false_and, not_true_eq_false, not_false_eq_true, if_pos, if_neg, hf0, hv0, o1, c1, hn, h2, Option.bind_some, jg_t]
  · rw [hf] at hf0
    refine ⟨M, st, w, q, n, E, ?_, ⟨m1, m2, m3, m4⟩, hB, ⟨q1, q2, q3, q4, q5, q6, q7, ?_, q9, ?_⟩, rfl⟩
    · simp (disch := omega) only [f_T_reaches, jp_c, decide_eq_true_eq, n_lit, n_eq, Nat.reduceEqDiff, Nat.reduceAdd, Nat.reduceMul, ite_true, ite_false, if_true, if_false, eq_self_iff_true, ↓reduceIte, and_self, and_true, true_and, and_false, false_and, not_true_eq_false, not_false_eq_true, if_pos, if_neg, hf0, Option.bind_some, Bool.false_eq_true]
    · intro a x e
      rcases q8 a x e with e1 | ⟨e1, e2⟩
      · exact Or.inl e1
      · right
        refine ⟨e1, ?_⟩
        unfold addD
        split
        · rfl
        · exact e2
    · intro x hx h1 h2 h3
      unfold addD at h1
      by_cases hxv : x = v
      · rw [hxv, hf] at h3; exact absurd h3 (by decide)
      · rw [if_neg hxv] at h1
        exact q10 x hx h1 h2 h3
/-- out of the air -/
theorem c_no {u r h : Int32} {M : jp_M} (hn : ¬ (nI 0 ≤ r ∧ r ≤ nI 9) ∨ ¬ (nI 0 ≤ h ∧ h ≤ nI 7)) : f_T_reaches u r h M = some M := by
  have : f_T_isFree r h M = some (nI 0) := by
    by_cases h1 : nI 0 ≤ r ∧ r ≤ nI 9
    · have h2 := hn.resolve_left (fun e => e h1)
      simp (disch := omega) only [f_T_isFree, n_within, n_it0, jp_c, decide_eq_true_eq, n_lit, n_eq, Nat.reduceEqDiff, Nat.reduceAdd, Nat.reduceMul, ite_true, ite_false, if_true, if_false, eq_self_iff_true, ↓reduceIte, and_self, and_true, true_and, and_false, false_and, not_true_eq_false, not_false_eq_true, if_pos, if_neg, h1, h2]
    · simp (disch := omega) only [f_T_isFree, n_within, n_it0, jp_c, decide_eq_true_eq, n_lit, n_eq, Nat.reduceEqDiff, Nat.reduceAdd, Nat.reduceMul, ite_true, ite_false, if_true, if_false, eq_self_iff_true, ↓reduceIte, and_self, and_true, true_and, and_false, false_and, not_true_eq_false, not_false_eq_true, if_pos, if_neg, h1]
  simp (disch := omega) only [f_T_reaches, jp_c, decide_eq_true_eq, n_lit, Nat.reduceEqDiff, Nat.reduceAdd, Nat.reduceMul, ite_true, ite_false, if_true, if_false, eq_self_iff_true, ↓reduceIte, and_self, and_true, true_and, and_false, false_and, not_true_eq_false, not_false_eq_true, if_pos, if_neg, this, Option.bind_some]
