theorem n_bes {c o : Nat} (hc : c < 80) (ho : o < 80) : f_M_isBeside (nI c) (nI o) = if adj c o then nI 1 else nI 0 := by
  unfold adj
  by_cases h : c / 8 - o / 8 + (o / 8 - c / 8) + (c % 8 - o % 8 + (o % 8 - c % 8)) = 1
  · simp (disch := omega) only [f_M_isBeside, jp_c, decide_eq_true_eq, n_lit, n_div, n_mod, n_apt, n_add, n_eq, Nat.reduceEqDiff, Nat.reduceAdd, Nat.reduceMul, ite_true, ite_false, if_true, if_false, eq_self_iff_true, ↓reduceIte, and_self, and_true, true_and, and_false, false_and, not_true_eq_false, not_false_eq_true, if_pos, if_neg, h, decide_true]
  · simp (disch := omega) only [f_M_isBeside, jp_c, decide_eq_true_eq, n_lit, n_div, n_mod, n_apt, n_add, n_eq, Nat.reduceEqDiff, Nat.reduceAdd, Nat.reduceMul, ite_true, ite_false, if_true, if_false, eq_self_iff_true, ↓reduceIte, and_self, and_true, true_and, and_false, false_and, not_true_eq_false, not_false_eq_true, if_pos, if_neg, h, decide_false, Bool.false_eq_true]
theorem n_added {a b : Nat} (ha : a < PR) (hb : b < PR) : f_M_added (nI a) (nI b) = nI ((a + b) % PR) := by
  unfold PR at *
  by_cases h : a < 1000000007 - b
  · rw [Nat.mod_eq_of_lt (by omega)]
    simp (disch := omega) only [f_M_added, jp_c, decide_eq_true_eq, n_lit, n_sub, n_lt, n_add, Nat.reduceEqDiff, Nat.reduceAdd, Nat.reduceMul, ite_true, ite_false, if_true, if_false, eq_self_iff_true, ↓reduceIte, and_self, and_true, true_and, and_false, false_and, not_true_eq_false, not_false_eq_true, if_pos, if_neg, h]
  · rw [show (a + b) % 1000000007 = a - (1000000007 - b) by omega]
    simp (disch := omega) only [f_M_added, jp_c, decide_eq_true_eq, n_lit, n_sub, n_lt, n_add, Nat.reduceEqDiff, Nat.reduceAdd, Nat.reduceMul, ite_true, ite_false, if_true, if_false, eq_self_iff_true, ↓reduceIte, and_self, and_true, true_and, and_false, false_and, not_true_eq_false, not_false_eq_true, if_pos, if_neg, h]
/-- a free cell -/
def fcl (g : Nat → Int32) (U v : Nat) : Bool := fr g U (nI (v / 8)) (v % 8)
def eM (x : Nat) : Nat := if x = 1000 then 100000000 else x
/-- the reference's steps and ways -/
def MS (B : jp_M) (st w : Nat → Nat) (M : jp_M) : Prop := (∀ q, ¬ q = 127 → ¬ q = 128 → M q = B q) ∧ ∀ v, v < 80 → M 128 v = nI (eM (st v)) ∧ M 127 v = nI (w v)
theorem r_step {B M : jp_M} {U c o : Nat} {st w : Nat → Nat} (hU : U ≤ 16) (h5 : B 105 5 = nI U) (hM : MS B st w M) (hc : c < 80) (ho : o < 80) (hst : ∀ v, v < 80 → st v = 1000 ∨ st v ≤ 80) (hw : ∀ v, v < 80 → w v < PR) (hk : st c < 80) (n : Nat) :
    ∃ M', f_M_goesFrom_2 (n + 1) (nI c) (nI (st c)) (nI o) M = f_M_goesFrom_2 n (nI c) (nI (st c)) (nI (o + 1)) M' ∧ (if adj c o = true ∧ fcl (B 105) U o = true then MS B (stR st c o) (wR' st w c o) M' else MS B st w M') := by
  obtain ⟨m1, m2⟩ := hM
  have bs := n_bes hc ho
  have fr0 := p_isFree (B := M) hU (by rw [m1 105 (by decide) (by decide), h5]) (nI (o / 8)) (o % 8)
  rw [m1 105 (by decide) (by decide)] at fr0
  have hfc : f_M_isFreeCell (nI o) M = some (if fcl (B 105) U o then nI 1 else nI 0) := by
    simp (disch := omega) only [f_M_isFreeCell, n_lit, n_div, n_mod, fr0, Option.bind_some, fcl]
    rfl
  obtain ⟨o1, o2⟩ := m2 o ho
  obtain ⟨c1, c2⟩ := m2 c hc
  rcases Bool.eq_false_or_eq_true (adj c o) with ha | ha
  · rw [ha] at bs
    rcases Bool.eq_false_or_eq_true (fcl (B 105) U o) with hf | hf
    · rw [hf] at hfc
      simp only [ha, hf, and_self, ↓reduceIte]
      have hco : ¬ o = c := by
        rintro rfl
        rw [adj_i] at ha; exact absurd ha (by decide)
      have wo := hw o ho
      have wc := hw c hc
      have ad := n_added wo wc
      have hPR : PR = 1000000007 := rfl
      by_cases h1 : st o = 1000
      · have e1 : stR st c o = upN st o (st c + 1) := if_pos h1
        have e2 : wR' st w c o = upN w o ((w o + w c) % PR) := by unfold wR'; rw [e1, if_pos (show upN st o (st c + 1) o = st c + 1 from if_pos rfl)]
        rw [e1, e2]
        have x1 : eM (st o) = 100000000 := if_pos h1
        rw [x1] at o1
        refine ⟨jp_set (jp_set M 128 (upd (M 128) o (nI (st c + 1)))) 127 (upd (M 127) o (nI ((w o + w c) % PR))), ?_, ?_, ?_⟩
        · simp (disch := omega) only [f_M_goesFrom_2, f_M_goesFrom_49, f_M_goesFrom_83, jp_c, decide_eq_true_eq, n_lit, n_add, n_le, n_eq, n_in, n_cl, Nat.reduceEqDiff, Nat.reduceAdd, Nat.reduceMul, ite_true, ite_false, if_true, if_false, eq_self_iff_true, ↓reduceIte, and_self, and_true, true_and, and_false, false_and, not_true_eq_false, not_false_eq_true, if_pos, if_neg, bs, hfc, o1, o2, c2, ad, Option.bind_some, jg_t, jg_T, st_ap, ud_ap]
        · intro q q1 q2; rw [st_ne q1, st_ne q2, m1 q q1 q2]
        · intro v hv
          rw [st_ne (by decide), st_same, st_same]
          by_cases hvo : v = o
          · subst hvo
            rw [ud_eq rfl, ud_eq rfl]
            have y1 : upN st v (st c + 1) v = st c + 1 := if_pos rfl
            have y2 : upN w v ((w v + w c) % PR) v = (w v + w c) % PR := if_pos rfl
            rw [y1, y2]
            unfold eM
            rw [if_neg (by omega)]
            exact ⟨rfl, rfl⟩
          · rw [ud_ne hvo, ud_ne hvo]
            have y1 : upN st o (st c + 1) v = st v := if_neg hvo
            have y2 : upN w o ((w o + w c) % PR) v = w v := if_neg hvo
            rw [y1, y2]
            exact m2 v hv
      · have h80 := (hst o ho).resolve_left h1
        have e1 : stR st c o = st := if_neg h1
        have x1 : eM (st o) = st o := if_neg h1
        rw [x1] at o1
        have hn : ¬ st o = 100000000 := by omega
        by_cases h2 : st o = st c + 1
        · have e2 : wR' st w c o = upN w o ((w o + w c) % PR) := by unfold wR'; rw [e1, if_pos h2]
          rw [e1, e2]
          refine ⟨jp_set M 127 (upd (M 127) o (nI ((w o + w c) % PR))), ?_, ?_, ?_⟩
          · simp (disch := omega) only [f_M_goesFrom_2, f_M_goesFrom_49, f_M_goesFrom_83, jp_c, decide_eq_true_eq, n_lit, n_add, n_le, n_eq, n_in, n_cl, Nat.reduceEqDiff, Nat.reduceAdd, Nat.reduceMul, ite_true, ite_false, if_true, if_false, eq_self_iff_true, ↓reduceIte, and_self, and_true, true_and, and_false, false_and, not_true_eq_false, not_false_eq_true, if_pos, if_neg, bs, hfc, o1, o2, c2, ad, hn, h2, Option.bind_some, jg_t, jg_T]
          · intro q q1 q2; rw [st_ne q1, m1 q q1 q2]
          · intro v hv
            rw [st_ne (by decide), st_same]
            by_cases hvo : v = o
            · subst hvo
              rw [ud_eq rfl]
              have y2 : upN w v ((w v + w c) % PR) v = (w v + w c) % PR := if_pos rfl
              rw [y2]
              exact ⟨(m2 v hv).1, rfl⟩
            · rw [ud_ne hvo]
              have y2 : upN w o ((w o + w c) % PR) v = w v := if_neg hvo
              rw [y2]
              exact m2 v hv
        · have e2 : wR' st w c o = w := by unfold wR'; rw [e1, if_neg h2]
          rw [e1, e2]
          refine ⟨M, ?_, m1, m2⟩
          simp (disch := omega) only [f_M_goesFrom_2, f_M_goesFrom_49, f_M_goesFrom_83, jp_c, decide_eq_true_eq, n_lit, n_add, n_le, n_eq, n_in, n_cl, Nat.reduceEqDiff, Nat.reduceAdd, Nat.reduceMul, ite_true, ite_false, if_true, if_false, eq_self_iff_true, ↓reduceIte, and_self, and_true, true_and, and_false, false_and, not_true_eq_false, not_false_eq_true, if_pos, if_neg, bs, hfc, o1, hn, h2, Option.bind_some, jg_t, jg_T]
    · rw [hf] at hfc
      refine ⟨M, ?_, ?_⟩
      · simp (disch := omega) only [f_M_goesFrom_2, f_M_goesFrom_83, jp_c, decide_eq_true_eq, n_lit, n_add, n_le, n_eq, Nat.reduceEqDiff, Nat.reduceAdd, Nat.reduceMul, ite_true, ite_false, if_true, if_false, eq_self_iff_true, ↓reduceIte, and_self, and_true, true_and, and_false, false_and, not_true_eq_false, not_false_eq_true, if_pos, if_neg, bs, hfc, Option.bind_some, Bool.false_eq_true]
      · rw [if_neg (fun e => by rw [hf] at e; exact absurd e.2 (by decide))]
        exact ⟨m1, m2⟩
  · rw [ha] at bs
    refine ⟨M, ?_, ?_⟩
    · simp (disch := omega) only [f_M_goesFrom_2, f_M_goesFrom_83, jp_c, decide_eq_true_eq, n_lit, n_add, n_le, n_eq, Nat.reduceEqDiff, Nat.reduceAdd, Nat.reduceMul, ite_true, ite_false, if_true, if_false, eq_self_iff_true, ↓reduceIte, and_self, and_true, true_and, and_false, false_and, not_true_eq_false, not_false_eq_true, if_pos, if_neg, bs, Bool.false_eq_true]
    · rw [if_neg (fun e => by rw [ha] at e; exact absurd e.1 (by decide))]
      exact ⟨m1, m2⟩
/-- how far the reference is -/
def FI (F : Nat → Bool) (k c : Nat) (st : Nat → Nat) (E : Nat → Nat → Bool) : Prop := (∀ v, v < 80 → st v = 1000 ∨ st v ≤ k + 1) ∧ (∀ u x, E u x = true → st u < k ∨ (st u = k ∧ u < c)) ∧ ∀ u, u < 80 → (st u < k ∨ (st u = k ∧ u < c)) → ∀ v, v < 80 → adj u v = true → F v = true → E u v = true
def GI (F : Nat → Bool) (k c o : Nat) (st : Nat → Nat) (E : Nat → Nat → Bool) : Prop := st c = k ∧ (∀ v, v < 80 → st v = 1000 ∨ st v ≤ k + 1) ∧ (∀ u x, E u x = true → st u < k ∨ (st u = k ∧ u < c) ∨ (u = c ∧ x < o)) ∧
  (∀ u, u < 80 → (st u < k ∨ (st u = k ∧ u < c)) → ∀ v, v < 80 → adj u v = true → F v = true → E u v = true) ∧ ∀ v, v < o → adj c v = true → F v = true → E c v = true
theorem l_gf {B : jp_M} {U k c s : Nat} (hU : U ≤ 16) (h5 : B 105 5 = nI U) (hs : s < 80) (hk : k < 80) (hc : c < 80) : ∀ d o, o + d = 80 → ∀ n, d < n → ∀ M st w E, MS B st w M → BI s (fcl (B 105) U) st w E → GI (fcl (B 105) U) k c o st E →
    ∃ M' st' w' E', f_M_goesFrom_2 n (nI c) (nI k) (nI o) M = some M' ∧ MS B st' w' M' ∧ BI s (fcl (B 105) U) st' w' E' ∧ GI (fcl (B 105) U) k c 80 st' E' := by
  intro d
  induction d with
  | zero =>
    intro o ho n hn M st w E hM hB hG
    obtain ⟨n, rfl⟩ : ∃ k, n = k + 1 := ⟨n - 1, by omega⟩
    obtain rfl : o = 80 := by omega
    refine ⟨M, st, w, E, ?_, hM, hB, hG⟩
    simp (disch := omega) only [f_M_goesFrom_2, jp_c, decide_eq_true_eq, n_lit, n_le, Nat.reduceEqDiff, Nat.reduceAdd, Nat.reduceMul, ite_true, ite_false, if_true, if_false, eq_self_iff_true, ↓reduceIte, and_self, and_true, true_and, and_false, false_and, not_true_eq_false, not_false_eq_true, if_pos, if_neg]
  | succ d ih =>
    intro o ho n hn M st w E hM hB hG
    obtain ⟨n, rfl⟩ : ∃ k, n = k + 1 := ⟨n - 1, by omega⟩
    obtain ⟨g1, g2, g3, g4, g5⟩ := hG
    obtain ⟨M', e1, e2⟩ := r_step hU h5 hM hc (o := o) (by omega) hB.j1 hB.jw (by omega) n
    rw [g1] at e1
    by_cases hcase : adj c o = true ∧ fcl (B 105) U o = true
    · rw [if_pos hcase] at e2
      obtain ⟨ha, hf⟩ := hcase
      have hco : ¬ o = c := by
        rintro rfl
        rw [adj_i] at ha; exact absurd ha (by decide)
      have hE : E c o = false := by
        rcases Bool.eq_false_or_eq_true (E c o) with h | h
        · have := g3 c o h; omega
        · exact h
      have hno : st o ≤ st c ∨ ∀ x, E o x = false := by
        by_cases hle : st o ≤ st c
        · exact Or.inl hle
        · right
          intro x
          rcases Bool.eq_false_or_eq_true (E o x) with h | h
          · have := g3 o x h; omega
          · exact h
      have hB' := BI_rel hB hs hc (show o < 80 by omega) ha hf (by omega) hE (by have := g2 o (by omega); omega) hno
      have sx : ∀ x, st x ≤ 80 → stR st c o x = st x := by
        intro x hx
        unfold stR
        split
        · next h => exact if_neg (by rintro rfl; omega)
        · rfl
      have so : ∀ x, x < 80 → (stR st c o x = 1000 ∧ st x = 1000) ∨ (stR st c o x = st x) ∨ (x = o ∧ st x = 1000 ∧ stR st c o x = k + 1) := by
        intro x hx
        unfold stR
        split
        · next h =>
          by_cases hxo : x = o
          · subst hxo
            right; right
            exact ⟨rfl, h, by rw [show upN st x (st c + 1) x = st c + 1 from if_pos rfl, g1]⟩
          · right; left; exact if_neg hxo
        · right; left; rfl
      obtain ⟨M2, st2, w2, E2, r1, r2, r3, r4⟩ := ih (o + 1) (by omega) n (by omega) M' _ _ _ e2 hB' (by
        refine ⟨by rw [sx c (by omega), g1], ?_, ?_, ?_, ?_⟩
        · intro v hv
          have a1 := g2 v hv
          rcases so v hv with ⟨b, -⟩ | b | ⟨-, -, b⟩ <;> omega
        · intro u x hux
          unfold eR' at hux
          by_cases hcx : u = c ∧ x = o
          · right; right; exact ⟨hcx.1, by omega⟩
          · rw [if_neg hcx] at hux
            have a1 := g3 u x hux
            have a2 := (hB.j2 u x hux).2.2.2.2.1
            rw [sx u a2]
            omega
        · intro u hu hlt v hv h1 h2
          have hlt' : st u < k ∨ (st u = k ∧ u < c) := by
            rcases so u hu with ⟨b, -⟩ | b | ⟨-, -, b⟩ <;> omega
          unfold eR'
          split
          · rfl
          · exact g4 u hu hlt' v hv h1 h2
        · intro v hv h1 h2
          unfold eR'
          by_cases hvo : v = o
          · rw [if_pos ⟨rfl, hvo⟩]
          · rw [if_neg (fun e => hvo e.2)]
            exact g5 v (by omega) h1 h2)
      exact ⟨M2, st2, w2, E2, by rw [e1, r1], r2, r3, r4⟩
    · rw [if_neg hcase] at e2
      obtain ⟨M2, st2, w2, E2, r1, r2, r3, r4⟩ := ih (o + 1) (by omega) n (by omega) M' st w E e2 hB (by
        refine ⟨g1, g2, ?_, g4, ?_⟩
        · intro u x hux
          have := g3 u x hux
          omega
        · intro v hv h1 h2
          by_cases hvo : v = o
          · subst hvo; exact absurd ⟨h1, h2⟩ hcase
          · exact g5 v (by omega) h1 h2)
      exact ⟨M2, st2, w2, E2, by rw [e1, r1], r2, r3, r4⟩
theorem l_f58 {B : jp_M} {U k s : Nat} (hU : U ≤ 16) (h5 : B 105 5 = nI U) (hs : s < 80) (hk : k < 80) (c29 : Int32 → jp_M → Option jp_M) : ∀ d c, c + d = 80 → ∀ n, d < n → ∀ M st w E, MS B st w M → BI s (fcl (B 105) U) st w E → FI (fcl (B 105) U) k c st E →
    ∃ M' st' w' E', f_M_findsSteps_58 n c29 (nI k) (nI c) M = c29 (nI (k + 1)) M' ∧ MS B st' w' M' ∧ BI s (fcl (B 105) U) st' w' E' ∧ FI (fcl (B 105) U) k 80 st' E' := by
  intro d
  induction d with
  | zero =>
    intro c hc n hn M st w E hM hB hF
    obtain ⟨n, rfl⟩ : ∃ k, n = k + 1 := ⟨n - 1, by omega⟩
    obtain rfl : c = 80 := by omega
    refine ⟨M, st, w, E, ?_, hM, hB, hF⟩
    simp (disch := omega) only [f_M_findsSteps_58, jp_c, decide_eq_true_eq, n_lit, n_add, n_le, Nat.reduceEqDiff, Nat.reduceAdd, Nat.reduceMul, ite_true, ite_false, if_true, if_false, eq_self_iff_true, ↓reduceIte, and_self, and_true, true_and, and_false, false_and, not_true_eq_false, not_false_eq_true, if_pos, if_neg]
  | succ d ih =>
    intro c hc n hn M st w E hM hB hF
    obtain ⟨n, rfl⟩ : ∃ k, n = k + 1 := ⟨n - 1, by omega⟩
    obtain ⟨f1, f2, f3⟩ := hF
    obtain ⟨m1, m2⟩ := hM.2 c (by omega)
    have hj := hB.j1 c (by omega)
    have hem : eM (st c) = k ↔ st c = k := by unfold eM; split <;> omega
    have heb : eM (st c) < 4294967296 := by unfold eM; split <;> omega
    by_cases hck : st c = k
    · obtain ⟨M1, st1, w1, E1, a1, a2, a3, a4, a5, a6, a7, a8⟩ := l_gf hU h5 hs hk (c := c) (by omega) 80 0 (by omega) jFu (jFu_lt (by omega)) M st w E hM hB ⟨hck, f1, fun u x h => by have := f2 u x h; omega, f3, fun v hv => by omega⟩
      obtain ⟨M', st', w', E', r1, r2, r3, r4⟩ := ih (c + 1) (by omega) n (by omega) M1 st1 w1 E1 a2 a3 (by
        refine ⟨a5, ?_, ?_⟩
        · intro u x hux
          have b1 := a6 u x hux
          have b2 := (a3.j2 u x hux).2.1
          rcases b1 with b1 | b1 | ⟨rfl, -⟩
          · exact Or.inl b1
          · omega
          · right; exact ⟨a4, by omega⟩
        · intro u hu hlt v hv h1 h2
          by_cases huc : u = c
          · subst huc; exact a8 v hv h1 h2
          · exact a7 u hu (by omega) v hv h1 h2)
      refine ⟨M', st', w', E', ?_, r2, r3, r4⟩
      have a1' : f_M_goesFrom (nI c) (nI k) M = some M1 := a1
      have hx : eM (st c) = k := hem.2 hck
      rw [← r1]
      simp (disch := omega) only [f_M_findsSteps_58, f_M_findsSteps_80, jp_c, decide_eq_true_eq, n_lit, n_add, n_le, n_eq, n_in, n_cl, Nat.reduceEqDiff, Nat.reduceAdd, Nat.reduceMul, ite_true, ite_false, if_true, if_false, eq_self_iff_true, ↓reduceIte, and_self, and_true, true_and, and_false, false_and, not_true_eq_false, not_false_eq_true, if_pos, if_neg, m1, hx, a1', Option.bind_some, jg_t, jg_T]
    · obtain ⟨M', st', w', E', r1, r2, r3, r4⟩ := ih (c + 1) (by omega) n (by omega) M st w E hM hB (by
        refine ⟨f1, fun u x hux => by have := f2 u x hux; omega, fun u hu hlt v hv h1 h2 => ?_⟩
        by_cases huc : u = c
        · subst huc; exact f3 u hu (by omega) v hv h1 h2
        · exact f3 u hu (by omega) v hv h1 h2)
      refine ⟨M', st', w', E', ?_, r2, r3, r4⟩
      have hx : ¬ eM (st c) = k := fun e => hck (hem.1 e)
      rw [← r1]
      simp (disch := omega) only [f_M_findsSteps_58, f_M_findsSteps_80, jp_c, decide_eq_true_eq, n_lit, n_add, n_le, n_eq, n_in, n_cl, Nat.reduceEqDiff, Nat.reduceAdd, Nat.reduceMul, ite_true, ite_false, if_true, if_false, eq_self_iff_true, ↓reduceIte, and_self, and_true, true_and, and_false, false_and, not_true_eq_false, not_false_eq_true, if_pos, if_neg, m1, hx, jg_t, jg_T]
theorem l_f50 {B : jp_M} {U s : Nat} (hU : U ≤ 16) (h5 : B 105 5 = nI U) (hs : s < 80) : ∀ d k, k + d = 80 → ∀ n, d < n → ∀ M st w E, MS B st w M → BI s (fcl (B 105) U) st w E → FI (fcl (B 105) U) k 0 st E →
    ∃ M' st' w' E', f_M_findsSteps_50 n (nI k) M = some M' ∧ MS B st' w' M' ∧ BI s (fcl (B 105) U) st' w' E' ∧ FI (fcl (B 105) U) 80 0 st' E' := by
  intro d
  induction d with
  | zero =>
    intro k hk n hn M st w E hM hB hF
    obtain ⟨n, rfl⟩ : ∃ k, n = k + 1 := ⟨n - 1, by omega⟩
    obtain rfl : k = 80 := by omega
    refine ⟨M, st, w, E, ?_, hM, hB, hF⟩
    simp (disch := omega) only [f_M_findsSteps_50, jp_c, decide_eq_true_eq, n_lit, n_le, Nat.reduceEqDiff, Nat.reduceAdd, Nat.reduceMul, ite_true, ite_false, if_true, if_false, eq_self_iff_true, ↓reduceIte, and_self, and_true, true_and, and_false, false_and, not_true_eq_false, not_false_eq_true, if_pos, if_neg]
  | succ d ih =>
    intro k hk n hn M st w E hM hB hF
    obtain ⟨n, rfl⟩ : ∃ k, n = k + 1 := ⟨n - 1, by omega⟩
    obtain ⟨M1, st1, w1, E1, a1, a2, a3, a4, a5, a6⟩ := l_f58 hU h5 hs (k := k) (by omega) (f_M_findsSteps_50 n) 80 0 (by omega) jFu (jFu_lt (by omega)) M st w E hM hB hF
    obtain ⟨M', st', w', E', r1, r2, r3, r4⟩ := ih (k + 1) (by omega) n (by omega) M1 st1 w1 E1 a2 a3 (by
      refine ⟨fun v hv => by have := a4 v hv; omega, fun u x hux => by have := a5 u x hux; omega, fun u hu hlt => a6 u hu (by omega)⟩)
    refine ⟨M', st', w', E', ?_, r2, r3, r4⟩
    rw [← r1, ← a1]
    simp (disch := omega) only [f_M_findsSteps_50, jp_c, decide_eq_true_eq, n_lit, n_le, Nat.reduceEqDiff, Nat.reduceAdd, Nat.reduceMul, ite_true, ite_false, if_true, if_false, eq_self_iff_true, ↓reduceIte, and_self, and_true, true_and, and_false, false_and, not_true_eq_false, not_false_eq_true, if_pos, if_neg]
/-- before the first step -/
def st0 (s v : Nat) : Nat := if v = s then 0 else 1000
def w0 (s v : Nat) : Nat := if v = s then 1 else 0
def E0 (_ _ : Nat) : Bool := false
theorem st0_s (s : Nat) : st0 s s = 0 := if_pos rfl
theorem st0_n {s v : Nat} (h : ¬ v = s) : st0 s v = 1000 := if_neg h
theorem w0_s (s : Nat) : w0 s s = 1 := if_pos rfl
theorem w0_n {s v : Nat} (h : ¬ v = s) : w0 s v = 0 := if_neg h
theorem E0_n {u v : Nat} (h : E0 u v = true) : False := by unfold E0 at h; exact absurd h (by decide)
theorem BI_0 {s : Nat} {F : Nat → Bool} : BI s F (st0 s) (w0 s) E0 := by
  refine ⟨⟨st0_s s, w0_s s⟩, ?_, ?_, ?_, ?_, ?_⟩
  · intro v _
    by_cases h : v = s
    · right; rw [h, st0_s]; omega
    · left; exact st0_n h
  · intro v _
    by_cases h : v = s
    · rw [h, w0_s]; decide
    · rw [w0_n h]; decide
  · intro u v h; exact (E0_n h).elim
  · intro v _ hv
    rw [w0_n hv]
    refine (Eq.trans (sm_cg (g := fun _ => 0) 80 (fun x _ => ?_)) (sm_0 80)).symm
    rw [if_neg (fun e => E0_n e.1)]
  · intro v _ hv h
    rw [st0_n hv] at h; omega
theorem l_f2 {B : jp_M} {s : Nat} (hs : s < 80) : ∀ d c, c + d = 80 → ∀ n, d < n → ∀ M, (∀ q, ¬ q = 127 → ¬ q = 128 → M q = B q) → (∀ v, v < c → M 128 v = nI (eM (st0 s v)) ∧ M 127 v = nI (w0 s v)) →
    ∃ M', f_M_findsSteps_2 n (nI s) (nI c) M = f_M_findsSteps_50 jFu (nI 0) M' ∧ MS B (st0 s) (w0 s) M' := by
  intro d
  induction d with
  | zero =>
    intro c hc n hn M hM hv
    obtain ⟨n, rfl⟩ : ∃ k, n = k + 1 := ⟨n - 1, by omega⟩
    refine ⟨M, ?_, hM, fun v hv' => hv v (by omega)⟩
    simp (disch := omega) only [f_M_findsSteps_2, jp_c, decide_eq_true_eq, n_lit, n_le, Nat.reduceEqDiff, Nat.reduceAdd, Nat.reduceMul, ite_true, ite_false, if_true, if_false, eq_self_iff_true, ↓reduceIte, and_self, and_true, true_and, and_false, false_and, not_true_eq_false, not_false_eq_true, if_pos, if_neg]
  | succ d ih =>
    intro c hc n hn M hM hv
    obtain ⟨n, rfl⟩ : ∃ k, n = k + 1 := ⟨n - 1, by omega⟩
    obtain ⟨M', e1, e2⟩ := ih (c + 1) (by omega) n (by omega) (jp_set (jp_set M 128 (upd (M 128) c (nI (eM (st0 s c))))) 127 (upd (M 127) c (nI (w0 s c)))) (fun q q1 q2 => by rw [st_ne q1, st_ne q2, hM q q1 q2]) (by
      intro v hv'
      rw [st_ne (by decide), st_same, st_same]
      by_cases h : v = c
      · subst h; rw [ud_eq rfl, ud_eq rfl]; exact ⟨rfl, rfl⟩
      · rw [ud_ne h, ud_ne h]; exact hv v (by omega))
    refine ⟨M', ?_, e2⟩
    rw [← e1]
    by_cases hcs : c = s
    · have x0 : eM (st0 s c) = 0 := by rw [hcs, st0_s]; rfl
      have x1 : w0 s c = 1 := by rw [hcs, w0_s]
      rw [x0, x1]
      simp (disch := omega) only [f_M_findsSteps_2, f_M_findsSteps_25, f_M_findsSteps_41, jp_c, decide_eq_true_eq, n_lit, n_add, n_le, n_eq, n_in, n_cl, Nat.reduceEqDiff, Nat.reduceAdd, Nat.reduceMul, ite_true, ite_false, if_true, if_false, eq_self_iff_true, ↓reduceIte, and_self, and_true, true_and, and_false, false_and, not_true_eq_false, not_false_eq_true, if_pos, if_neg, hcs, jg_t, st_ap]
    · have x0 : eM (st0 s c) = 100000000 := by rw [st0_n hcs]; rfl
      have x1 : w0 s c = 0 := w0_n hcs
      rw [x0, x1]
      simp (disch := omega) only [f_M_findsSteps_2, f_M_findsSteps_25, f_M_findsSteps_41, jp_c, decide_eq_true_eq, n_lit, n_add, n_le, n_eq, n_in, n_cl, Nat.reduceEqDiff, Nat.reduceAdd, Nat.reduceMul, ite_true, ite_false, if_true, if_false, eq_self_iff_true, ↓reduceIte, and_self, and_true, true_and, and_false, false_and, not_true_eq_false, not_false_eq_true, if_pos, if_neg, hcs, jg_t, st_ap]
/-- no way is as long as there are cells -/
theorem st_80 {s : Nat} {F : Nat → Bool} {st w : Nat → Nat} {E : Nat → Nat → Bool} (h : BI s F st w E) {v : Nat} (hv : v < 80) : ¬ st v = 80 := by
  intro e
  have key : ∀ d, d ≤ 80 → ∃ u, u < 80 ∧ st u = 80 - d := by
    intro d
    induction d with
    | zero => intro _; exact ⟨v, hv, by omega⟩
    | succ d ih =>
      intro hd
      obtain ⟨u, u1, u2⟩ := ih (by omega)
      have hus : ¬ u = s := by rintro rfl; have := h.j0.1; omega
      obtain ⟨x, x1, -, x3⟩ := h.j4 u u1 hus (by omega)
      exact ⟨x, x1, by omega⟩
  have hq : ∀ j, j < 81 → ∃ u, u < 80 ∧ st u = j := by
    intro j hj
    obtain ⟨u, u1, u2⟩ := key (80 - j) (by omega)
    exact ⟨u, u1, by omega⟩
  have := php 80 81 (fun j => if h : j < 81 then (hq j h).choose else 0) (by
    intro j hj
    simp only [hj, dif_pos]
    exact (hq j hj).choose_spec.1) (by
    intro i j hi hj e'
    simp only [hi, hj, dif_pos] at e'
    have a1 := (hq i hi).choose_spec.2
    have a2 := (hq j hj).choose_spec.2
    rw [e'] at a1
    omega)
  omega
/-- what the reference finds -/
theorem p_refs {B : jp_M} {U s : Nat} (hU : U ≤ 16) (h5 : B 105 5 = nI U) (hs : s < 80) : ∃ M' st w E, f_M_findsSteps (nI s) B = some M' ∧ MS B st w M' ∧ BI s (fcl (B 105) U) st w E ∧ fin (fcl (B 105) U) st E := by
  obtain ⟨M1, a1, a2⟩ := l_f2 (B := B) hs 80 0 (by omega) jFu (jFu_lt (by omega)) B (fun _ _ _ => rfl) (fun v hv => by omega)
  obtain ⟨M2, st, w, E, b1, b2, b3, b4, b5, b6⟩ := l_f50 hU h5 hs 80 0 (by omega) jFu (jFu_lt (by omega)) M1 _ _ _ a2 (BI_0 (F := fcl (B 105) U)) (by
    refine ⟨fun v _ => ?_, fun u x h => (E0_n h).elim, fun u _ h => ?_⟩
    · by_cases h : v = s
      · right; rw [h, st0_s]; omega
      · left; exact st0_n h
    · by_cases h' : u = s
      · rw [h', st0_s] at h; omega
      · rw [st0_n h'] at h; omega)
  refine ⟨M2, st, w, E, ?_, b2, b3, fun u hu h80 v hv g1 g2 => ?_⟩
  · have : f_M_findsSteps (nI s) B = f_M_findsSteps_2 jFu (nI s) (nI 0) B := rfl
    rw [this, a1, b1]
  · have := st_80 b3 hu
    exact b6 u hu (Or.inl (by omega)) v hv g1 g2
