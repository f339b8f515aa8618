/-- what a heap is worth -/
def nb (n : Nat) : Nat := match n with
  | 1 => 1
  | 3 => 2
  | 4 => 1
  | 5 => 2
  | 7 => 1
  | _ => 0
theorem nb_w : ∀ n, n < 8 → f_T_worth (nI n) = some (nI (nb n)) := by decide +kernel
theorem nb_f {M : jp_M} {n : Nat} (h1 : 1 ≤ n) (h8 : n < 8) (hM : ∀ i, i < n → M 142 i = nI (nb i)) (f : Nat) : f_M_findsNimbers_9 (f + 1) (nI n) M = f_M_findsNimbers_9 f (nI (n + 1)) (jp_set M 142 (upd (M 142) n (nI (nb n)))) := by
  have a1 := hM (n - 1) (by omega)
  have a2 := hM (n / 2) (by omega)
  simp (disch := omega) only [f_M_findsNimbers_9, jp_c, decide_eq_true_eq, n_lit, n_neg1, n_add, n_mul, n_sub, n_div, n_mod, n_le, n_lt, n_eq, n_cl, n_in, Nat.reduceEqDiff, Nat.reduceAdd, Nat.reduceMul, ite_true, ite_false, if_true, if_false, eq_self_iff_true, ↓reduceIte, and_self, and_true, true_and, and_false, false_and, not_true_eq_false, not_false_eq_true, if_pos, if_neg, a1, a2, jg_t]
  have key : ∀ (l2 : Int32) (v g : Nat), v < 3 → (∀ w, w < v → f_M_has l2 (nI w) = 1) → f_M_has l2 (nI v) = 0 → ∀ k, k ≤ v → f_M_findsNimbers_39 (g + k + 1) (f_M_findsNimbers_9 f) (nI n) l2 (nI (v - k)) M = f_M_findsNimbers_9 f (nI (n + 1)) (jp_set M 142 (upd (M 142) n (nI v))) := by
    intro l2 v g hv hw h0 k
    induction k with
    | zero =>
      intro _
      simp (disch := omega) only [f_M_findsNimbers_39, jp_c, decide_eq_true_eq, n_lit, n_neg1, n_add, n_mul, n_sub, n_div, n_mod, n_le, n_lt, n_eq, n_cl, n_in, Nat.reduceEqDiff, Nat.reduceAdd, Nat.reduceMul, ite_true, ite_false, if_true, if_false, eq_self_iff_true, ↓reduceIte, and_self, and_true, true_and, and_false, false_and, not_true_eq_false, not_false_eq_true, if_pos, if_neg, Nat.sub_zero, h0, jg_t]
    | succ k ih =>
      intro hk
      have := ih (by omega)
      have hz := hw (v - (k + 1)) (by omega)
      refine Eq.trans ?_ this
      rw [show g + (k + 1) + 1 = (g + k + 1) + 1 from rfl]
      generalize g + k + 1 = y
      simp (disch := omega) only [f_M_findsNimbers_39, jp_c, decide_eq_true_eq, n_lit, n_neg1, n_add, n_mul, n_sub, n_div, n_mod, n_le, n_lt, n_eq, n_cl, n_in, Nat.reduceEqDiff, Nat.reduceAdd, Nat.reduceMul, ite_true, ite_false, if_true, if_false, eq_self_iff_true, ↓reduceIte, and_self, and_true, true_and, and_false, false_and, not_true_eq_false, not_false_eq_true, if_pos, if_neg, hz]
      rw [show v - (k + 1) + 1 = v - k by omega]
  have hn : n = 1 ∨ n = 2 ∨ n = 3 ∨ n = 4 ∨ n = 5 ∨ n = 6 ∨ n = 7 := by omega
  rcases hn with rfl | rfl | rfl | rfl | rfl | rfl | rfl
  · exact key _ 1 99998 (by omega) (by decide) (by decide) 1 (by omega)
  · exact key _ 0 99999 (by omega) (by decide) (by decide) 0 (by omega)
  · exact key _ 2 99997 (by omega) (by decide) (by decide) 2 (by omega)
  · exact key _ 1 99998 (by omega) (by decide) (by decide) 1 (by omega)
  · exact key _ 2 99997 (by omega) (by decide) (by decide) 2 (by omega)
  · exact key _ 0 99999 (by omega) (by decide) (by decide) 0 (by omega)
  · exact key _ 1 99998 (by omega) (by decide) (by decide) 1 (by omega)
theorem nb_g : ∀ d n, n + d = 8 → 1 ≤ n → ∀ f, d < f → ∀ M : jp_M, (∀ i, i < n → M 142 i = nI (nb i)) → ∃ M', f_M_findsNimbers_9 f (nI n) M = some M' ∧ (∀ q, ¬ q = 142 → M' q = M q) ∧ ∀ i, i < 8 → M' 142 i = nI (nb i) := by
  intro d
  induction d with
  | zero =>
    intro n hn h1 f hf M hM
    obtain ⟨f, rfl⟩ : ∃ k, f = k + 1 := ⟨f - 1, by omega⟩
    refine ⟨M, ?_, fun _ _ => rfl, fun i hi => hM i (by omega)⟩
    simp (disch := omega) only [f_M_findsNimbers_9, jp_c, decide_eq_true_eq, n_lit, n_neg1, n_add, n_mul, n_sub, n_div, n_mod, n_le, n_lt, n_eq, n_cl, n_in, Nat.reduceEqDiff, Nat.reduceAdd, Nat.reduceMul, ite_true, ite_false, if_true, if_false, eq_self_iff_true, ↓reduceIte, and_self, and_true, true_and, and_false, false_and, not_true_eq_false, not_false_eq_true, if_pos, if_neg]
  | succ d ih =>
    intro n hn h1 f hf M hM
    obtain ⟨f, rfl⟩ : ∃ k, f = k + 1 := ⟨f - 1, by omega⟩
    obtain ⟨M', e1, e2, e3⟩ := ih (n + 1) (by omega) (by omega) f (by omega) (jp_set M 142 (upd (M 142) n (nI (nb n)))) (by
      intro i hi
      rw [st_same]
      by_cases h : i = n
      · subst h; rw [ud_eq rfl]
      · rw [ud_ne h]; exact hM i (by omega))
    exact ⟨M', by rw [nb_f h1 (by omega) hM, e1], fun q hq => by rw [e2 q hq, st_ne hq], e3⟩
theorem nb_h (M : jp_M) : ∃ M', f_M_findsNimbers M = some M' ∧ (∀ q, ¬ q = 142 → M' q = M q) ∧ ∀ i, i < 8 → M' 142 i = nI (nb i) := by
  obtain ⟨M', e1, e2, e3⟩ := nb_g 7 1 rfl (by omega) jFu (jFu_lt (by omega)) (jp_set M 142 (upd (M 142) 0 0)) (by
    intro i hi
    obtain rfl : i = 0 := by omega
    rw [st_same, ud_eq rfl]; rfl)
  exact ⟨M', e1, fun q hq => by rw [e2 q hq, st_ne hq], e3⟩
theorem nb_n : ∀ n, n < 8 → n = 0 ∨ (nb (n - 1) ≠ nb n ∧ nb (n / 2) ≠ nb n) := by decide
theorem nb_l : ∀ n, nb n < 4 := by
  intro n
  unfold nb
  split <;> omega
/-- the first loop -/
theorem l_game1 {A B : jp_M} {P : Nat} (hP : P ≤ 10) (h1 : A 2 4 = nI P) (h2 : B 104 6 = nI P) (hs : ∀ i, i < 10 → ∃ z, z ≤ 7 ∧ A 3 (5 * i + 3) = nI z ∧ B 105 (26 + i) = nI z) (hb : ∀ i, i < 8 → B 142 i = nI (nb i)) (a : Int32) :
    ∀ d i, i + d = P → ∀ n m, d < n → d < m → ∀ c, ∃ c', f_T_gameMove_4 n a (nI c) (nI i) A = f_T_gameMove_34 jFu a (nI c') (nI 0) A ∧ f_M_game_25 m a (nI c) (nI i) B = f_M_game_58 jFu a (nI c') (nI 0) B := by
  intro d
  induction d with
  | zero =>
    intro i hi n m hn hm c
    obtain ⟨n, rfl⟩ : ∃ k, n = k + 1 := ⟨n - 1, by omega⟩
    obtain ⟨m, rfl⟩ : ∃ k, m = k + 1 := ⟨m - 1, by omega⟩
    refine ⟨c, ?_, ?_⟩
    · simp (disch := omega) only [f_T_gameMove_4, jp_c, decide_eq_true_eq, n_lit, n_neg1, n_add, n_mul, n_sub, n_div, n_mod, n_le, n_lt, n_eq, n_cl, n_in, Nat.reduceEqDiff, Nat.reduceAdd, Nat.reduceMul, ite_true, ite_false, if_true, if_false, eq_self_iff_true, ↓reduceIte, and_self, and_true, true_and, and_false, false_and, not_true_eq_false, not_false_eq_true, if_pos, if_neg, h1]
    · simp (disch := omega) only [f_M_game_25, jp_c, decide_eq_true_eq, n_lit, n_neg1, n_add, n_mul, n_sub, n_div, n_mod, n_le, n_lt, n_eq, n_cl, n_in, Nat.reduceEqDiff, Nat.reduceAdd, Nat.reduceMul, ite_true, ite_false, if_true, if_false, eq_self_iff_true, ↓reduceIte, and_self, and_true, true_and, and_false, false_and, not_true_eq_false, not_false_eq_true, if_pos, if_neg, h2]
  | succ d ih =>
    intro i hi n m hn hm c
    obtain ⟨n, rfl⟩ : ∃ k, n = k + 1 := ⟨n - 1, by omega⟩
    obtain ⟨m, rfl⟩ : ∃ k, m = k + 1 := ⟨m - 1, by omega⟩
    obtain ⟨z, hz, s1, s2⟩ := hs i (by omega)
    obtain ⟨c', e1, e2⟩ := ih (i + 1) (by omega) n m (by omega) (by omega) (c ^^^ nb z)
    refine ⟨c', ?_, ?_⟩
    · rw [← e1]
      simp (disch := omega) only [f_T_gameMove_4, f_T_stoopsOf, jp_c, decide_eq_true_eq, n_lit, n_neg1, n_add, n_mul, n_sub, n_div, n_mod, n_le, n_lt, n_eq, n_cl, n_in, Nat.reduceEqDiff, Nat.reduceAdd, Nat.reduceMul, ite_true, ite_false, if_true, if_false, eq_self_iff_true, ↓reduceIte, and_self, and_true, true_and, and_false, false_and, not_true_eq_false, not_false_eq_true, if_pos, if_neg, h1, s1, nb_w, n_xor, jg_t, Option.bind_some]
    · rw [← e2]
      simp (disch := omega) only [f_M_game_25, jp_c, decide_eq_true_eq, n_lit, n_neg1, n_add, n_mul, n_sub, n_div, n_mod, n_le, n_lt, n_eq, n_cl, n_in, Nat.reduceEqDiff, Nat.reduceAdd, Nat.reduceMul, ite_true, ite_false, if_true, if_false, eq_self_iff_true, ↓reduceIte, and_self, and_true, true_and, and_false, false_and, not_true_eq_false, not_false_eq_true, if_pos, if_neg, h2, s2, hb, n_xor, jg_t]
/-- the second loop, where nothing is to be found -/
theorem l_game0 {B : jp_M} {P : Nat} (hP : P ≤ 10) (h2 : B 104 6 = nI P) (hs : ∀ i, i < 10 → ∃ z, z ≤ 7 ∧ B 105 (26 + i) = nI z) (hb : ∀ i, i < 8 → B 142 i = nI (nb i)) (a : Int32) :
    ∀ d i, i + d = P → ∀ m, d < m → f_M_game_58 m a (nI 0) (nI i) B = some (nI 4294967295, B) := by
  intro d
  induction d with
  | zero =>
    intro i hi m hm
    obtain ⟨m, rfl⟩ : ∃ k, m = k + 1 := ⟨m - 1, by omega⟩
    simp (disch := omega) only [f_M_game_58, jp_c, decide_eq_true_eq, n_lit, n_neg1, n_add, n_mul, n_sub, n_div, n_mod, n_le, n_lt, n_eq, n_cl, n_in, Nat.reduceEqDiff, Nat.reduceAdd, Nat.reduceMul, ite_true, ite_false, if_true, if_false, eq_self_iff_true, ↓reduceIte, and_self, and_true, true_and, and_false, false_and, not_true_eq_false, not_false_eq_true, if_pos, if_neg, h2]
  | succ d ih =>
    intro i hi m hm
    obtain ⟨m, rfl⟩ : ∃ k, m = k + 1 := ⟨m - 1, by omega⟩
    obtain ⟨z, hz, s2⟩ := hs i (by omega)
    have e := ih (i + 1) (by omega) m (by omega)
    by_cases hz0 : z = 0
    · subst hz0
      simp (disch := omega) only [f_M_game_58, f_M_game_117, f_M_game_152, jp_c, decide_eq_true_eq, n_lit, n_neg1, n_add, n_mul, n_sub, n_div, n_mod, n_le, n_lt, n_eq, n_cl, n_in, Nat.reduceEqDiff, Nat.reduceAdd, Nat.reduceMul, ite_true, ite_false, if_true, if_false, eq_self_iff_true, ↓reduceIte, and_self, and_true, true_and, and_false, false_and, not_true_eq_false, not_false_eq_true, if_pos, if_neg, h2, s2, hb, jg_t]
      exact e
    · obtain ⟨n1, n2⟩ := (nb_n z (by omega)).resolve_left hz0
      have q1 := nb_l z
      have q2 := nb_l (z - 1)
      have q3 := nb_l (z / 2)
      have hz1 : ¬ z ≤ 0 := by omega
      simp (disch := omega) only [f_M_game_58, f_M_game_117, f_M_game_152, jp_c, decide_eq_true_eq, n_lit, n_neg1, n_add, n_mul, n_sub, n_div, n_mod, n_le, n_lt, n_eq, n_cl, n_in, Nat.reduceEqDiff, Nat.reduceAdd, Nat.reduceMul, ite_true, ite_false, if_true, if_false, eq_self_iff_true, ↓reduceIte, and_self, and_true, true_and, and_false, false_and, not_true_eq_false, not_false_eq_true, if_pos, if_neg, h2, s2, hb, jg_t, n_xor, Nat.zero_xor, hz1, n1, n2]
      exact e
/-- the second loop -/
theorem l_game2 {A B : jp_M} {P : Nat} (hP : P ≤ 10) (h1 : A 2 4 = nI P) (h2 : B 104 6 = nI P) (hs : ∀ i, i < 10 → ∃ z, z ≤ 7 ∧ A 3 (5 * i + 3) = nI z ∧ B 105 (26 + i) = nI z) (hb : ∀ i, i < 8 → B 142 i = nI (nb i)) (a c : Int32) :
    ∀ d i, i + d = P → ∀ n m, d < n → d < m → ∃ v, f_T_gameMove_34 n a c (nI i) A = some v ∧ f_M_game_58 m a c (nI i) B = some (v, B) := by
  by_cases hc : c = nI 0
  · subst hc
    intro d i hi n m hn hm
    refine ⟨nI 4294967295, ?_, l_game0 hP h2 (fun i hi => by obtain ⟨z, z1, -, z2⟩ := hs i hi; exact ⟨z, z1, z2⟩) hb a d i hi m hm⟩
    obtain ⟨n, rfl⟩ : ∃ k, n = k + 1 := ⟨n - 1, by omega⟩
    simp (disch := omega) only [f_T_gameMove_34, jp_c, decide_eq_true_eq, n_lit, n_neg1, n_add, n_mul, n_sub, n_div, n_mod, n_le, n_lt, n_eq, n_cl, n_in, Nat.reduceEqDiff, Nat.reduceAdd, Nat.reduceMul, ite_true, ite_false, if_true, if_false, eq_self_iff_true, ↓reduceIte, and_self, and_true, true_and, and_false, false_and, not_true_eq_false, not_false_eq_true, if_pos, if_neg, ite_self]
  intro d
  induction d with
  | zero =>
    intro i hi n m hn hm
    obtain ⟨n, rfl⟩ : ∃ k, n = k + 1 := ⟨n - 1, by omega⟩
    obtain ⟨m, rfl⟩ : ∃ k, m = k + 1 := ⟨m - 1, by omega⟩
    refine ⟨nI 4294967295, ?_, ?_⟩
    · simp (disch := omega) only [f_T_gameMove_34, jp_c, decide_eq_true_eq, n_lit, n_neg1, n_add, n_mul, n_sub, n_div, n_mod, n_le, n_lt, n_eq, n_cl, n_in, Nat.reduceEqDiff, Nat.reduceAdd, Nat.reduceMul, ite_true, ite_false, if_true, if_false, eq_self_iff_true, ↓reduceIte, and_self, and_true, true_and, and_false, false_and, not_true_eq_false, not_false_eq_true, if_pos, if_neg, h1]
    · simp (disch := omega) only [f_M_game_58, jp_c, decide_eq_true_eq, n_lit, n_neg1, n_add, n_mul, n_sub, n_div, n_mod, n_le, n_lt, n_eq, n_cl, n_in, Nat.reduceEqDiff, Nat.reduceAdd, Nat.reduceMul, ite_true, ite_false, if_true, if_false, eq_self_iff_true, ↓reduceIte, and_self, and_true, true_and, and_false, false_and, not_true_eq_false, not_false_eq_true, if_pos, if_neg, h2]
  | succ d ih =>
    intro i hi n m hn hm
    obtain ⟨n, rfl⟩ : ∃ k, n = k + 1 := ⟨n - 1, by omega⟩
    obtain ⟨m, rfl⟩ : ∃ k, m = k + 1 := ⟨m - 1, by omega⟩
    obtain ⟨z, hz, s1, s2⟩ := hs i (by omega)
    obtain ⟨v, e1, e2⟩ := ih (i + 1) (by omega) n m (by omega) (by omega)
    by_cases hz0 : z = 0
    · subst hz0
      refine ⟨v, ?_, ?_⟩
      · simp (disch := omega) only [f_T_gameMove_34, f_T_gameMove_92, f_T_gameMove_125, f_T_stoopsOf, jp_c, decide_eq_true_eq, n_lit, n_neg1, n_add, n_mul, n_sub, n_div, n_mod, n_le, n_lt, n_eq, n_cl, n_in, Nat.reduceEqDiff, Nat.reduceAdd, Nat.reduceMul, ite_true, ite_false, if_true, if_false, eq_self_iff_true, ↓reduceIte, and_self, and_true, true_and, and_false, false_and, not_true_eq_false, not_false_eq_true, if_pos, if_neg, h1, s1, hc, nb_w, jg_t, Option.bind_some]
        exact e1
      · simp (disch := omega) only [f_M_game_58, f_M_game_117, f_M_game_152, jp_c, decide_eq_true_eq, n_lit, n_neg1, n_add, n_mul, n_sub, n_div, n_mod, n_le, n_lt, n_eq, n_cl, n_in, Nat.reduceEqDiff, Nat.reduceAdd, Nat.reduceMul, ite_true, ite_false, if_true, if_false, eq_self_iff_true, ↓reduceIte, and_self, and_true, true_and, and_false, false_and, not_true_eq_false, not_false_eq_true, if_pos, if_neg, h2, s2, hb, jg_t]
        exact e2
    · have hz1 : ¬ z ≤ 0 := by omega
      by_cases g1 : nI (nb (z - 1)) = c ^^^ nI (nb z)
      · refine ⟨if a = nI 0 then nI i else nI 1, ?_, ?_⟩
        · simp (disch := omega) only [f_T_gameMove_34, f_T_gameMove_92, f_T_gameMove_125, f_T_stoopsOf, jp_c, decide_eq_true_eq, n_lit, n_neg1, n_add, n_mul, n_sub, n_div, n_mod, n_le, n_lt, n_eq, n_cl, n_in, Nat.reduceEqDiff, Nat.reduceAdd, Nat.reduceMul, ite_true, ite_false, if_true, if_false, eq_self_iff_true, ↓reduceIte, and_self, and_true, true_and, and_false, false_and, not_true_eq_false, not_false_eq_true, if_pos, if_neg, h1, s1, hc, hz1, g1, nb_w, jg_t, Option.bind_some]
          by_cases hz : a = nI 0 <;> simp [hz]
        · simp (disch := omega) only [f_M_game_58, f_M_game_117, f_M_game_152, jp_c, decide_eq_true_eq, n_lit, n_neg1, n_add, n_mul, n_sub, n_div, n_mod, n_le, n_lt, n_eq, n_cl, n_in, Nat.reduceEqDiff, Nat.reduceAdd, Nat.reduceMul, ite_true, ite_false, if_true, if_false, eq_self_iff_true, ↓reduceIte, and_self, and_true, true_and, and_false, false_and, not_true_eq_false, not_false_eq_true, if_pos, if_neg, h2, s2, hb, hz1, g1, jg_t]
          by_cases hz : a = nI 0 <;> simp [hz]
      · by_cases g2 : nI (nb (z / 2)) = c ^^^ nI (nb z)
        · refine ⟨if a = nI 0 then nI i else nI (z - z / 2), ?_, ?_⟩
          · simp (disch := omega) only [f_T_gameMove_34, f_T_gameMove_92, f_T_gameMove_125, f_T_stoopsOf, jp_c, decide_eq_true_eq, n_lit, n_neg1, n_add, n_mul, n_sub, n_div, n_mod, n_le, n_lt, n_eq, n_cl, n_in, Nat.reduceEqDiff, Nat.reduceAdd, Nat.reduceMul, ite_true, ite_false, if_true, if_false, eq_self_iff_true, ↓reduceIte, and_self, and_true, true_and, and_false, false_and, not_true_eq_false, not_false_eq_true, if_pos, if_neg, h1, s1, hc, hz1, g1, g2, nb_w, jg_t, Option.bind_some]
            by_cases hz : a = nI 0 <;> simp [hz]
          · simp (disch := omega) only [f_M_game_58, f_M_game_117, f_M_game_152, jp_c, decide_eq_true_eq, n_lit, n_neg1, n_add, n_mul, n_sub, n_div, n_mod, n_le, n_lt, n_eq, n_cl, n_in, Nat.reduceEqDiff, Nat.reduceAdd, Nat.reduceMul, ite_true, ite_false, if_true, if_false, eq_self_iff_true, ↓reduceIte, and_self, and_true, true_and, and_false, false_and, not_true_eq_false, not_false_eq_true, if_pos, if_neg, h2, s2, hb, hz1, g1, g2, jg_t]
            by_cases hz : a = nI 0 <;> simp [hz]
        · refine ⟨v, ?_, ?_⟩
          · simp (disch := omega) only [f_T_gameMove_34, f_T_gameMove_92, f_T_gameMove_125, f_T_stoopsOf, jp_c, decide_eq_true_eq, n_lit, n_neg1, n_add, n_mul, n_sub, n_div, n_mod, n_le, n_lt, n_eq, n_cl, n_in, Nat.reduceEqDiff, Nat.reduceAdd, Nat.reduceMul, ite_true, ite_false, if_true, if_false, eq_self_iff_true, ↓reduceIte, and_self, and_true, true_and, and_false, false_and, not_true_eq_false, not_false_eq_true, if_pos, if_neg, h1, s1, hc, hz1, g1, g2, nb_w, jg_t, Option.bind_some]
            exact e1
          · simp (disch := omega) only [f_M_game_58, f_M_game_117, f_M_game_152, jp_c, decide_eq_true_eq, n_lit, n_neg1, n_add, n_mul, n_sub, n_div, n_mod, n_le, n_lt, n_eq, n_cl, n_in, Nat.reduceEqDiff, Nat.reduceAdd, Nat.reduceMul, ite_true, ite_false, if_true, if_false, eq_self_iff_true, ↓reduceIte, and_self, and_true, true_and, and_false, false_and, not_true_eq_false, not_false_eq_true, if_pos, if_neg, h2, s2, hb, hz1, g1, g2, jg_t]
            exact e2
theorem p_game (a : Int32) {A B : jp_M} (hR : Rel A B) : pOK ((f_C_game a A).map (fun r => (r, A))) (f_M_game a B) := by
  have T := Rel_told (x := nI 0) hR
  generalize hB1 : jp_set B 104 (upd (B 104) 0 (nI 0)) = B1 at T
  have hT := T
  obtain ⟨⟨hW, hBk, hLw, hPe, hLe, hCi, hWi, hKi, hPo, hWy, hVo⟩, hPic, hKe, hTa, hFa, hTh, hWd⟩ := T
  obtain ⟨⟨⟨e0, e1, e2, e3, e4, e5, e6⟩, eP, eB, eR⟩, nW⟩ := hW
  obtain ⟨P, S, U, hP, hS, hU, f4, f5, f6, nP, nB, nR⟩ := nW
  by_cases h1 : nI 0 ≤ a ∧ a ≤ nI 1
  · obtain ⟨M', m1, m2, m3⟩ := nb_h B1
    have g6 : M' 104 6 = nI P := by rw [m2 104 (by decide), ← e4, f4]
    have hs : ∀ i, i < 10 → ∃ z, z ≤ 7 ∧ A 3 (5 * i + 3) = nI z ∧ M' 105 (26 + i) = nI z := by
      intro i hi
      obtain ⟨x, y, z, -, -, hz, -, -, z1⟩ := nP i hi
      refine ⟨z, hz, z1, ?_⟩
      rw [m2 105 (by decide), ← (eP i hi).2.2.2.1, z1]
    obtain ⟨c', q1, q2⟩ := l_game1 hP f4 g6 hs m3 a P 0 (by omega) jFu jFu (jFu_lt (by omega)) (jFu_lt (by omega)) 0
    obtain ⟨v, r1, r2⟩ := l_game2 hP f4 g6 hs m3 a (nI c') P 0 (by omega) jFu jFu (jFu_lt (by omega)) (jFu_lt (by omega))
    have c1 : f_C_game a A = some v := by
      simp (disch := omega) only [f_C_game, f_T_gameMove, n_within, n_it0, jp_c, decide_eq_true_eq, n_lit, n_neg1, n_add, n_mul, n_sub, n_div, n_mod, n_le, n_lt, n_eq, n_cl, n_in, Nat.reduceEqDiff, Nat.reduceAdd, Nat.reduceMul, ite_true, ite_false, if_true, if_false, eq_self_iff_true, ↓reduceIte, and_self, and_true, true_and, and_false, false_and, not_true_eq_false, not_false_eq_true, if_pos, if_neg, h1]
      rw [q1, r1]
      rfl
    have c2 : f_M_game a B = some (v, M') := by
      simp (disch := omega) only [f_M_game, hB1, m1, n_isIn, n_it0, jp_c, decide_eq_true_eq, n_lit, n_neg1, n_add, n_mul, n_sub, n_div, n_mod, n_le, n_lt, n_eq, n_cl, n_in, Nat.reduceEqDiff, Nat.reduceAdd, Nat.reduceMul, ite_true, ite_false, if_true, if_false, eq_self_iff_true, ↓reduceIte, and_self, and_true, true_and, and_false, false_and, not_true_eq_false, not_false_eq_true, if_pos, if_neg, h1, Option.bind_some]
      rw [q2, r2]
    rw [c1, c2]
    refine pOK_mk rfl (Rel_scB (fun p hp => m2 p ?_) (fun i hi => by rw [m2 104 (by decide)]) hT)
    rintro rfl; exact hp (by decide)
  · simp (disch := omega) only [f_C_game, f_M_game, hB1, n_within, n_isIn, n_it0, jp_c, decide_eq_true_eq, n_lit, n_neg1, n_add, n_mul, n_sub, n_div, n_mod, n_le, n_lt, n_eq, n_cl, n_in, Nat.reduceEqDiff, Nat.reduceAdd, Nat.reduceMul, ite_true, ite_false, if_true, if_false, eq_self_iff_true, ↓reduceIte, and_self, and_true, true_and, and_false, false_and, not_true_eq_false, not_false_eq_true, if_pos, if_neg, h1, Option.map_some]
    exact pOK_mk rfl hT
