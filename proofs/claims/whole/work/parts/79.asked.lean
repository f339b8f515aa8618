theorem n_btI {s k : Nat} (hs : s < 2147483648) (hk : k < 32) : (nI s >>> (nI k &&& nI 31)) &&& nI 1 = if s.testBit k then nI 1 else nI 0 := by
  have : (nI s >>> (nI k &&& (31 : Int32))) &&& nI 1 = if s.testBit k then nI 1 else nI 0 := by
    rw [n_shr hs hk, n_and, n_bit]
    split <;> rfl
  exact this
theorem n_slI {k : Nat} (hk : k < 32) : nI 1 <<< (nI k &&& nI 31) = nI (2 ^ k) := by
  have : nI 1 <<< (nI k &&& (31 : Int32)) = nI (2 ^ k) := by rw [n_shl hk, Nat.one_mul]
  exact this
theorem n_hasI {s k : Nat} (hs : s < 2147483648) (hk : k < 32) : f_M_has (nI s) (nI k) = if s.testBit k then nI 1 else nI 0 := by
  unfold f_M_has
  simp only [n_lit, jp_c, decide_eq_true_eq, n_btI hs hk]
  by_cases h : s.testBit k = true
  · simp (disch := omega) only [h, if_true, n_eq, not_true_eq_false, ↓reduceIte]
  · simp (disch := omega) only [h, if_false, n_eq, Nat.reduceEqDiff, not_false_eq_true, ↓reduceIte, Bool.false_eq_true]
/-- how many ones -/
def oc (s : Nat) : Nat := s % 2 + s / 2 % 2 + s / 4 % 2 + s / 8 % 2 + s / 16 % 2 + s / 32 % 2 + s / 64 % 2 + s / 128 % 2 + s / 256 % 2 + s / 512 % 2
theorem oc_C : ∀ s, s < 1024 → f_JI_bitCount (nI s) = nI (oc s) := by decide +kernel
theorem oc_M0 : ∀ s, s < 1024 → f_M_onesOf_4 12 (nI 0) (nI s) = some (nI (oc s)) := by decide +kernel
theorem ones_mono : ∀ n m a b r, f_M_onesOf_4 n a b = some r → n ≤ m → f_M_onesOf_4 m a b = some r := by
  intro n
  induction n with
  | zero => intro m a b r h; exact absurd h (by simp [f_M_onesOf_4])
  | succ n ih =>
    intro m a b r h hm
    obtain ⟨m, rfl⟩ : ∃ k, m = k + 1 := ⟨m - 1, by omega⟩
    rw [f_M_onesOf_4] at h ⊢
    split at h
    · next h1 => rw [if_pos h1]; exact h
    · next h1 => rw [if_neg h1]; exact ih m _ _ _ h (by omega)
theorem oc_M {s : Nat} (h : s < 1024) : f_M_onesOf (nI s) = some (nI (oc s)) := ones_mono 12 jFu _ _ _ (oc_M0 s h) (Nat.le_of_lt (jFu_lt (by omega)))
theorem oc_l (s : Nat) : oc s ≤ 10 := by unfold oc; omega
theorem oc_t : ∀ s, s < 1024 → oc s < 10 ∨ s = 1023 := by decide +kernel
theorem or_lt {a b : Nat} (ha : a < 1024) (hb : b < 1024) : a ||| b < 1024 := Nat.or_lt_two_pow (n := 10) ha hb
/-- both go through the roofs that are asked -/
theorem l_rf {A B : jp_M} {s : Nat} (hs : s < 1024) (hv : ∀ r, r < 10 → ∃ x, x < 1024 ∧ B 137 r = nI x ∧ A 24 r = nI (x ||| 2 ^ r)) :
    ∀ d r, r + d = 10 → ∀ n m, d < n → d < m → ∀ c, c < 1024 → (∀ k, k < r → s.testBit k = true → c.testBit k = true) → ∃ c', c' < 1024 ∧ f_TT_reachedFrom_4 n (nI s) (nI c) (nI r) A = some (nI c') ∧ f_M_reachedFrom_4 m (nI s) (nI (c ||| s)) (nI r) B = some (nI c') ∧ (∀ k, k < 10 → s.testBit k = true → c'.testBit k = true) := by
  intro d
  induction d with
  | zero =>
    intro r hr n m hn hm c hc hk
    obtain ⟨n, rfl⟩ : ∃ k, n = k + 1 := ⟨n - 1, by omega⟩
    obtain ⟨m, rfl⟩ : ∃ k, m = k + 1 := ⟨m - 1, by omega⟩
    have hk' : ∀ k, k < 10 → s.testBit k = true → c.testBit k = true := fun k h1 h2 => hk k (by omega) h2
    have e : c ||| s = c := by
      apply Nat.eq_of_testBit_eq
      intro k
      rw [Nat.testBit_or]
      by_cases h : k < 10
      · cases h1 : s.testBit k
        · rw [Bool.or_false]
        · rw [hk' k h h1]; rfl
      · rw [Nat.testBit_lt_two_pow (x := s) (Nat.lt_of_lt_of_le hs (Nat.pow_le_pow_right (n := 2) (i := 10) (by omega) (by omega))), Bool.or_false]
    refine ⟨c, hc, ?_, ?_, hk'⟩
    · simp (disch := omega) only [f_TT_reachedFrom_4, jp_c, decide_eq_true_eq, n_lit, n_neg1, n_add, n_mul, n_sub, n_div, n_mod, n_le, n_lt, n_eq, n_cl, n_in, Nat.reduceEqDiff, Nat.reduceAdd, Nat.reduceMul, ite_true, ite_false, if_true, if_false, eq_self_iff_true, ↓reduceIte, and_self, and_true, true_and, and_false, false_and, not_true_eq_false, not_false_eq_true, if_pos, if_neg]
    · simp (disch := omega) only [f_M_reachedFrom_4, jp_c, decide_eq_true_eq, n_lit, n_neg1, n_add, n_mul, n_sub, n_div, n_mod, n_le, n_lt, n_eq, n_cl, n_in, Nat.reduceEqDiff, Nat.reduceAdd, Nat.reduceMul, ite_true, ite_false, if_true, if_false, eq_self_iff_true, ↓reduceIte, and_self, and_true, true_and, and_false, false_and, not_true_eq_false, not_false_eq_true, if_pos, if_neg, e]
  | succ d ih =>
    intro r hr n m hn hm c hc hk
    obtain ⟨n, rfl⟩ : ∃ k, n = k + 1 := ⟨n - 1, by omega⟩
    obtain ⟨m, rfl⟩ : ∃ k, m = k + 1 := ⟨m - 1, by omega⟩
    obtain ⟨x, hx, v1, v2⟩ := hv r (by omega)
    have p2 : 2 ^ r < 1024 := Nat.pow_lt_pow_right (m := r) (n := 10) (by omega) (by omega)
    have b1 := n_btI (s := s) (k := r) (by omega) (by omega)
    have b2 := n_hasI (s := s) (k := r) (by omega) (by omega)
    cases hb : s.testBit r
    · rw [hb] at b1 b2
      obtain ⟨c', e0, e1, e2, e3⟩ := ih (r + 1) (by omega) n m (by omega) (by omega) c hc (by
        intro k h1 h2
        by_cases h : k = r
        · subst h; rw [hb] at h2; exact absurd h2 (by decide)
        · exact hk k (by omega) h2)
      refine ⟨c', e0, ?_, ?_, e3⟩
      · rw [← e1]
        simp (disch := omega) only [f_TT_reachedFrom_4, f_TT_reachedFrom_31, jp_c, decide_eq_true_eq, n_lit, n_add, n_le, n_eq, Nat.reduceEqDiff, Nat.reduceAdd, Nat.reduceMul, ite_true, ite_false, if_true, if_false, eq_self_iff_true, ↓reduceIte, and_self, and_true, true_and, and_false, false_and, not_true_eq_false, not_false_eq_true, if_pos, if_neg, b1, Bool.false_eq_true]
      · rw [← e2]
        simp (disch := omega) only [f_M_reachedFrom_4, f_M_reachedFrom_28, jp_c, decide_eq_true_eq, n_lit, n_add, n_le, n_eq, Nat.reduceEqDiff, Nat.reduceAdd, Nat.reduceMul, ite_true, ite_false, if_true, if_false, eq_self_iff_true, ↓reduceIte, and_self, and_true, true_and, and_false, false_and, not_true_eq_false, not_false_eq_true, if_pos, if_neg, b2, Bool.false_eq_true]
    · rw [hb] at b1 b2
      obtain ⟨c', e0, e1, e2, e3⟩ := ih (r + 1) (by omega) n m (by omega) (by omega) (c ||| (x ||| 2 ^ r)) (or_lt hc (or_lt hx p2)) (by
        intro k h1 h2
        rw [Nat.testBit_or, Nat.testBit_or]
        by_cases h : k = r
        · subst h; rw [Nat.testBit_two_pow_self, Bool.or_true, Bool.or_true]
        · rw [hk k (by omega) h2, Bool.true_or])
      have hsr : s ||| 2 ^ r = s := by
        apply Nat.eq_of_testBit_eq
        intro k
        rw [Nat.testBit_or, Nat.testBit_two_pow]
        by_cases h : r = k
        · subst h; rw [hb]; rfl
        · rw [decide_eq_false h, Bool.or_false]
      have ho : c ||| (x ||| 2 ^ r) ||| s = c ||| s ||| x := by
        have : c ||| (x ||| 2 ^ r) ||| s = c ||| (s ||| 2 ^ r) ||| x := by ac_rfl
        rw [this, hsr]
      refine ⟨c', e0, ?_, ?_, e3⟩
      · rw [← e1]
        simp (disch := omega) only [f_TT_reachedFrom_4, f_TT_reachedFrom_31, jp_c, decide_eq_true_eq, n_lit, n_add, n_le, n_eq, n_in, n_cl, Nat.reduceEqDiff, Nat.reduceAdd, Nat.reduceMul, ite_true, ite_false, if_true, if_false, eq_self_iff_true, ↓reduceIte, and_self, and_true, true_and, and_false, false_and, not_true_eq_false, not_false_eq_true, if_pos, if_neg, b1, v2, n_or, jg_t]
      · rw [← e2, ho]
        simp (disch := omega) only [f_M_reachedFrom_4, f_M_reachedFrom_28, jp_c, decide_eq_true_eq, n_lit, n_add, n_le, n_eq, n_in, n_cl, Nat.reduceEqDiff, Nat.reduceAdd, Nat.reduceMul, ite_true, ite_false, if_true, if_false, eq_self_iff_true, ↓reduceIte, and_self, and_true, true_and, and_false, false_and, not_true_eq_false, not_false_eq_true, if_pos, if_neg, b2, v1, n_or, jg_t]
theorem p_rf {A B : jp_M} {s : Nat} (hs : s < 1024) (hv : ∀ r, r < 10 → ∃ x, x < 1024 ∧ B 137 r = nI x ∧ A 24 r = nI (x ||| 2 ^ r)) : ∃ c, c < 1024 ∧ f_TT_reachedFrom (nI s) A = some (nI c) ∧ f_M_reachedFrom (nI s) B = some (nI c) ∧ (s = 1023 → c = 1023) ∧ (s = 0 → c = 0) := by
  obtain ⟨c, c0, c1, c2, c3⟩ := l_rf hs hv 10 0 (by omega) jFu jFu (jFu_lt (by omega)) (jFu_lt (by omega)) 0 (by omega) (fun k h => by omega)
  rw [Nat.zero_or] at c2
  refine ⟨c, c0, c1, c2, ?_, ?_⟩
  · rintro rfl
    apply Nat.eq_of_testBit_eq
    intro k
    by_cases h : k < 10
    · have e : Nat.testBit 1023 k = true := by
        have : ∀ k, k < 10 → Nat.testBit 1023 k = true := by decide
        exact this k h
      rw [c3 k h e, e]
    · rw [Nat.testBit_lt_two_pow (Nat.lt_of_lt_of_le c0 (Nat.pow_le_pow_right (n := 2) (i := 10) (by omega) (by omega))), Nat.testBit_lt_two_pow (x := 1023) (Nat.lt_of_lt_of_le (show 1023 < 2 ^ 10 by decide) (Nat.pow_le_pow_right (n := 2) (i := 10) (by omega) (by omega)))]
  · rintro rfl
    clear c3
    have key : ∀ d r, r + d = 10 → ∀ n, d < n → f_TT_reachedFrom_4 n (nI 0) (nI 0) (nI r) A = some (nI 0) := by
      intro d
      induction d with
      | zero =>
        intro r hr n hn
        obtain ⟨n, rfl⟩ : ∃ k, n = k + 1 := ⟨n - 1, by omega⟩
        simp (disch := omega) only [f_TT_reachedFrom_4, jp_c, decide_eq_true_eq, n_lit, n_neg1, n_add, n_mul, n_sub, n_div, n_mod, n_le, n_lt, n_eq, n_cl, n_in, Nat.reduceEqDiff, Nat.reduceAdd, Nat.reduceMul, ite_true, ite_false, if_true, if_false, eq_self_iff_true, ↓reduceIte, and_self, and_true, true_and, and_false, false_and, not_true_eq_false, not_false_eq_true, if_pos, if_neg]
      | succ d ih =>
        intro r hr n hn
        obtain ⟨n, rfl⟩ : ∃ k, n = k + 1 := ⟨n - 1, by omega⟩
        have b1 := n_btI (s := 0) (k := r) (by omega) (by omega)
        rw [Nat.zero_testBit] at b1
        rw [← ih (r + 1) (by omega) n (by omega)]
        simp (disch := omega) only [f_TT_reachedFrom_4, f_TT_reachedFrom_31, jp_c, decide_eq_true_eq, n_lit, n_add, n_le, n_eq, Nat.reduceEqDiff, Nat.reduceAdd, Nat.reduceMul, ite_true, ite_false, if_true, if_false, eq_self_iff_true, ↓reduceIte, and_self, and_true, true_and, and_false, false_and, not_true_eq_false, not_false_eq_true, if_pos, if_neg, b1, Bool.false_eq_true]
    have := key 10 0 (by omega) jFu (jFu_lt (by omega))
    have c1' : f_TT_reachedFrom_4 jFu (nI 0) (nI 0) (nI 0) A = some (nI c) := c1
    rw [this] at c1'
    have c4 := Option.some.inj c1'
    rw [n_eq (by omega) (by omega)] at c4
    exact c4.symm
/-- sets from the least up -/
theorem l_ask {A B : jp_M} (hv : ∀ r, r < 10 → ∃ x, x < 1024 ∧ B 137 r = nI x ∧ A 24 r = nI (x ||| 2 ^ r)) (a : Int32) : ∀ d s, s + d = 1024 → 1 ≤ s → ∀ n m, d < n → d < m → ∀ M g f, (∀ q, ¬ q = 61 → M q = A q) → g < 1024 → M 61 7 = nI f → M 61 8 = nI g → (f = oc g ∨ (f = 11 ∧ g = 1023 ∧ 0 < d)) →
    ∃ M', f_TT_choosesCallers_17 n (nI 1023) (nI s) M = some M' ∧ (∀ q, ¬ q = 61 → M' q = A q) ∧ f_M_asked_23 m a (nI g) (nI s) B = some (if a = nI 0 then M' 61 7 else M' 61 8, B) := by
  intro d
  induction d with
  | zero =>
    intro s hs h1 n m hn hm M g f hM hg h7 h8 hf
    obtain ⟨n, rfl⟩ : ∃ k, n = k + 1 := ⟨n - 1, by omega⟩
    obtain ⟨m, rfl⟩ : ∃ k, m = k + 1 := ⟨m - 1, by omega⟩
    have hf' : f = oc g := by omega
    have o := oc_M hg
    refine ⟨M, ?_, hM, ?_⟩
    · simp (disch := omega) only [f_TT_choosesCallers_17, jp_c, decide_eq_true_eq, n_lit, n_neg1, n_add, n_mul, n_sub, n_div, n_mod, n_le, n_lt, n_eq, n_cl, n_in, Nat.reduceEqDiff, Nat.reduceAdd, Nat.reduceMul, ite_true, ite_false, if_true, if_false, eq_self_iff_true, ↓reduceIte, and_self, and_true, true_and, and_false, false_and, not_true_eq_false, not_false_eq_true, if_pos, if_neg]
    · rw [h7, h8, hf']
      by_cases ha : a = nI 0
      · simp (disch := omega) only [f_M_asked_23, jp_c, decide_eq_true_eq, n_lit, n_neg1, n_add, n_mul, n_sub, n_div, n_mod, n_le, n_lt, n_eq, n_cl, n_in, Nat.reduceEqDiff, Nat.reduceAdd, Nat.reduceMul, ite_true, ite_false, if_true, if_false, eq_self_iff_true, ↓reduceIte, and_self, and_true, true_and, and_false, false_and, not_true_eq_false, not_false_eq_true, if_pos, if_neg, ha, o, Option.bind_some]
      · simp (disch := omega) only [f_M_asked_23, jp_c, decide_eq_true_eq, n_lit, n_neg1, n_add, n_mul, n_sub, n_div, n_mod, n_le, n_lt, n_eq, n_cl, n_in, Nat.reduceEqDiff, Nat.reduceAdd, Nat.reduceMul, ite_true, ite_false, if_true, if_false, eq_self_iff_true, ↓reduceIte, and_self, and_true, true_and, and_false, false_and, not_true_eq_false, not_false_eq_true, if_pos, if_neg, ha]
  | succ d ih =>
    intro s hs h1 n m hn hm M g f hM hg h7 h8 hf
    obtain ⟨n, rfl⟩ : ∃ k, n = k + 1 := ⟨n - 1, by omega⟩
    obtain ⟨m, rfl⟩ : ∃ k, m = k + 1 := ⟨m - 1, by omega⟩
    have o1 := oc_M hg
    have o2 := oc_M (s := s) (by omega)
    have o3 := oc_C s (by omega)
    have ol := oc_l s
    have ol' := oc_l g
    have hv' : ∀ r, r < 10 → ∃ x, x < 1024 ∧ B 137 r = nI x ∧ M 24 r = nI (x ||| 2 ^ r) := by rw [hM 24 (by decide)]; exact hv
    obtain ⟨c, c0, c1, c2, c3, -⟩ := p_rf (A := M) (B := B) (s := s) (by omega) hv'
    have hot := oc_t s (by omega)
    have h1023 : oc 1023 = 10 := by decide
    by_cases hc : c = 1023
    · by_cases hlt : f ≤ oc s
      · -- not fewer
        have hlt' : oc g ≤ oc s := by omega
        obtain ⟨M', e1, e2, e3⟩ := ih (s + 1) (by omega) (by omega) n m (by omega) (by omega) M g f hM hg h7 h8 (by
          rcases hf with hf | ⟨hf1, hf2, -⟩
          · exact Or.inl hf
          · omega)
        refine ⟨M', ?_, e2, ?_⟩
        · rw [← e1]
          simp (disch := omega) only [f_TT_choosesCallers_17, f_TT_choosesCallers_54, jp_c, decide_eq_true_eq, n_lit, n_add, n_le, n_lt, Nat.reduceEqDiff, Nat.reduceAdd, Nat.reduceMul, ite_true, ite_false, if_true, if_false, eq_self_iff_true, ↓reduceIte, and_self, and_true, true_and, and_false, false_and, not_true_eq_false, not_false_eq_true, if_pos, if_neg, o3, h7, hlt]
        · rw [← e3]
          simp (disch := omega) only [f_M_asked_23, f_M_asked_56, jp_c, decide_eq_true_eq, n_lit, n_add, n_le, Nat.reduceEqDiff, Nat.reduceAdd, Nat.reduceMul, ite_true, ite_false, if_true, if_false, eq_self_iff_true, ↓reduceIte, and_self, and_true, true_and, and_false, false_and, not_true_eq_false, not_false_eq_true, if_pos, if_neg, o1, o2, hlt', Option.bind_some]
      · by_cases hlt' : oc g ≤ oc s
        · -- all of them, and nothing was found before
          have hg1 : g = 1023 := by
            rcases hf with hf | ⟨-, hf2, -⟩
            · omega
            · exact hf2
          have hg2 : oc g = 10 := by rw [hg1]; exact h1023
          have hs3 : s = 1023 := by omega
          obtain ⟨M', e1, e2, e3⟩ := ih (s + 1) (by omega) (by omega) n m (by omega) (by omega) (jp_set (jp_set M 61 (upd (M 61) 7 (nI (oc s)))) 61 (upd (upd (M 61) 7 (nI (oc s))) 8 (nI s))) s (oc s) (fun q hq => by rw [st_ne hq, st_ne hq, hM q hq]) (by omega) (by rw [st_same, ud_ne (by decide), ud_eq rfl]) (by rw [st_same, ud_eq rfl]) (Or.inl rfl)
          refine ⟨M', ?_, e2, ?_⟩
          · rw [← e1]
            simp (disch := omega) only [f_TT_choosesCallers_17, f_TT_choosesCallers_54, jp_c, decide_eq_true_eq, n_lit, n_add, n_le, n_lt, n_eq, Nat.reduceEqDiff, Nat.reduceAdd, Nat.reduceMul, ite_true, ite_false, if_true, if_false, eq_self_iff_true, ↓reduceIte, and_self, and_true, true_and, and_false, false_and, not_true_eq_false, not_false_eq_true, if_pos, if_neg, o3, h7, hlt, c1, hc, Option.bind_some, st_ap]
          · have hg3 : g = s := by omega
            subst hg3
            rw [← e3]
            simp (disch := omega) only [f_M_asked_23, f_M_asked_56, jp_c, decide_eq_true_eq, n_lit, n_add, n_le, Nat.reduceEqDiff, Nat.reduceAdd, Nat.reduceMul, ite_true, ite_false, if_true, if_false, eq_self_iff_true, ↓reduceIte, and_self, and_true, true_and, and_false, false_and, not_true_eq_false, not_false_eq_true, if_pos, if_neg, o1, hlt', Option.bind_some]
        · obtain ⟨M', e1, e2, e3⟩ := ih (s + 1) (by omega) (by omega) n m (by omega) (by omega) (jp_set (jp_set M 61 (upd (M 61) 7 (nI (oc s)))) 61 (upd (upd (M 61) 7 (nI (oc s))) 8 (nI s))) s (oc s) (fun q hq => by rw [st_ne hq, st_ne hq, hM q hq]) (by omega) (by rw [st_same, ud_ne (by decide), ud_eq rfl]) (by rw [st_same, ud_eq rfl]) (Or.inl rfl)
          refine ⟨M', ?_, e2, ?_⟩
          · rw [← e1]
            simp (disch := omega) only [f_TT_choosesCallers_17, f_TT_choosesCallers_54, jp_c, decide_eq_true_eq, n_lit, n_add, n_le, n_lt, n_eq, Nat.reduceEqDiff, Nat.reduceAdd, Nat.reduceMul, ite_true, ite_false, if_true, if_false, eq_self_iff_true, ↓reduceIte, and_self, and_true, true_and, and_false, false_and, not_true_eq_false, not_false_eq_true, if_pos, if_neg, o3, h7, hlt, c1, hc, Option.bind_some, st_ap]
          · rw [← e3]
            simp (disch := omega) only [f_M_asked_23, f_M_asked_56, jp_c, decide_eq_true_eq, n_lit, n_add, n_le, n_eq, Nat.reduceEqDiff, Nat.reduceAdd, Nat.reduceMul, ite_true, ite_false, if_true, if_false, eq_self_iff_true, ↓reduceIte, and_self, and_true, true_and, and_false, false_and, not_true_eq_false, not_false_eq_true, if_pos, if_neg, o1, o2, hlt', c2, hc, Option.bind_some]
    · have hs3 : ¬ s = 1023 := fun h => hc (c3 h)
      obtain ⟨M', e1, e2, e3⟩ := ih (s + 1) (by omega) (by omega) n m (by omega) (by omega) M g f hM hg h7 h8 (by omega)
      refine ⟨M', ?_, e2, ?_⟩
      · rw [← e1]
        by_cases hlt : f ≤ oc s
        · simp (disch := omega) only [f_TT_choosesCallers_17, f_TT_choosesCallers_54, jp_c, decide_eq_true_eq, n_lit, n_add, n_le, n_lt, n_eq, Nat.reduceEqDiff, Nat.reduceAdd, Nat.reduceMul, ite_true, ite_false, if_true, if_false, eq_self_iff_true, ↓reduceIte, and_self, and_true, true_and, and_false, false_and, not_true_eq_false, not_false_eq_true, if_pos, if_neg, o3, h7, hlt]
        · simp (disch := omega) only [f_TT_choosesCallers_17, f_TT_choosesCallers_54, jp_c, decide_eq_true_eq, n_lit, n_add, n_le, n_lt, n_eq, Nat.reduceEqDiff, Nat.reduceAdd, Nat.reduceMul, ite_true, ite_false, if_true, if_false, eq_self_iff_true, ↓reduceIte, and_self, and_true, true_and, and_false, false_and, not_true_eq_false, not_false_eq_true, if_pos, if_neg, o3, h7, hlt, c1, hc, Option.bind_some]
      · rw [← e3]
        by_cases hlt : oc g ≤ oc s
        · simp (disch := omega) only [f_M_asked_23, f_M_asked_56, jp_c, decide_eq_true_eq, n_lit, n_add, n_le, n_eq, Nat.reduceEqDiff, Nat.reduceAdd, Nat.reduceMul, ite_true, ite_false, if_true, if_false, eq_self_iff_true, ↓reduceIte, and_self, and_true, true_and, and_false, false_and, not_true_eq_false, not_false_eq_true, if_pos, if_neg, o1, o2, hlt, Option.bind_some]
        · simp (disch := omega) only [f_M_asked_23, f_M_asked_56, jp_c, decide_eq_true_eq, n_lit, n_add, n_le, n_eq, Nat.reduceEqDiff, Nat.reduceAdd, Nat.reduceMul, ite_true, ite_false, if_true, if_false, eq_self_iff_true, ↓reduceIte, and_self, and_true, true_and, and_false, false_and, not_true_eq_false, not_false_eq_true, if_pos, if_neg, o1, o2, hlt, c2, hc, Option.bind_some]
theorem p_asked (a : Int32) {A B : jp_M} (hR : Rel A B) : pOK (f_C_asked a A) (f_M_asked a B) := by
  have T := Rel_told (x := nI 0) hR
  generalize hB1 : jp_set B 104 (upd (B 104) 0 (nI 0)) = B1 at T
  have hT := T
  obtain ⟨⟨hW, hBk, hLw, hPe, hLe, hCi, hWi, hKi, hPo, hWy, hVo⟩, hPic, hKe, hTa, hFa, hTh, hWd⟩ := T
  by_cases h1 : nI 0 ≤ a ∧ a ≤ nI 1
  · obtain ⟨M', e1, e2, e3⟩ := l_ask (A := A) (B := B1) hVo a 1023 1 (by omega) (by omega) jFu 99999 (jFu_lt (by omega)) (by omega) (jp_set (jp_set A 61 (upd (A 61) 7 (nI 11))) 61 (upd (upd (A 61) 7 (nI 11)) 8 (nI 1023))) 1023 11
      (fun q hq => by rw [st_ne hq, st_ne hq]) (by omega) (by rw [st_same, ud_ne (by decide), ud_eq rfl]) (by rw [st_same, ud_eq rfl]) (Or.inr ⟨rfl, rfl, by omega⟩)
    have c0 : f_TT_choosesCallers A = some M' := by
      rw [← e1]
      simp (disch := omega) only [f_TT_choosesCallers, n_lit, Nat.reduceEqDiff, Nat.reduceAdd, Nat.reduceMul, ite_true, ite_false, if_true, if_false, eq_self_iff_true, ↓reduceIte, and_self, and_true, true_and, and_false, false_and, not_true_eq_false, not_false_eq_true, if_pos, if_neg, st_ap]
    have c1 : f_C_asked a A = some (if a = nI 0 then M' 61 7 else M' 61 8, M') := by
      simp (disch := omega) only [f_C_asked, n_within, n_it0, jp_c, decide_eq_true_eq, n_lit, n_eq, Nat.reduceEqDiff, Nat.reduceAdd, Nat.reduceMul, ite_true, ite_false, if_true, if_false, eq_self_iff_true, ↓reduceIte, and_self, and_true, true_and, and_false, false_and, not_true_eq_false, not_false_eq_true, if_pos, if_neg, h1, c0, Option.bind_some]
      by_cases hz : a = nI 0 <;> simp [hz]
    have hst : ∀ n, f_M_asked_23 (n + 1) a (nI 1023) (nI 0) B1 = f_M_asked_23 n a (nI 1023) (nI 1) B1 := by
      intro n
      obtain ⟨c, c0, -, c2, -, c4⟩ := p_rf (A := A) (B := B1) (s := 0) (by omega) hVo
      have hc : ¬ c = 1023 := by have := c4 rfl; omega
      have o1 := oc_M (s := 0) (by omega)
      have o2 := oc_M (s := 1023) (by omega)
      have ho : ¬ oc 1023 ≤ oc 0 := by decide
      have ol := oc_l 0
      have ol' := oc_l 1023
      simp (disch := omega) only [f_M_asked_23, f_M_asked_56, jp_c, decide_eq_true_eq, n_lit, n_add, n_le, n_eq, Nat.reduceEqDiff, Nat.reduceAdd, Nat.reduceMul, ite_true, ite_false, if_true, if_false, eq_self_iff_true, ↓reduceIte, and_self, and_true, true_and, and_false, false_and, not_true_eq_false, not_false_eq_true, if_pos, if_neg, Nat.zero_add, o1, o2, ho, c2, hc, Option.bind_some, Nat.reduceLeDiff]
    have c2 : f_M_asked a B = some (if a = nI 0 then M' 61 7 else M' 61 8, B1) := by
      rw [← e3, ← hst 99999]
      have : f_M_asked_23 (99999 + 1) a (nI 1023) (nI 0) B1 = f_M_asked_23 jFu a (nI 1023) (nI 0) B1 := rfl
      rw [this]
      simp (disch := omega) only [f_M_asked, hB1, n_isIn, n_it0, jp_c, decide_eq_true_eq, n_lit, n_eq, Nat.reduceEqDiff, Nat.reduceAdd, Nat.reduceMul, ite_true, ite_false, if_true, if_false, eq_self_iff_true, ↓reduceIte, and_self, and_true, true_and, and_false, false_and, not_true_eq_false, not_false_eq_true, if_pos, if_neg, h1]
    rw [c1, c2]
    refine pOK_mk rfl (Rel_scA (fun p hp => e2 p ?_) hT)
    rintro rfl; exact hp (by decide)
  · simp (disch := omega) only [f_C_asked, f_M_asked, hB1, n_within, n_isIn, n_it0, jp_c, decide_eq_true_eq, n_lit, n_neg1, Nat.reduceEqDiff, Nat.reduceAdd, Nat.reduceMul, ite_true, ite_false, if_true, if_false, eq_self_iff_true, ↓reduceIte, and_self, and_true, true_and, and_false, false_and, not_true_eq_false, not_false_eq_true, if_pos, if_neg, h1]
    exact pOK_mk rfl hT
