theorem ud_ud (f : Nat → Int32) (k : Nat) (x y : Int32) : upd (upd f k x) k y = upd f k y := by
  funext i
  by_cases h : i = k <;> simp [upd, h]
theorem ud_self {f : Nat → Int32} {k : Nat} {x : Int32} (h : f k = x) : upd f k x = f := by
  funext i
  by_cases hi : i = k
  · rw [ud_eq hi, hi, h]
  · rw [ud_ne hi]
def cL (v : Nat) : Bool := decide ((97 ≤ v ∧ v ≤ 122) ∨ (65 ≤ v ∧ v ≤ 90))
def cD (v : Nat) : Bool := decide (48 ≤ v ∧ v ≤ 57)
def cS (v : Nat) : Bool := decide (v = 59 ∨ v = 43 ∨ v = 45 ∨ v = 42 ∨ v = 47 ∨ v = 40 ∨ v = 41 ∨ v = 60 ∨ v = 61 ∨ v = 62)
theorem bt_L : ∀ v, v < 256 → f_R_isLetter (bt v) = (if cL v = true then nI 1 else nI 0) := by decide +kernel
theorem mt_L : ∀ v, v < 256 → f_M_isLetter (nI v) = (if cL v = true then nI 1 else nI 0) := by decide +kernel
theorem bt_D : ∀ v, v < 256 → f_R_isDigit (bt v) = (if cD v = true then nI 1 else nI 0) := by decide +kernel
theorem mt_D : ∀ v, v < 256 → f_M_isDigit (nI v) = (if cD v = true then nI 1 else nI 0) := by decide +kernel
theorem mt_S : ∀ v, v < 256 → f_M_isMarkSign (nI v) = (if cS v = true then nI 1 else nI 0) := by decide +kernel
theorem mt_n : f_M_isLetter (nI 4294967295) = nI 0 ∧ f_M_isDigit (nI 4294967295) = nI 0 := by decide +kernel
theorem bt_neg : ∀ v, v < 256 → bt v ≤ nI 0 → cS v = false := by decide +kernel
theorem bt_pos : ∀ v, v < 256 → ¬ bt v ≤ nI 0 → bt v = nI v := by decide +kernel
theorem bt_dig : ∀ v, v < 256 → cD v = true → bt v = nI v := by decide +kernel
theorem bt_sg : ∀ v, v < 256 → ¬ bt v ≤ nI 0 → (f_JS_indexOf1 ((Int32.toUInt32 (nI v) % 65536).toInt32)).map (fun r => decide (r < nI 0)) = some (!cS v) := by decide +kernel
theorem m_raw {M : jp_M} {t : Nat → Nat} {N q : Nat} (hN : N ≤ 400) (h13 : M 104 13 = nI N) (ht : ∀ j, j < 400 → t j < 256 ∧ M 112 j = nI (t j)) (hq : q ≤ N) : f_M_raw (nI q) M = some (if q < N then nI (t q) else nI 4294967295) := by
  by_cases h : q < N
  · have h' : ¬ N ≤ q := by omega
    simp (disch := omega) only [f_M_raw, jp_c, decide_eq_true_eq, n_le, n_in, n_cl, h13, h, h', (ht q (by omega)).2, jg_t, Nat.reduceEqDiff, Nat.reduceAdd, Nat.reduceMul, ite_true, ite_false, if_true, if_false, eq_self_iff_true, ↓reduceIte, and_self, and_true, true_and, and_false, false_and, not_true_eq_false, not_false_eq_true, if_pos, if_neg]
  · have h' : N ≤ q := by omega
    simp (disch := omega) only [f_M_raw, jp_c, decide_eq_true_eq, n_lit, n_neg1, n_le, h13, h, h', Nat.reduceEqDiff, Nat.reduceAdd, Nat.reduceMul, ite_true, ite_false, if_true, if_false, eq_self_iff_true, ↓reduceIte, and_self, and_true, true_and, and_false, false_and, not_true_eq_false, not_false_eq_true, if_pos, if_neg]
/-- the reference's reading behind the blanks -/
def rdT (M : jp_M) : Option jp_M :=
    let M3 := jp_set M 104 (upd (M 104) 15 (M 104 14))
    let M4 := jp_set M3 104 (upd (M3 104) 16 (1 : Int32))
    (f_M_raw (M4 104 14) M4).bind fun q5 => (
    if jp_c .ne q5 (-1 : Int32) = true then (
    let M6 := jp_set M4 104 (upd (M4 104) 14 ((M4 104 14) + (1 : Int32)))
    let M7 := jp_set M6 104 (upd (M6 104) 17 q5)
    if jp_c .eq (f_M_isLetter q5) 0 = true then (
    if jp_c .eq (f_M_isDigit q5) 0 = true then (
    if jp_c .eq (f_M_isMarkSign q5) 0 = true then (
    some M7) else (
    let M11 := jp_set M7 104 (upd (M7 104) 16 (4 : Int32))
    some M11)) else (
    let M12 := jp_set M7 104 (upd (M7 104) 17 (q5 - (48 : Int32)))
    f_M_reads_171 jFu M12)) else (
    f_M_reads_95 jFu M7)) else (
    let M13 := jp_set M4 104 (upd (M4 104) 16 (0 : Int32))
    some M13))
theorem rd_0 (n : Nat) (M : jp_M) : f_M_reads_0 (n + 1) M = (f_M_raw (M 104 14) M).bind fun q1 => (
    if jp_c .eq q1 (32 : Int32) = true then (
    f_M_reads_0 n (jp_set M 104 (upd (M 104) 14 ((M 104 14) + (1 : Int32))))) else (
    (f_M_raw (M 104 14) M).bind fun q2 => (
    if jp_c .ne q2 (10 : Int32) = true then rdT M else f_M_reads_0 n (jp_set M 104 (upd (M 104) 14 ((M 104 14) + (1 : Int32))))))) := rfl
def rdW (M : jp_M) : Option jp_M :=
    (f_M_wordAt (M 104 15) (M 104 14) M).bind fun q3 => (
    let M4 := jp_set M 104 (upd (M 104) 17 q3)
    if jp_c .eq (M4 104 17) (-1 : Int32) = true then (
    some M4) else (
    let M5 := jp_set M4 104 (upd (M4 104) 16 (2 : Int32))
    some M5))
theorem rd_95 (n : Nat) (M : jp_M) : f_M_reads_95 (n + 1) M = (f_M_raw (M 104 14) M).bind fun q1 => (
    if jp_c .eq (f_M_isLetter q1) 0 = true then rdW M else f_M_reads_95 n (jp_set M 104 (upd (M 104) 14 ((M 104 14) + (1 : Int32))))) := rfl
def rdN (M : jp_M) : Option jp_M :=
    if jp_c .ge ((M 104 14) - (M 104 15)) (5 : Int32) = true then (
    some M) else (
    let M3 := jp_set M 104 (upd (M 104) 16 (3 : Int32))
    some M3)
theorem rd_171 (n : Nat) (M : jp_M) : f_M_reads_171 (n + 1) M = (f_M_raw (M 104 14) M).bind fun q1 => (
    if jp_c .eq (f_M_isDigit q1) 0 = true then rdN M else (
    if jp_c .ge (M 104 17) (10000 : Int32) = true then (
    f_M_reads_223 (f_M_reads_171 n ) (M 104 17) M) else (
    (f_M_raw (M 104 14) M).bind fun q4 => (
    f_M_reads_223 (f_M_reads_171 n ) ((((10 : Int32) * (M 104 17)) + q4) - (48 : Int32)) M)))) := rfl
def tkA (k x : Nat) (g : Nat → Int32) : Prop := g 5 = nI k ∧ (1 ≤ k → k ≤ 3 → g 6 = nI x)
def tkB (c k x : Nat) (h : Nat → Int32) : Prop := (k = 0 ∧ h 16 = nI 0) ∨ (k = 1 ∧ h 16 = nI 2 ∧ jlo c + x ≤ jhi c ∧ h 17 = nI (jlo c + x)) ∨ (k = 2 ∧ h 16 = nI 3 ∧ x < 10000 ∧ h 17 = nI x) ∨ (k = 3 ∧ h 16 = nI 4 ∧ cS x = true ∧ h 17 = nI x) ∨
  (k = 4 ∧ (h 16 = nI 1 ∨ (h 16 = nI 2 ∧ ∃ y, y ≤ 30 ∧ (y < jlo c ∨ jhi c < y) ∧ h 17 = nI y)))
section
variable {A B : jp_M} {t : Nat → Nat} {N c : Nat}
theorem lx_skip (hN : N ≤ 400) (tA : ∀ j, j < 400 → t j < 256 ∧ A 67 j = (nI (t j)).toInt8.toInt32) (tB : ∀ j, j < 400 → t j < 256 ∧ B 112 j = nI (t j)) {w : Nat} :
    ∀ d q, q + d = N → ∀ n m, d < n → d < m → ∀ g h : Nat → Int32, g 1 = nI N → g 3 = nI q → h 13 = nI N → h 14 = nI q →
    ∃ p, q ≤ p ∧ p ≤ N ∧ f_R_advances_8 n w (jp_set A 68 g) = f_R_advances_60 w (jp_set A 68 (upd g 3 (nI p))) ∧ f_M_reads_0 m (jp_set B 104 h) = rdT (jp_set B 104 (upd h 14 (nI p))) := by
  intro d
  induction d with
  | zero =>
    intro q hq n m hn hm g h g1 g3 h13 h14
    obtain ⟨n, rfl⟩ : ∃ k, n = k + 1 := ⟨n - 1, by omega⟩
    obtain ⟨m, rfl⟩ : ∃ k, m = k + 1 := ⟨m - 1, by omega⟩
    refine ⟨q, by omega, by omega, ?_, ?_⟩
    · rw [ud_self g3]
      have : N ≤ q := by omega
      simp (disch := omega) only [f_R_advances_8, jp_c, decide_eq_true_eq, n_le, st_ap, g1, g3, this, Nat.reduceEqDiff, Nat.reduceAdd, Nat.reduceMul, ite_true, ite_false, if_true, if_false, eq_self_iff_true, ↓reduceIte, and_self, and_true, true_and, and_false, false_and, not_true_eq_false, not_false_eq_true, if_pos, if_neg]
    · rw [ud_self h14, rd_0]
      have e1 : f_M_raw (nI q) (jp_set B 104 h) = _ := m_raw (t := t) hN (by rw [st_same]; exact h13) (fun j hj => by rw [st_ne (by decide)]; exact tB j hj) (by omega)
      rw [if_neg (show ¬ q < N by omega)] at e1
      simp (disch := omega) only [jp_c, decide_eq_true_eq, n_lit, n_eq, st_ap, h14, e1, Option.bind_some, Nat.reduceEqDiff, Nat.reduceAdd, Nat.reduceMul, ite_true, ite_false, if_true, if_false, eq_self_iff_true, ↓reduceIte, and_self, and_true, true_and, and_false, false_and, not_true_eq_false, not_false_eq_true, if_pos, if_neg]
  | succ d ih =>
    intro q hq n m hn hm g h g1 g3 h13 h14
    obtain ⟨n, rfl⟩ : ∃ k, n = k + 1 := ⟨n - 1, by omega⟩
    obtain ⟨m, rfl⟩ : ∃ k, m = k + 1 := ⟨m - 1, by omega⟩
    have e1 : f_M_raw (nI q) (jp_set B 104 h) = _ := m_raw (t := t) hN (by rw [st_same]; exact h13) (fun j hj => by rw [st_ne (by decide)]; exact tB j hj) (by omega)
    rw [if_pos (show q < N by omega)] at e1
    obtain ⟨a1, a2⟩ := tA q (by omega)
    have a3 : (Int32.toInt8 (A 67 q)).toInt32 = bt (t q) := by rw [a2]; rfl
    have b1 := bt_eq (t q) a1 32 (by omega)
    have b2 := bt_eq (t q) a1 10 (by omega)
    have hNq : ¬ N ≤ q := by omega
    by_cases hb : t q = 32 ∨ t q = 10
    · obtain ⟨p, p1, p2, p3, p4⟩ := ih (q + 1) (by omega) n m (by omega) (by omega) (upd g 3 (nI (q + 1))) (upd h 14 (nI (q + 1))) (by rw [ud_ne (by decide)]; exact g1) (ud_eq rfl) (by rw [ud_ne (by decide)]; exact h13) (ud_eq rfl)
      rw [ud_ud] at p3 p4
      refine ⟨p, by omega, p2, ?_, ?_⟩
      · rw [← p3]
        rcases hb with hb | hb
        · have q1 := b1.2 hb
          simp (disch := omega) only [f_R_advances_8, f_R_advances_47, jp_c, decide_eq_true_eq, n_lit, n_add, n_le, n_in, n_cl, st_ap, st_st, g1, g3, hNq, a3, q1, jg_t, Nat.reduceEqDiff, Nat.reduceAdd, Nat.reduceMul, ite_true, ite_false, if_true, if_false, eq_self_iff_true, ↓reduceIte, and_self, and_true, true_and, and_false, false_and, not_true_eq_false, not_false_eq_true, if_pos, if_neg]
        · have q1 : ¬ bt (t q) = nI 32 := fun h => by have := b1.1 h; omega
          have q2 := b2.2 hb
          simp (disch := omega) only [f_R_advances_8, f_R_advances_47, jp_c, decide_eq_true_eq, n_lit, n_add, n_le, n_in, n_cl, st_ap, st_st, g1, g3, hNq, a3, q1, jg_t, Nat.reduceEqDiff, Nat.reduceAdd, Nat.reduceMul, ite_true, ite_false, if_true, if_false, eq_self_iff_true, ↓reduceIte, and_self, and_true, true_and, and_false, false_and, not_true_eq_false, not_false_eq_true, if_pos, if_neg]
          simp only [q2, Nat.reduceEqDiff, Nat.reduceAdd, Nat.reduceMul, ite_true, ite_false, if_true, if_false, eq_self_iff_true, ↓reduceIte, and_self, and_true, true_and, and_false, false_and, not_true_eq_false, not_false_eq_true, if_pos, if_neg]
      · rw [← p4, rd_0]
        rcases hb with hb | hb
        · simp (disch := omega) only [jp_c, decide_eq_true_eq, n_lit, n_add, n_eq, st_ap, st_st, h14, e1, hb, Option.bind_some, Nat.reduceEqDiff, Nat.reduceAdd, Nat.reduceMul, ite_true, ite_false, if_true, if_false, eq_self_iff_true, ↓reduceIte, and_self, and_true, true_and, and_false, false_and, not_true_eq_false, not_false_eq_true, if_pos, if_neg]
        · simp (disch := omega) only [jp_c, decide_eq_true_eq, n_lit, n_add, n_eq, st_ap, st_st, h14, e1, hb, Option.bind_some, Nat.reduceEqDiff, Nat.reduceAdd, Nat.reduceMul, ite_true, ite_false, if_true, if_false, eq_self_iff_true, ↓reduceIte, and_self, and_true, true_and, and_false, false_and, not_true_eq_false, not_false_eq_true, if_pos, if_neg]
    · have hb1 : ¬ t q = 32 := fun h => hb (Or.inl h)
      have hb2 : ¬ t q = 10 := fun h => hb (Or.inr h)
      refine ⟨q, by omega, by omega, ?_, ?_⟩
      · rw [ud_self g3]
        simp (disch := omega) only [f_R_advances_8, f_R_advances_47, jp_c, decide_eq_true_eq, n_lit, n_add, n_le, n_in, n_cl, st_ap, st_st, g1, g3, hNq, a3, b1, b2, hb1, hb2, jg_t, Nat.reduceEqDiff, Nat.reduceAdd, Nat.reduceMul, ite_true, ite_false, if_true, if_false, eq_self_iff_true, ↓reduceIte, and_self, and_true, true_and, and_false, false_and, not_true_eq_false, not_false_eq_true, if_pos, if_neg]
      · rw [ud_self h14, rd_0]
        simp (disch := omega) only [jp_c, decide_eq_true_eq, n_lit, n_add, n_eq, st_ap, st_st, h14, e1, hb1, hb2, Option.bind_some, Nat.reduceEqDiff, Nat.reduceAdd, Nat.reduceMul, ite_true, ite_false, if_true, if_false, eq_self_iff_true, ↓reduceIte, and_self, and_true, true_and, and_false, false_and, not_true_eq_false, not_false_eq_true, if_pos, if_neg]
theorem lx_let (hN : N ≤ 400) (tA : ∀ j, j < 400 → t j < 256 ∧ A 67 j = (nI (t j)).toInt8.toInt32) (tB : ∀ j, j < 400 → t j < 256 ∧ B 112 j = nI (t j)) {w : Nat} :
    ∀ d e, e + d = N → ∀ n m, d < n → d < m → ∀ g h : Nat → Int32, g 1 = nI N → g 4 = nI e → h 13 = nI N → h 14 = nI e →
    ∃ e', e ≤ e' ∧ e' ≤ N ∧ (∀ x, e ≤ x → x < e' → cL (t x) = true) ∧ f_R_advances_102 n w (jp_set A 68 g) = f_R_advances_141 w (jp_set A 68 (upd g 4 (nI e'))) ∧ f_M_reads_95 m (jp_set B 104 h) = rdW (jp_set B 104 (upd h 14 (nI e'))) := by
  intro d
  induction d with
  | zero =>
    intro q hq n m hn hm g h g1 g4 h13 h14
    obtain ⟨n, rfl⟩ : ∃ k, n = k + 1 := ⟨n - 1, by omega⟩
    obtain ⟨m, rfl⟩ : ∃ k, m = k + 1 := ⟨m - 1, by omega⟩
    refine ⟨q, by omega, by omega, fun x h1 h2 => absurd h2 (by omega), ?_, ?_⟩
    · rw [ud_self g4]
      have : N ≤ q := by omega
      simp (disch := omega) only [f_R_advances_102, jp_c, decide_eq_true_eq, n_le, st_ap, g1, g4, this, Nat.reduceEqDiff, Nat.reduceAdd, Nat.reduceMul, ite_true, ite_false, if_true, if_false, eq_self_iff_true, ↓reduceIte, and_self, and_true, true_and, and_false, false_and, not_true_eq_false, not_false_eq_true, if_pos, if_neg]
    · rw [ud_self h14, rd_95]
      have e1 : f_M_raw (nI q) (jp_set B 104 h) = _ := m_raw (t := t) hN (by rw [st_same]; exact h13) (fun j hj => by rw [st_ne (by decide)]; exact tB j hj) (by omega)
      rw [if_neg (show ¬ q < N by omega)] at e1
      simp (disch := omega) only [jp_c, decide_eq_true_eq, n_lit, n_eq, st_ap, h14, e1, mt_n.1, Option.bind_some, Nat.reduceEqDiff, Nat.reduceAdd, Nat.reduceMul, ite_true, ite_false, if_true, if_false, eq_self_iff_true, ↓reduceIte, and_self, and_true, true_and, and_false, false_and, not_true_eq_false, not_false_eq_true, if_pos, if_neg]
  | succ d ih =>
    intro q hq n m hn hm g h g1 g4 h13 h14
    obtain ⟨n, rfl⟩ : ∃ k, n = k + 1 := ⟨n - 1, by omega⟩
    obtain ⟨m, rfl⟩ : ∃ k, m = k + 1 := ⟨m - 1, by omega⟩
    have e1 : f_M_raw (nI q) (jp_set B 104 h) = _ := m_raw (t := t) hN (by rw [st_same]; exact h13) (fun j hj => by rw [st_ne (by decide)]; exact tB j hj) (by omega)
    rw [if_pos (show q < N by omega)] at e1
    obtain ⟨a1, a2⟩ := tA q (by omega)
    have a3 : (Int32.toInt8 (A 67 q)).toInt32 = bt (t q) := by rw [a2]; rfl
    have b1 := bt_L (t q) a1
    have b2 := mt_L (t q) a1
    have hNq : ¬ N ≤ q := by omega
    by_cases hb : cL (t q) = true
    · rw [if_pos hb] at b1 b2
      obtain ⟨p, p1, p2, p5, p3, p4⟩ := ih (q + 1) (by omega) n m (by omega) (by omega) (upd g 4 (nI (q + 1))) (upd h 14 (nI (q + 1))) (by rw [ud_ne (by decide)]; exact g1) (ud_eq rfl) (by rw [ud_ne (by decide)]; exact h13) (ud_eq rfl)
      rw [ud_ud] at p3 p4
      refine ⟨p, by omega, p2, ?_, ?_, ?_⟩
      · intro x h1 h2
        by_cases hx : x = q
        · rw [hx]; exact hb
        · exact p5 x (by omega) h2
      · rw [← p3]
        simp (disch := omega) only [f_R_advances_102, jp_c, decide_eq_true_eq, n_lit, n_add, n_le, n_eq, n_in, n_cl, st_ap, st_st, g1, g4, hNq, a3, b1, jg_t, Nat.reduceEqDiff, Nat.reduceAdd, Nat.reduceMul, ite_true, ite_false, if_true, if_false, eq_self_iff_true, ↓reduceIte, and_self, and_true, true_and, and_false, false_and, not_true_eq_false, not_false_eq_true, if_pos, if_neg]
      · rw [← p4, rd_95]
        simp (disch := omega) only [jp_c, decide_eq_true_eq, n_lit, n_add, n_eq, st_ap, st_st, h14, e1, b2, Option.bind_some, Nat.reduceEqDiff, Nat.reduceAdd, Nat.reduceMul, ite_true, ite_false, if_true, if_false, eq_self_iff_true, ↓reduceIte, and_self, and_true, true_and, and_false, false_and, not_true_eq_false, not_false_eq_true, if_pos, if_neg]
    · rw [if_neg hb] at b1 b2
      refine ⟨q, by omega, by omega, fun x h1 h2 => absurd h2 (by omega), ?_, ?_⟩
      · rw [ud_self g4]
        simp (disch := omega) only [f_R_advances_102, jp_c, decide_eq_true_eq, n_lit, n_add, n_le, n_eq, n_in, n_cl, st_ap, st_st, g1, g4, hNq, a3, b1, jg_t, Nat.reduceEqDiff, Nat.reduceAdd, Nat.reduceMul, ite_true, ite_false, if_true, if_false, eq_self_iff_true, ↓reduceIte, and_self, and_true, true_and, and_false, false_and, not_true_eq_false, not_false_eq_true, if_pos, if_neg]
      · rw [ud_self h14, rd_95]
        simp (disch := omega) only [jp_c, decide_eq_true_eq, n_lit, n_add, n_eq, st_ap, st_st, h14, e1, b2, Option.bind_some, Nat.reduceEqDiff, Nat.reduceAdd, Nat.reduceMul, ite_true, ite_false, if_true, if_false, eq_self_iff_true, ↓reduceIte, and_self, and_true, true_and, and_false, false_and, not_true_eq_false, not_false_eq_true, if_pos, if_neg]
/-- a number so far -/
def dgs (k v : Nat) : Prop := v < 10000 ∧ (k ≤ 3 → v < 1000) ∧ (k ≤ 2 → v < 100) ∧ (k ≤ 1 → v < 10)
theorem lx_dig (hN : N ≤ 400) (tA : ∀ j, j < 400 → t j < 256 ∧ A 67 j = (nI (t j)).toInt8.toInt32) (tB : ∀ j, j < 400 → t j < 256 ∧ B 112 j = nI (t j)) {p : Nat} :
    ∀ d e, e + d = N → p < e → ∀ n m, d < n → d < m → ∀ g h : Nat → Int32, g 1 = nI N → g 3 = nI p → g 4 = nI e → h 13 = nI N → h 14 = nI e → h 15 = nI p → (e - p ≤ 4 → ∃ v, dgs (e - p) v ∧ g 6 = nI v ∧ h 17 = nI v) →
    ∃ e' g' h', e ≤ e' ∧ e' ≤ N ∧ f_R_readsDigits_5 n (jp_set A 68 g) = some (jp_set A 68 g') ∧ f_M_reads_171 m (jp_set B 104 h) = some (jp_set B 104 h') ∧ g' 4 = nI e' ∧ h' 14 = nI e' ∧
    (∀ i, ¬ i = 4 → ¬ i = 5 → ¬ i = 6 → g' i = g i) ∧ (∀ i, ¬ i = 14 → ¬ i = 16 → ¬ i = 17 → h' i = h i) ∧
    ((g' 5 = nI 2 ∧ h' 16 = nI 3 ∧ ∃ v, v < 10000 ∧ g' 6 = nI v ∧ h' 17 = nI v) ∨ (g' 5 = nI 4 ∧ h' 16 = h 16)) := by
  intro d
  -- the end of the digits
  have fin : ∀ e, p < e → e ≤ N → ∀ g h : Nat → Int32, g 3 = nI p → g 4 = nI e → h 14 = nI e → h 15 = nI p → (e - p ≤ 4 → ∃ v, dgs (e - p) v ∧ g 6 = nI v ∧ h 17 = nI v) →
    ∃ g' h', f_R_readsDigits_88 (jp_set A 68 g) = some (jp_set A 68 g') ∧ rdN (jp_set B 104 h) = some (jp_set B 104 h') ∧ g' 4 = nI e ∧ h' 14 = nI e ∧
    (∀ i, ¬ i = 4 → ¬ i = 5 → ¬ i = 6 → g' i = g i) ∧ (∀ i, ¬ i = 14 → ¬ i = 16 → ¬ i = 17 → h' i = h i) ∧
    ((g' 5 = nI 2 ∧ h' 16 = nI 3 ∧ ∃ v, v < 10000 ∧ g' 6 = nI v ∧ h' 17 = nI v) ∨ (g' 5 = nI 4 ∧ h' 16 = h 16)) := by
    intro e hpe heN g h g3 g4 h14 h15 hv
    by_cases h4 : e - p ≤ 4
    · obtain ⟨v, v1, v2, v3⟩ := hv h4
      have h5 : ¬ 4 < e - p := by omega
      have h6 : ¬ 5 ≤ e - p := by omega
      refine ⟨upd g 5 (nI 2), upd h 16 (nI 3), ?_, ?_, ?_, ?_, ?_, ?_, Or.inl ⟨ud_eq rfl, ud_eq rfl, v, v1.1, ?_, ?_⟩⟩
      · simp (disch := omega) only [f_R_readsDigits_88, jp_c, decide_eq_true_eq, n_lit, n_sub, n_lt, st_ap, st_st, g3, g4, h5, Nat.reduceEqDiff, Nat.reduceAdd, Nat.reduceMul, ite_true, ite_false, if_true, if_false, eq_self_iff_true, ↓reduceIte, and_self, and_true, true_and, and_false, false_and, not_true_eq_false, not_false_eq_true, if_pos, if_neg]
      · simp (disch := omega) only [rdN, jp_c, decide_eq_true_eq, n_lit, n_sub, n_le, st_ap, st_st, h14, h15, h6, Nat.reduceEqDiff, Nat.reduceAdd, Nat.reduceMul, ite_true, ite_false, if_true, if_false, eq_self_iff_true, ↓reduceIte, and_self, and_true, true_and, and_false, false_and, not_true_eq_false, not_false_eq_true, if_pos, if_neg]
      · rw [ud_ne (by decide)]; exact g4
      · rw [ud_ne (by decide)]; exact h14
      · intro i _ i5 _; rw [ud_ne i5]
      · intro i _ i5 _; rw [ud_ne i5]
      · rw [ud_ne (by decide)]; exact v2
      · rw [ud_ne (by decide)]; exact v3
    · have h5 : 4 < e - p := by omega
      have h6 : 5 ≤ e - p := by omega
      refine ⟨upd g 5 (nI 4), h, ?_, ?_, ?_, h14, ?_, fun _ _ _ _ => rfl, Or.inr ⟨ud_eq rfl, rfl⟩⟩
      · simp (disch := omega) only [f_R_readsDigits_88, jp_c, decide_eq_true_eq, n_lit, n_sub, n_lt, st_ap, st_st, g3, g4, h5, Nat.reduceEqDiff, Nat.reduceAdd, Nat.reduceMul, ite_true, ite_false, if_true, if_false, eq_self_iff_true, ↓reduceIte, and_self, and_true, true_and, and_false, false_and, not_true_eq_false, not_false_eq_true, if_pos, if_neg]
      · simp (disch := omega) only [rdN, jp_c, decide_eq_true_eq, n_lit, n_sub, n_le, st_ap, st_st, h14, h15, h6, Nat.reduceEqDiff, Nat.reduceAdd, Nat.reduceMul, ite_true, ite_false, if_true, if_false, eq_self_iff_true, ↓reduceIte, and_self, and_true, true_and, and_false, false_and, not_true_eq_false, not_false_eq_true, if_pos, if_neg]
      · rw [ud_ne (by decide)]; exact g4
      · intro i _ i5 _; rw [ud_ne i5]
  induction d with
  | zero =>
    intro e hq hpe n m hn hm g h g1 g3 g4 h13 h14 h15 hv
    obtain ⟨n, rfl⟩ : ∃ k, n = k + 1 := ⟨n - 1, by omega⟩
    obtain ⟨m, rfl⟩ : ∃ k, m = k + 1 := ⟨m - 1, by omega⟩
    obtain ⟨g', h', f1, f2, f3⟩ := fin e hpe (by omega) g h g3 g4 h14 h15 hv
    refine ⟨e, g', h', by omega, by omega, ?_, ?_, f3⟩
    · rw [← f1]
      have : N ≤ e := by omega
      simp (disch := omega) only [f_R_readsDigits_5, jp_c, decide_eq_true_eq, n_le, st_ap, g1, g4, this, Nat.reduceEqDiff, Nat.reduceAdd, Nat.reduceMul, ite_true, ite_false, if_true, if_false, eq_self_iff_true, ↓reduceIte, and_self, and_true, true_and, and_false, false_and, not_true_eq_false, not_false_eq_true, if_pos, if_neg]
    · rw [← f2, rd_171]
      have e1 : f_M_raw (nI e) (jp_set B 104 h) = _ := m_raw (t := t) hN (by rw [st_same]; exact h13) (fun j hj => by rw [st_ne (by decide)]; exact tB j hj) (by omega)
      rw [if_neg (show ¬ e < N by omega)] at e1
      simp (disch := omega) only [jp_c, decide_eq_true_eq, n_lit, n_eq, st_ap, h14, e1, mt_n.2, Option.bind_some, Nat.reduceEqDiff, Nat.reduceAdd, Nat.reduceMul, ite_true, ite_false, if_true, if_false, eq_self_iff_true, ↓reduceIte, and_self, and_true, true_and, and_false, false_and, not_true_eq_false, not_false_eq_true, if_pos, if_neg]
  | succ d ih =>
    intro e hq hpe n m hn hm g h g1 g3 g4 h13 h14 h15 hv
    obtain ⟨n, rfl⟩ : ∃ k, n = k + 1 := ⟨n - 1, by omega⟩
    obtain ⟨m, rfl⟩ : ∃ k, m = k + 1 := ⟨m - 1, by omega⟩
    have e1 : f_M_raw (nI e) (jp_set B 104 h) = _ := m_raw (t := t) hN (by rw [st_same]; exact h13) (fun j hj => by rw [st_ne (by decide)]; exact tB j hj) (by omega)
    rw [if_pos (show e < N by omega)] at e1
    obtain ⟨a1, a2⟩ := tA e (by omega)
    have a3 : (Int32.toInt8 (A 67 e)).toInt32 = bt (t e) := by rw [a2]; rfl
    have b1 := bt_D (t e) a1
    have b2 := mt_D (t e) a1
    have hNq : ¬ N ≤ e := by omega
    by_cases hb : cD (t e) = true
    · have b3 := bt_dig (t e) a1 hb
      rw [if_pos hb] at b1 b2
      have hb' : 48 ≤ t e ∧ t e ≤ 57 := of_decide_eq_true hb
      -- one digit more
      have go : ∀ y z : Int32, (e + 1 - p ≤ 4 → ∃ v, dgs (e + 1 - p) v ∧ y = nI v ∧ z = nI v) → f_R_readsDigits_5 (n + 1) (jp_set A 68 g) = f_R_readsDigits_5 n (jp_set A 68 (upd (upd g 6 y) 4 (nI (e + 1)))) → f_M_reads_171 (m + 1) (jp_set B 104 h) = f_M_reads_171 m (jp_set B 104 (upd (upd h 17 z) 14 (nI (e + 1)))) →
        ∃ e' g' h', e ≤ e' ∧ e' ≤ N ∧ f_R_readsDigits_5 (n + 1) (jp_set A 68 g) = some (jp_set A 68 g') ∧ f_M_reads_171 (m + 1) (jp_set B 104 h) = some (jp_set B 104 h') ∧ g' 4 = nI e' ∧ h' 14 = nI e' ∧
        (∀ i, ¬ i = 4 → ¬ i = 5 → ¬ i = 6 → g' i = g i) ∧ (∀ i, ¬ i = 14 → ¬ i = 16 → ¬ i = 17 → h' i = h i) ∧
        ((g' 5 = nI 2 ∧ h' 16 = nI 3 ∧ ∃ v, v < 10000 ∧ g' 6 = nI v ∧ h' 17 = nI v) ∨ (g' 5 = nI 4 ∧ h' 16 = h 16)) := by
        intro y z hyz c1 c2
        obtain ⟨e', g', h', k1, k2, k3, k4, k5, k6, k7, k8, k9⟩ := ih (e + 1) (by omega) (by omega) n m (by omega) (by omega) (upd (upd g 6 y) 4 (nI (e + 1))) (upd (upd h 17 z) 14 (nI (e + 1)))
          (by rw [ud_ne (by decide), ud_ne (by decide)]; exact g1) (by rw [ud_ne (by decide), ud_ne (by decide)]; exact g3) (ud_eq rfl) (by rw [ud_ne (by decide), ud_ne (by decide)]; exact h13) (ud_eq rfl) (by rw [ud_ne (by decide), ud_ne (by decide)]; exact h15)
          (by rw [ud_ne (show ¬ 6 = 4 by decide), ud_eq rfl, ud_ne (show ¬ 17 = 14 by decide), ud_eq rfl]; exact hyz)
        refine ⟨e', g', h', by omega, k2, by rw [c1]; exact k3, by rw [c2]; exact k4, k5, k6, ?_, ?_, ?_⟩
        · intro i i4 i5 i6
          rw [k7 i i4 i5 i6, ud_ne i4, ud_ne i6]
        · intro i i4 i5 i6
          rw [k8 i i4 i5 i6, ud_ne i4, ud_ne i6]
        · rw [ud_ne (show ¬ 16 = 14 by decide), ud_ne (show ¬ 16 = 17 by decide)] at k9
          exact k9
      by_cases h4 : e - p ≤ 4
      · obtain ⟨v, v1, v2, v3⟩ := hv h4
        have hv9 : v < 10000 := v1.1
        have hv0 : ¬ 10000 ≤ v := by omega
        have m1 : f_M_reads_171 (m + 1) (jp_set B 104 h) = f_M_reads_171 m (jp_set B 104 (upd (upd h 17 (nI (10 * v + t e - 48))) 14 (nI (e + 1)))) := by
          rw [rd_171]
          simp (disch := omega) only [f_M_reads_223, jp_c, decide_eq_true_eq, n_lit, n_add, n_mul, n_sub, n_eq, n_le, st_ap, st_st, ud_ap, h14, v3, e1, b2, hv0, Option.bind_some, Nat.reduceEqDiff, Nat.reduceAdd, Nat.reduceMul, ite_true, ite_false, if_true, if_false, eq_self_iff_true, ↓reduceIte, and_self, and_true, true_and, and_false, false_and, not_true_eq_false, not_false_eq_true, if_pos, if_neg]
        by_cases h5 : 4 ≤ e - p
        · refine go (nI v) (nI (10 * v + t e - 48)) (fun h => absurd h (by omega)) ?_ m1
          simp (disch := omega) only [f_R_readsDigits_5, f_R_readsDigits_72, jp_c, decide_eq_true_eq, n_lit, n_add, n_mul, n_sub, n_le, n_eq, n_in, n_cl, st_ap, st_st, ud_ap, g1, g3, g4, v2, hNq, a3, b1, h5, jg_t, Nat.reduceEqDiff, Nat.reduceAdd, Nat.reduceMul, ite_true, ite_false, if_true, if_false, eq_self_iff_true, ↓reduceIte, and_self, and_true, true_and, and_false, false_and, not_true_eq_false, not_false_eq_true, if_pos, if_neg]
        · refine go (nI (10 * v + t e - 48)) (nI (10 * v + t e - 48)) (fun _ => ⟨_, ?_, rfl, rfl⟩) ?_ m1
          · unfold dgs at v1 ⊢
            refine ⟨?_, ?_, ?_, ?_⟩ <;> omega
          · have b1' : f_R_isDigit (nI (t e)) = nI 1 := by rw [← b3]; exact b1
            simp (disch := omega) only [f_R_readsDigits_5, f_R_readsDigits_72, jp_c, decide_eq_true_eq, n_lit, n_add, n_mul, n_sub, n_le, n_eq, n_in, n_cl, st_ap, st_st, ud_ap, g1, g3, g4, v2, hNq, a3, b1', b3, h5, jg_t, Nat.reduceEqDiff, Nat.reduceAdd, Nat.reduceMul, ite_true, ite_false, if_true, if_false, eq_self_iff_true, ↓reduceIte, and_self, and_true, true_and, and_false, false_and, not_true_eq_false, not_false_eq_true, if_pos, if_neg]
      · have h5 : 4 ≤ e - p := by omega
        have c1 : f_R_readsDigits_5 (n + 1) (jp_set A 68 g) = f_R_readsDigits_5 n (jp_set A 68 (upd (upd g 6 (g 6)) 4 (nI (e + 1)))) := by
          simp (disch := omega) only [f_R_readsDigits_5, f_R_readsDigits_72, jp_c, decide_eq_true_eq, n_lit, n_add, n_mul, n_sub, n_le, n_eq, n_in, n_cl, st_ap, st_st, ud_ap, g1, g3, g4, hNq, a3, b1, h5, jg_t, Nat.reduceEqDiff, Nat.reduceAdd, Nat.reduceMul, ite_true, ite_false, if_true, if_false, eq_self_iff_true, ↓reduceIte, and_self, and_true, true_and, and_false, false_and, not_true_eq_false, not_false_eq_true, if_pos, if_neg]
        by_cases h6 : nI 10000 ≤ h 17
        · refine go (g 6) (h 17) (fun h => absurd h (by omega)) c1 ?_
          rw [rd_171]
          simp (disch := omega) only [f_M_reads_223, jp_c, decide_eq_true_eq, n_lit, n_add, n_eq, st_ap, st_st, ud_ap, h14, h6, e1, b2, Option.bind_some, Nat.reduceEqDiff, Nat.reduceAdd, Nat.reduceMul, ite_true, ite_false, if_true, if_false, eq_self_iff_true, ↓reduceIte, and_self, and_true, true_and, and_false, false_and, not_true_eq_false, not_false_eq_true, if_pos, if_neg]
        · refine go (g 6) (nI 10 * h 17 + nI (t e) - nI 48) (fun h => absurd h (by omega)) c1 ?_
          rw [rd_171]
          simp (disch := omega) only [f_M_reads_223, jp_c, decide_eq_true_eq, n_lit, n_add, n_eq, st_ap, st_st, ud_ap, h14, h6, e1, b2, Option.bind_some, Nat.reduceEqDiff, Nat.reduceAdd, Nat.reduceMul, ite_true, ite_false, if_true, if_false, eq_self_iff_true, ↓reduceIte, and_self, and_true, true_and, and_false, false_and, not_true_eq_false, not_false_eq_true, if_pos, if_neg]
    · rw [if_neg hb] at b1 b2
      obtain ⟨g', h', f1, f2, f3⟩ := fin e hpe (by omega) g h g3 g4 h14 h15 hv
      refine ⟨e, g', h', by omega, by omega, ?_, ?_, f3⟩
      · rw [← f1]
        simp (disch := omega) only [f_R_readsDigits_5, jp_c, decide_eq_true_eq, n_lit, n_le, n_eq, n_in, n_cl, st_ap, g1, g4, hNq, a3, b1, jg_t, Nat.reduceEqDiff, Nat.reduceAdd, Nat.reduceMul, ite_true, ite_false, if_true, if_false, eq_self_iff_true, ↓reduceIte, and_self, and_true, true_and, and_false, false_and, not_true_eq_false, not_false_eq_true, if_pos, if_neg]
      · rw [← f2, rd_171]
        simp (disch := omega) only [jp_c, decide_eq_true_eq, n_lit, n_eq, st_ap, h14, e1, b2, Option.bind_some, Nat.reduceEqDiff, Nat.reduceAdd, Nat.reduceMul, ite_true, ite_false, if_true, if_false, eq_self_iff_true, ↓reduceIte, and_self, and_true, true_and, and_false, false_and, not_true_eq_false, not_false_eq_true, if_pos, if_neg]
/-- both go to the next token -/
theorem lx_adv (hc : c < 4) (hN : N ≤ 400) (tA : ∀ j, j < 400 → t j < 256 ∧ A 67 j = (nI (t j)).toInt8.toInt32) (tB : ∀ j, j < 400 → t j < 256 ∧ B 112 j = nI (t j)) (hw : rWords (B 113))
    (hA1 : A 68 1 = nI N) (hB13 : B 104 13 = nI N) {q : Nat} (hq : q ≤ N) (hA4 : A 68 4 = nI q) (hB14 : B 104 14 = nI q) :
    ∃ (g h : Nat → Int32) (p n k x : Nat), f_R_advances (1000 + c) A = some (jp_set A 68 g) ∧ f_M_reads B = some (jp_set B 104 h) ∧ g 3 = nI p ∧ g 4 = nI n ∧ h 15 = nI p ∧ h 14 = nI n ∧ q ≤ p ∧ p ≤ n ∧ n ≤ N ∧ ((k = 0 ∨ p < n) ∧ (k = 1 → p + 2 ≤ n)) ∧ k ≤ 4 ∧ tkA k x g ∧ tkB c k x h ∧
    (∀ i, ¬ i = 3 → ¬ i = 4 → ¬ i = 5 → ¬ i = 6 → g i = A 68 i) ∧ (∀ i, ¬ i = 14 → ¬ i = 15 → ¬ i = 16 → ¬ i = 17 → h i = B 104 i) := by
  obtain ⟨z, hz, hz4⟩ : ∃ z, jFu = z + 1 ∧ 400 < z := ⟨99999, rfl, by omega⟩
  have sB : jp_set B 104 (B 104) = B := by funext p; rw [st_ap]; split <;> simp_all
  obtain ⟨p, p1, p2, p3, p4⟩ := lx_skip (A := A) (B := B) (w := 1000 + c) hN tA tB (N - q) q (by omega) jFu jFu (show N - q < 100000 by omega) (show N - q < 100000 by omega) (upd (A 68) 3 (nI q)) (B 104) (by rw [ud_ne (by decide)]; exact hA1) (ud_eq rfl) hB13 hB14
  rw [ud_ud] at p3
  rw [sB] at p4
  have pa : f_R_advances (1000 + c) A = f_R_advances_60 (1000 + c) (jp_set A 68 (upd (A 68) 3 (nI p))) := by rw [← p3, f_R_advances, hA4]
  have pb : f_M_reads B = rdT (jp_set B 104 (upd (B 104) 14 (nI p))) := by rw [← p4, f_M_reads]
  rw [pa, pb]
  have e1 : ∀ (h : Nat → Int32), h 13 = nI N → f_M_raw (nI p) (jp_set B 104 h) = some (if p < N then nI (t p) else nI 4294967295) := fun h h13 => m_raw (t := t) hN (by rw [st_same]; exact h13) (fun j hj => by rw [st_ne (by decide)]; exact tB j hj) p2
  by_cases hpN : p < N
  · have e2 := e1 (upd (upd (upd (B 104) 14 (nI p)) 15 (nI p)) 16 (nI 1)) (by rw [ud_ne (by decide), ud_ne (by decide), ud_ne (by decide)]; exact hB13)
    rw [if_pos hpN] at e2
    obtain ⟨a1, a2⟩ := tA p (by omega)
    have a3 : (Int32.toInt8 (A 67 p)).toInt32 = bt (t p) := by rw [a2]; rfl
    have a4 : ¬ t p = 4294967295 := by omega
    have b1 := bt_L (t p) a1
    have b2 := mt_L (t p) a1
    have b3 := bt_D (t p) a1
    have b4 := mt_D (t p) a1
    have b5 := mt_S (t p) a1
    by_cases hL : cL (t p) = true
    · -- a word
      rw [if_pos hL] at b1 b2
      have ra : f_R_advances_60 (1000 + c) (jp_set A 68 (upd (A 68) 3 (nI p))) = f_R_advances_102 z (1000 + c) (jp_set A 68 (upd (upd (A 68) 3 (nI p)) 4 (nI (p + 1)))) := by
        have hNp : ¬ N ≤ p := by omega
        have s1 : f_R_advances_60 (1000 + c) (jp_set A 68 (upd (A 68) 3 (nI p))) = f_R_advances_102 (z + 1) (1000 + c) (jp_set A 68 (upd (upd (A 68) 3 (nI p)) 4 (nI p))) := by
          simp (disch := omega) only [f_R_advances_60, jp_c, decide_eq_true_eq, n_lit, n_lt, n_eq, n_in, n_cl, st_ap, st_st, ud_ap, hA1, a3, b1, hpN, jg_t, hz, Nat.reduceEqDiff, Nat.reduceAdd, Nat.reduceMul, ite_true, ite_false, if_true, if_false, eq_self_iff_true, ↓reduceIte, and_self, and_true, true_and, and_false, false_and, not_true_eq_false, not_false_eq_true, if_pos, if_neg]
        rw [s1]
        simp (disch := omega) only [f_R_advances_102, jp_c, decide_eq_true_eq, n_lit, n_add, n_le, n_eq, n_in, n_cl, st_ap, st_st, ud_ap, ud_ud, hA1, a3, b1, hNp, jg_t, Nat.reduceEqDiff, Nat.reduceAdd, Nat.reduceMul, ite_true, ite_false, if_true, if_false, eq_self_iff_true, ↓reduceIte, and_self, and_true, true_and, and_false, false_and, not_true_eq_false, not_false_eq_true, if_pos, if_neg]
      have rb : rdT (jp_set B 104 (upd (B 104) 14 (nI p))) = f_M_reads_95 jFu (jp_set B 104 (upd (upd (upd (upd (upd (B 104) 14 (nI p)) 15 (nI p)) 16 (nI 1)) 14 (nI (p + 1))) 17 (nI (t p)))) := by
        simp (disch := omega) only [rdT, jp_c, decide_eq_true_eq, n_lit, n_neg1, n_add, n_eq, st_ap, st_st, ud_ap, e2, a4, b2, Option.bind_some, Nat.reduceEqDiff, Nat.reduceAdd, Nat.reduceMul, ite_true, ite_false, if_true, if_false, eq_self_iff_true, ↓reduceIte, and_self, and_true, true_and, and_false, false_and, not_true_eq_false, not_false_eq_true, if_pos, if_neg]
      obtain ⟨e', k1, k2, k3, k4, k5⟩ := lx_let (A := A) (B := B) (w := 1000 + c) hN tA tB (N - (p + 1)) (p + 1) (by omega) z jFu (by omega) (show N - (p + 1) < 100000 by omega) (upd (upd (A 68) 3 (nI p)) 4 (nI (p + 1))) (upd (upd (upd (upd (upd (B 104) 14 (nI p)) 15 (nI p)) 16 (nI 1)) 14 (nI (p + 1))) 17 (nI (t p)))
        (by rw [ud_ne (by decide), ud_ne (by decide)]; exact hA1) (ud_eq rfl) (by rw [ud_ne (by decide), ud_ne (by decide), ud_ne (by decide), ud_ne (by decide), ud_ne (by decide)]; exact hB13) (by rw [ud_ne (by decide), ud_eq rfl])
      rw [ra, rb, k4, k5, ud_ud]
      have hl : ∀ x, p ≤ x → x < e' → ¬ t x = 32 := by
        intro x h1 h2 h3
        have : cL (t x) = true := by
          by_cases hx : x = p
          · rw [hx]; exact hL
          · exact k3 x (by omega) h2
        rw [h3] at this
        exact absurd this (by decide)
      have wc := wn_cls (M := jp_set A 68 (upd (upd (A 68) 3 (nI p)) 4 (nI e'))) (q := p) (e := e') (t := t) hc (by rw [st_same, ud_ne (by decide), ud_eq rfl]) (by rw [st_same, ud_eq rfl]) (by omega) (by omega) (fun j hj => by rw [st_ne (by decide)]; exact tA j hj)
      generalize hh : upd (upd (upd (upd (upd (upd (B 104) 14 (nI p)) 15 (nI p)) 16 (nI 1)) 14 (nI (p + 1))) 17 (nI (t p))) 14 (nI e') = h
      have h15 : h 15 = nI p := by rw [← hh]; simp (disch := decide) only [ud_ne, ud_eq]
      have h14 : h 14 = nI e' := by rw [← hh]; simp (disch := decide) only [ud_ne, ud_eq]
      have h16 : h 16 = nI 1 := by rw [← hh]; simp (disch := decide) only [ud_ne, ud_eq]
      have hfr : ∀ i, ¬ i = 14 → ¬ i = 15 → ¬ i = 16 → ¬ i = 17 → h i = B 104 i := fun i i1 i2 i3 i4 => by rw [← hh, ud_ne i1, ud_ne i4, ud_ne i1, ud_ne i3, ud_ne i2, ud_ne i1]
      have wr := wn_ref (M := jp_set B 104 h) (q := p) (e := e') (t := t) (by omega) (by omega) (fun j hj => by rw [st_ne (by decide)]; exact tB j hj) hl (by rw [st_ne (by decide)]; exact hw)
      have fo := fnd_ok hc (ts t p (e' - p))
      rw [fndOK] at fo
      generalize fnd (ts t p (e' - p)) (jWk c) 0 = rc at wc fo
      generalize fnd (ts t p (e' - p)) jWW 0 = rr at wr fo
      cases rr with
      | none =>
        have : rc = none := of_decide_eq_true fo
        subst this
        refine ⟨upd (upd (upd (upd (A 68) 3 (nI p)) 4 (nI e')) 6 (nI 4294967295)) 5 (nI 4), upd h 17 (nI 4294967295), p, e', 4, 0, ?_, ?_, ?_, ?_, ?_, ?_, by omega, by omega, k2, ⟨Or.inr (by omega), fun h => absurd h (by omega)⟩, by omega, ⟨ud_eq rfl, fun _ h => absurd h (by omega)⟩, ?_, ?_, ?_⟩
        · simp (disch := omega) only [f_R_advances_141, f_R_advances_163, wc, fres, Option.bind_some, jp_c, decide_eq_true_eq, n_lit, n_neg1, st_ap, st_st, ud_ap, Nat.reduceEqDiff, Nat.reduceAdd, Nat.reduceMul, ite_true, ite_false, if_true, if_false, eq_self_iff_true, ↓reduceIte, and_self, and_true, true_and, and_false, false_and, not_true_eq_false, not_false_eq_true, if_pos, if_neg]
        · simp (disch := omega) only [rdW, jp_c, decide_eq_true_eq, n_lit, n_neg1, st_ap, st_st, ud_ap, h15, h14, wr, fres, Option.bind_some, Nat.reduceEqDiff, Nat.reduceAdd, Nat.reduceMul, ite_true, ite_false, if_true, if_false, eq_self_iff_true, ↓reduceIte, and_self, and_true, true_and, and_false, false_and, not_true_eq_false, not_false_eq_true, if_pos, if_neg]
        · simp (disch := decide) only [ud_ne, ud_eq]
        · simp (disch := decide) only [ud_ne, ud_eq]
        · simp (disch := decide) only [ud_ne, ud_eq, h15]
        · simp (disch := decide) only [ud_ne, ud_eq, h14]
        · exact Or.inr (Or.inr (Or.inr (Or.inr ⟨rfl, Or.inl (by rw [ud_ne (by decide)]; exact h16)⟩)))
        · intro i i1 i2 i3 i4; rw [ud_ne i3, ud_ne i4, ud_ne i2, ud_ne i1]
        · intro i i1 i2 i3 i4; rw [ud_ne i4]; exact hfr i i1 i2 i3 i4
      | some y =>
        dsimp only at fo
        rw [Bool.and_eq_true, decide_eq_true_eq] at fo
        obtain ⟨⟨y30, yl⟩, fo⟩ := fo
        rw [ts_len] at yl
        have y0 : ¬ y = 4294967295 := by omega
        have rB : rdW (jp_set B 104 h) = some (jp_set B 104 (upd (upd h 17 (nI y)) 16 (nI 2))) := by
          simp (disch := omega) only [rdW, jp_c, decide_eq_true_eq, n_lit, n_neg1, n_eq, st_ap, st_st, ud_ap, h15, h14, wr, fres, Option.bind_some, y0, Nat.reduceEqDiff, Nat.reduceAdd, Nat.reduceMul, ite_true, ite_false, if_true, if_false, eq_self_iff_true, ↓reduceIte, and_self, and_true, true_and, and_false, false_and, not_true_eq_false, not_false_eq_true, if_pos, if_neg]
        by_cases hy : jlo c ≤ y ∧ y ≤ jhi c
        · rw [if_pos hy, decide_eq_true_eq] at fo
          subst fo
          have y1 : ¬ y - jlo c = 4294967295 := by omega
          refine ⟨upd (upd (upd (upd (A 68) 3 (nI p)) 4 (nI e')) 6 (nI (y - jlo c))) 5 (nI 1), upd (upd h 17 (nI y)) 16 (nI 2), p, e', 1, y - jlo c, ?_, rB, ?_, ?_, ?_, ?_, by omega, by omega, k2, ⟨Or.inr (by omega), fun _ => by omega⟩, by omega, ⟨ud_eq rfl, fun _ _ => ?_⟩, ?_, ?_, ?_⟩
          · simp (disch := omega) only [f_R_advances_141, f_R_advances_163, wc, fres, Option.bind_some, jp_c, decide_eq_true_eq, n_lit, n_neg1, n_eq, st_ap, st_st, ud_ap, y1, Nat.reduceEqDiff, Nat.reduceAdd, Nat.reduceMul, ite_true, ite_false, if_true, if_false, eq_self_iff_true, ↓reduceIte, and_self, and_true, true_and, and_false, false_and, not_true_eq_false, not_false_eq_true, if_pos, if_neg]
          · simp (disch := decide) only [ud_ne, ud_eq]
          · simp (disch := decide) only [ud_ne, ud_eq]
          · simp (disch := decide) only [ud_ne, ud_eq, h15]
          · simp (disch := decide) only [ud_ne, ud_eq, h14]
          · rw [ud_ne (by decide), ud_eq rfl]
          · refine Or.inr (Or.inl ⟨rfl, ud_eq rfl, by omega, ?_⟩)
            rw [ud_ne (by decide), ud_eq rfl]; congr 1; omega
          · intro i i1 i2 i3 i4; rw [ud_ne i3, ud_ne i4, ud_ne i2, ud_ne i1]
          · intro i i1 i2 i3 i4; rw [ud_ne i3, ud_ne i4]; exact hfr i i1 i2 i3 i4
        · rw [if_neg hy, decide_eq_true_eq] at fo
          subst fo
          refine ⟨upd (upd (upd (upd (A 68) 3 (nI p)) 4 (nI e')) 6 (nI 4294967295)) 5 (nI 4), upd (upd h 17 (nI y)) 16 (nI 2), p, e', 4, 0, ?_, rB, ?_, ?_, ?_, ?_, by omega, by omega, k2, ⟨Or.inr (by omega), fun h => absurd h (by omega)⟩, by omega, ⟨ud_eq rfl, fun _ h => absurd h (by omega)⟩, ?_, ?_, ?_⟩
          · simp (disch := omega) only [f_R_advances_141, f_R_advances_163, wc, fres, Option.bind_some, jp_c, decide_eq_true_eq, n_lit, n_neg1, st_ap, st_st, ud_ap, Nat.reduceEqDiff, Nat.reduceAdd, Nat.reduceMul, ite_true, ite_false, if_true, if_false, eq_self_iff_true, ↓reduceIte, and_self, and_true, true_and, and_false, false_and, not_true_eq_false, not_false_eq_true, if_pos, if_neg]
          · simp (disch := decide) only [ud_ne, ud_eq]
          · simp (disch := decide) only [ud_ne, ud_eq]
          · simp (disch := decide) only [ud_ne, ud_eq, h15]
          · simp (disch := decide) only [ud_ne, ud_eq, h14]
          · refine Or.inr (Or.inr (Or.inr (Or.inr ⟨rfl, Or.inr ⟨ud_eq rfl, y, y30, by omega, ?_⟩⟩)))
            rw [ud_ne (by decide), ud_eq rfl]
          · intro i i1 i2 i3 i4; rw [ud_ne i3, ud_ne i4, ud_ne i2, ud_ne i1]
          · intro i i1 i2 i3 i4; rw [ud_ne i3, ud_ne i4]; exact hfr i i1 i2 i3 i4
    · rw [if_neg hL] at b1 b2
      by_cases hD : cD (t p) = true
      · -- a number
        have b6 := bt_dig (t p) a1 hD
        have hD' : 48 ≤ t p ∧ t p ≤ 57 := of_decide_eq_true hD
        rw [if_pos hD] at b3 b4
        have hNp : ¬ N ≤ p := by omega
        have ra : f_R_advances_60 (1000 + c) (jp_set A 68 (upd (A 68) 3 (nI p))) = (f_R_readsDigits_5 z (jp_set A 68 (upd (upd (upd (upd (upd (A 68) 3 (nI p)) 4 (nI p)) 6 (nI 0)) 6 (nI (t p - 48))) 4 (nI (p + 1))))).bind fun q13 => some q13 := by
          have s1 : f_R_advances_60 (1000 + c) (jp_set A 68 (upd (A 68) 3 (nI p))) = (f_R_readsDigits_5 (z + 1) (jp_set A 68 (upd (upd (upd (A 68) 3 (nI p)) 4 (nI p)) 6 (nI 0)))).bind fun q13 => some q13 := by
            simp (disch := omega) only [f_R_advances_60, f_R_readsDigits, jp_c, decide_eq_true_eq, n_lit, n_lt, n_eq, n_in, n_cl, st_ap, st_st, ud_ap, hA1, a3, b1, b3, hpN, jg_t, hz, Nat.reduceEqDiff, Nat.reduceAdd, Nat.reduceMul, ite_true, ite_false, if_true, if_false, eq_self_iff_true, ↓reduceIte, and_self, and_true, true_and, and_false, false_and, not_true_eq_false, not_false_eq_true, if_pos, if_neg]
          rw [s1]
          have b3' : f_R_isDigit (nI (t p)) = nI 1 := by rw [← b6]; exact b3
          congr 1
          simp (disch := omega) only [f_R_readsDigits_5, f_R_readsDigits_72, jp_c, decide_eq_true_eq, n_lit, n_add, n_mul, n_sub, n_le, n_eq, n_in, n_cl, st_ap, st_st, ud_ap, hA1, a3, b3', b6, hNp, jg_t, Nat.sub_self, Nat.mul_zero, Nat.zero_add, Nat.reduceLeDiff, Nat.reduceEqDiff, Nat.reduceAdd, Nat.reduceMul, ite_true, ite_false, if_true, if_false, eq_self_iff_true, ↓reduceIte, and_self, and_true, true_and, and_false, false_and, not_true_eq_false, not_false_eq_true, if_pos, if_neg]
        have rb : rdT (jp_set B 104 (upd (B 104) 14 (nI p))) = f_M_reads_171 jFu (jp_set B 104 (upd (upd (upd (upd (upd (upd (B 104) 14 (nI p)) 15 (nI p)) 16 (nI 1)) 14 (nI (p + 1))) 17 (nI (t p))) 17 (nI (t p - 48)))) := by
          simp (disch := omega) only [rdT, jp_c, decide_eq_true_eq, n_lit, n_neg1, n_add, n_sub, n_eq, st_ap, st_st, ud_ap, e2, a4, b2, b4, Option.bind_some, Nat.reduceEqDiff, Nat.reduceAdd, Nat.reduceMul, ite_true, ite_false, if_true, if_false, eq_self_iff_true, ↓reduceIte, and_self, and_true, true_and, and_false, false_and, not_true_eq_false, not_false_eq_true, if_pos, if_neg]
        generalize hg : upd (upd (upd (upd (upd (A 68) 3 (nI p)) 4 (nI p)) 6 (nI 0)) 6 (nI (t p - 48))) 4 (nI (p + 1)) = g at ra
        generalize hh : upd (upd (upd (upd (upd (upd (B 104) 14 (nI p)) 15 (nI p)) 16 (nI 1)) 14 (nI (p + 1))) 17 (nI (t p))) 17 (nI (t p - 48)) = h at rb
        have h15 : h 15 = nI p := by rw [← hh]; simp (disch := decide) only [ud_ne, ud_eq]
        have h14 : h 14 = nI (p + 1) := by rw [← hh]; simp (disch := decide) only [ud_ne, ud_eq]
        have h16 : h 16 = nI 1 := by rw [← hh]; simp (disch := decide) only [ud_ne, ud_eq]
        have h17 : h 17 = nI (t p - 48) := by rw [← hh]; simp (disch := decide) only [ud_ne, ud_eq]
        have h13 : h 13 = nI N := by rw [← hh]; simp (disch := decide) only [ud_ne, ud_eq]; exact hB13
        have hfr : ∀ i, ¬ i = 14 → ¬ i = 15 → ¬ i = 16 → ¬ i = 17 → h i = B 104 i := fun i i1 i2 i3 i4 => by rw [← hh, ud_ne i4, ud_ne i4, ud_ne i1, ud_ne i3, ud_ne i2, ud_ne i1]
        have g1 : g 1 = nI N := by rw [← hg]; simp (disch := decide) only [ud_ne, ud_eq]; exact hA1
        have g3 : g 3 = nI p := by rw [← hg]; simp (disch := decide) only [ud_ne, ud_eq]
        have g4 : g 4 = nI (p + 1) := by rw [← hg]; simp (disch := decide) only [ud_ne, ud_eq]
        have g6 : g 6 = nI (t p - 48) := by rw [← hg]; simp (disch := decide) only [ud_ne, ud_eq]
        have gfr : ∀ i, ¬ i = 3 → ¬ i = 4 → ¬ i = 5 → ¬ i = 6 → g i = A 68 i := fun i i1 i2 i3 i4 => by rw [← hg, ud_ne i2, ud_ne i4, ud_ne i4, ud_ne i2, ud_ne i1]
        obtain ⟨e', g', h', k1, k2, k3, k4, k5, k6, k7, k8, k9⟩ := lx_dig (A := A) (B := B) (p := p) hN tA tB (N - (p + 1)) (p + 1) (by omega) (by omega) z jFu (by omega) (show N - (p + 1) < 100000 by omega) g h g1 g3 g4 h13 h14 h15 (fun _ => ⟨t p - 48, by unfold dgs; refine ⟨?_, ?_, ?_, ?_⟩ <;> omega, g6, h17⟩)
        rw [ra, rb, k3, k4]
        have q1 : g' 3 = nI p := by rw [k7 3 (by decide) (by decide) (by decide)]; exact g3
        have q2 : h' 15 = nI p := by rw [k8 15 (by decide) (by decide) (by decide)]; exact h15
        rcases k9 with ⟨k9, k10, v, v1, v2, v3⟩ | ⟨k9, k10⟩
        · refine ⟨g', h', p, e', 2, v, rfl, rfl, q1, k5, q2, k6, p1, by omega, k2, ⟨Or.inr (by omega), fun h => absurd h (by omega)⟩, by omega, ⟨k9, fun _ _ => v2⟩, Or.inr (Or.inr (Or.inl ⟨rfl, k10, v1, v3⟩)), ?_, ?_⟩
          · intro i i1 i2 i3 i4; rw [k7 i i2 i3 i4]; exact gfr i i1 i2 i3 i4
          · intro i i1 i2 i3 i4; rw [k8 i i1 i3 i4]; exact hfr i i1 i2 i3 i4
        · refine ⟨g', h', p, e', 4, 0, rfl, rfl, q1, k5, q2, k6, p1, by omega, k2, ⟨Or.inr (by omega), fun h => absurd h (by omega)⟩, by omega, ⟨k9, fun _ h => absurd h (by omega)⟩, Or.inr (Or.inr (Or.inr (Or.inr ⟨rfl, Or.inl (by rw [k10]; exact h16)⟩))), ?_, ?_⟩
          · intro i i1 i2 i3 i4; rw [k7 i i2 i3 i4]; exact gfr i i1 i2 i3 i4
          · intro i i1 i2 i3 i4; rw [k8 i i1 i3 i4]; exact hfr i i1 i2 i3 i4
      · -- a sign or nothing
        rw [if_neg hD] at b3 b4
        have rb : rdT (jp_set B 104 (upd (B 104) 14 (nI p))) = (if cS (t p) = true then some (jp_set B 104 (upd (upd (upd (upd (upd (upd (B 104) 14 (nI p)) 15 (nI p)) 16 (nI 1)) 14 (nI (p + 1))) 17 (nI (t p))) 16 (nI 4))) else some (jp_set B 104 (upd (upd (upd (upd (upd (B 104) 14 (nI p)) 15 (nI p)) 16 (nI 1)) 14 (nI (p + 1))) 17 (nI (t p))))) := by
          by_cases hS : cS (t p) = true
          · rw [if_pos hS] at b5 ⊢
            simp (disch := omega) only [rdT, jp_c, decide_eq_true_eq, n_lit, n_neg1, n_add, n_eq, st_ap, st_st, ud_ap, e2, a4, b2, b4, b5, Option.bind_some, Nat.reduceEqDiff, Nat.reduceAdd, Nat.reduceMul, ite_true, ite_false, if_true, if_false, eq_self_iff_true, ↓reduceIte, and_self, and_true, true_and, and_false, false_and, not_true_eq_false, not_false_eq_true, if_pos, if_neg]
          · rw [if_neg hS] at b5 ⊢
            simp (disch := omega) only [rdT, jp_c, decide_eq_true_eq, n_lit, n_neg1, n_add, n_eq, st_ap, st_st, ud_ap, e2, a4, b2, b4, b5, Option.bind_some, Nat.reduceEqDiff, Nat.reduceAdd, Nat.reduceMul, ite_true, ite_false, if_true, if_false, eq_self_iff_true, ↓reduceIte, and_self, and_true, true_and, and_false, false_and, not_true_eq_false, not_false_eq_true, if_pos, if_neg]
        have ra : ∃ k, k = (if cS (t p) = true then 3 else 4) ∧ f_R_advances_60 (1000 + c) (jp_set A 68 (upd (A 68) 3 (nI p))) = some (jp_set A 68 (upd (upd (upd (upd (upd (A 68) 3 (nI p)) 4 (nI p)) 4 (nI (p + 1))) 6 (bt (t p))) 5 (nI k))) := by
          by_cases h0 : bt (t p) ≤ nI 0
          · refine ⟨4, by rw [bt_neg _ a1 h0]; rfl, ?_⟩
            simp (disch := omega) only [f_R_advances_60, jp_c, decide_eq_true_eq, n_lit, n_add, n_lt, n_eq, n_in, n_cl, st_ap, st_st, ud_ap, hA1, a3, b1, b3, hpN, h0, jg_t, Nat.reduceEqDiff, Nat.reduceAdd, Nat.reduceMul, ite_true, ite_false, if_true, if_false, eq_self_iff_true, ↓reduceIte, and_self, and_true, true_and, and_false, false_and, not_true_eq_false, not_false_eq_true, if_pos, if_neg]
          · have s1 := bt_sg (t p) a1 h0
            have s2 := bt_pos (t p) a1 h0
            have h0' : ¬ nI (t p) ≤ nI 0 := by rw [← s2]; exact h0
            rw [s2]
            rw [s2] at a3 b1 b3
            obtain ⟨r, r1, r2⟩ : ∃ r, f_JS_indexOf1 ((Int32.toUInt32 (nI (t p)) % 65536).toInt32) = some r ∧ decide (r < nI 0) = !cS (t p) := by
              cases ho : f_JS_indexOf1 ((Int32.toUInt32 (nI (t p)) % 65536).toInt32) with
              | none => rw [ho] at s1; exact absurd s1 (by simp)
              | some r => rw [ho, Option.map_some, Option.some.injEq] at s1; exact ⟨r, rfl, s1⟩
            by_cases hS : cS (t p) = true
            · rw [hS] at r2
              have hr : ¬ r < nI 0 := of_decide_eq_false r2
              refine ⟨3, by rw [if_pos hS], ?_⟩
              simp (disch := omega) only [f_R_advances_60, jp_c, decide_eq_true_eq, n_lit, n_add, n_lt, n_eq, n_in, n_cl, st_ap, st_st, ud_ap, hA1, a3, b1, b3, hpN, h0', hr, r1, Option.bind_some, jg_t, Nat.reduceEqDiff, Nat.reduceAdd, Nat.reduceMul, ite_true, ite_false, if_true, if_false, eq_self_iff_true, ↓reduceIte, and_self, and_true, true_and, and_false, false_and, not_true_eq_false, not_false_eq_true, if_pos, if_neg]
            · have hS' : cS (t p) = false := by cases hx : cS (t p) <;> simp_all
              rw [hS'] at r2
              have hr : r < nI 0 := of_decide_eq_true r2
              refine ⟨4, by rw [if_neg hS], ?_⟩
              simp (disch := omega) only [f_R_advances_60, jp_c, decide_eq_true_eq, n_lit, n_add, n_lt, n_eq, n_in, n_cl, st_ap, st_st, ud_ap, hA1, a3, b1, b3, hpN, h0', hr, r1, Option.bind_some, jg_t, Nat.reduceEqDiff, Nat.reduceAdd, Nat.reduceMul, ite_true, ite_false, if_true, if_false, eq_self_iff_true, ↓reduceIte, and_self, and_true, true_and, and_false, false_and, not_true_eq_false, not_false_eq_true, if_pos, if_neg]
        obtain ⟨k, hk, ra⟩ := ra
        rw [ra, rb]
        by_cases hS : cS (t p) = true
        · rw [if_pos hS] at hk ⊢
          subst hk
          have s3 : bt (t p) = nI (t p) := bt_pos _ a1 (fun h => by rw [bt_neg _ a1 h] at hS; exact absurd hS (by decide))
          refine ⟨_, _, p, p + 1, 3, t p, rfl, rfl, ?_, ?_, ?_, ?_, p1, by omega, by omega, ⟨Or.inr (by omega), fun h => absurd h (by omega)⟩, by omega, ⟨ud_eq rfl, fun _ _ => ?_⟩, Or.inr (Or.inr (Or.inr (Or.inl ⟨rfl, ud_eq rfl, hS, ?_⟩))), ?_, ?_⟩
          · simp (disch := decide) only [ud_ne, ud_eq]
          · simp (disch := decide) only [ud_ne, ud_eq]
          · simp (disch := decide) only [ud_ne, ud_eq]
          · simp (disch := decide) only [ud_ne, ud_eq]
          · rw [ud_ne (by decide), ud_eq rfl]; exact s3
          · rw [ud_ne (by decide), ud_eq rfl]
          · intro i i1 i2 i3 i4; rw [ud_ne i3, ud_ne i4, ud_ne i2, ud_ne i2, ud_ne i1]
          · intro i i1 i2 i3 i4; rw [ud_ne i3, ud_ne i4, ud_ne i1, ud_ne i3, ud_ne i2, ud_ne i1]
        · rw [if_neg hS] at hk ⊢
          subst hk
          refine ⟨_, _, p, p + 1, 4, 0, rfl, rfl, ?_, ?_, ?_, ?_, p1, by omega, by omega, ⟨Or.inr (by omega), fun h => absurd h (by omega)⟩, by omega, ⟨ud_eq rfl, fun _ h => absurd h (by omega)⟩, Or.inr (Or.inr (Or.inr (Or.inr ⟨rfl, Or.inl ?_⟩))), ?_, ?_⟩
          · simp (disch := decide) only [ud_ne, ud_eq]
          · simp (disch := decide) only [ud_ne, ud_eq]
          · simp (disch := decide) only [ud_ne, ud_eq]
          · simp (disch := decide) only [ud_ne, ud_eq]
          · simp (disch := decide) only [ud_ne, ud_eq]
          · intro i i1 i2 i3 i4; rw [ud_ne i3, ud_ne i4, ud_ne i2, ud_ne i2, ud_ne i1]
          · intro i i1 i2 i3 i4; rw [ud_ne i4, ud_ne i1, ud_ne i3, ud_ne i2, ud_ne i1]
  · -- the end
    have e2 := e1 (upd (upd (upd (B 104) 14 (nI p)) 15 (nI p)) 16 (nI 1)) (by rw [ud_ne (by decide), ud_ne (by decide), ud_ne (by decide)]; exact hB13)
    rw [if_neg hpN] at e2
    refine ⟨upd (upd (upd (A 68) 3 (nI p)) 4 (nI p)) 5 (nI 0), upd (upd (upd (upd (B 104) 14 (nI p)) 15 (nI p)) 16 (nI 1)) 16 (nI 0), p, p, 0, 0, ?_, ?_, ?_, ?_, ?_, ?_, p1, by omega, p2, ⟨Or.inl rfl, fun h => absurd h (by omega)⟩, by omega, ⟨ud_eq rfl, fun h _ => absurd h (by omega)⟩, Or.inl ⟨rfl, ud_eq rfl⟩, ?_, ?_⟩
    · simp (disch := omega) only [f_R_advances_60, jp_c, decide_eq_true_eq, n_lit, n_lt, st_ap, st_st, ud_ap, hA1, hpN, Nat.reduceEqDiff, Nat.reduceAdd, Nat.reduceMul, ite_true, ite_false, if_true, if_false, eq_self_iff_true, ↓reduceIte, and_self, and_true, true_and, and_false, false_and, not_true_eq_false, not_false_eq_true, if_pos, if_neg]
    · simp (disch := omega) only [rdT, jp_c, decide_eq_true_eq, n_lit, n_neg1, n_add, n_eq, st_ap, st_st, ud_ap, e2, Option.bind_some, Nat.reduceEqDiff, Nat.reduceAdd, Nat.reduceMul, ite_true, ite_false, if_true, if_false, eq_self_iff_true, ↓reduceIte, and_self, and_true, true_and, and_false, false_and, not_true_eq_false, not_false_eq_true, if_pos, if_neg]
    · simp (disch := decide) only [ud_ne, ud_eq]
    · simp (disch := decide) only [ud_ne, ud_eq]
    · simp (disch := decide) only [ud_ne, ud_eq]
    · simp (disch := decide) only [ud_ne, ud_eq]
    · intro i i1 i2 i3 i4; rw [ud_ne i3, ud_ne i2, ud_ne i1]
    · intro i i1 i2 i3 i4; rw [ud_ne i3, ud_ne i3, ud_ne i2, ud_ne i1]
end
