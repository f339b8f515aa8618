theorem jFu_lt {d : Nat} (h : d < 100000) : d < jFu := h
/-- a world at s is now also at d -/
def cpW (M M' : jp_M) (s d : Nat) : Prop := (∀ q, ¬ q = d → ¬ q = d + 1 → ¬ q = d + 2 → ¬ q = d + 3 → M' q = M q) ∧ (∀ i, i < 8 → M' d i = M s i) ∧ (∀ i, i < 50 → M' (d + 1) i = M (s + 1) i) ∧ (∀ i, i < 30 → M' (d + 2) i = M (s + 2) i) ∧ (∀ i, i < 128 → M' (d + 3) i = M (s + 3) i)
theorem cp_in {f g : Nat → Int32} {n i : Nat} (h : i < n) : va_cpy f g 0 0 n i = f i := by
  simp [va_cpy, h]
theorem c_W_becomes (M : jp_M) : cpW M (f_W_becomes M) 2 80 := by
  refine ⟨fun q h0 h1 h2 h3 => ?_, fun i hi => ?_, fun i hi => ?_, fun i hi => ?_, fun i hi => ?_⟩
  · simp only [Nat.reduceAdd] at h1 h2 h3
    simp only [f_W_becomes, st_ap, h0, h1, h2, h3, ↓reduceIte]
  · have : i = 0 ∨ i = 1 ∨ i = 2 ∨ i = 3 ∨ i = 4 ∨ i = 5 ∨ i = 6 ∨ i = 7 := by omega
    rcases this with rfl | rfl | rfl | rfl | rfl | rfl | rfl | rfl <;> simp only [f_W_becomes, st_ap, ud_ap, Nat.reduceEqDiff, Nat.reduceAdd, ↓reduceIte]
  · simp (disch := assumption) only [f_W_becomes, st_ap, Nat.reduceEqDiff, Nat.reduceAdd, ↓reduceIte, cp_in]
  · simp (disch := assumption) only [f_W_becomes, st_ap, Nat.reduceEqDiff, Nat.reduceAdd, ↓reduceIte, cp_in]
  · simp (disch := assumption) only [f_W_becomes, st_ap, Nat.reduceEqDiff, Nat.reduceAdd, ↓reduceIte, cp_in]
theorem c_W_becomes_1 (M : jp_M) : cpW M (f_W_becomes_1 M) 2 84 := by
  refine ⟨fun q h0 h1 h2 h3 => ?_, fun i hi => ?_, fun i hi => ?_, fun i hi => ?_, fun i hi => ?_⟩
  · simp only [Nat.reduceAdd] at h1 h2 h3
    simp only [f_W_becomes_1, st_ap, h0, h1, h2, h3, ↓reduceIte]
  · have : i = 0 ∨ i = 1 ∨ i = 2 ∨ i = 3 ∨ i = 4 ∨ i = 5 ∨ i = 6 ∨ i = 7 := by omega
    rcases this with rfl | rfl | rfl | rfl | rfl | rfl | rfl | rfl <;> simp only [f_W_becomes_1, st_ap, ud_ap, Nat.reduceEqDiff, Nat.reduceAdd, ↓reduceIte]
  · simp (disch := assumption) only [f_W_becomes_1, st_ap, Nat.reduceEqDiff, Nat.reduceAdd, ↓reduceIte, cp_in]
  · simp (disch := assumption) only [f_W_becomes_1, st_ap, Nat.reduceEqDiff, Nat.reduceAdd, ↓reduceIte, cp_in]
  · simp (disch := assumption) only [f_W_becomes_1, st_ap, Nat.reduceEqDiff, Nat.reduceAdd, ↓reduceIte, cp_in]
theorem c_W_becomes_2 (M : jp_M) : cpW M (f_W_becomes_2 M) 2 88 := by
  refine ⟨fun q h0 h1 h2 h3 => ?_, fun i hi => ?_, fun i hi => ?_, fun i hi => ?_, fun i hi => ?_⟩
  · simp only [Nat.reduceAdd] at h1 h2 h3
    simp only [f_W_becomes_2, st_ap, h0, h1, h2, h3, ↓reduceIte]
  · have : i = 0 ∨ i = 1 ∨ i = 2 ∨ i = 3 ∨ i = 4 ∨ i = 5 ∨ i = 6 ∨ i = 7 := by omega
    rcases this with rfl | rfl | rfl | rfl | rfl | rfl | rfl | rfl <;> simp only [f_W_becomes_2, st_ap, ud_ap, Nat.reduceEqDiff, Nat.reduceAdd, ↓reduceIte]
  · simp (disch := assumption) only [f_W_becomes_2, st_ap, Nat.reduceEqDiff, Nat.reduceAdd, ↓reduceIte, cp_in]
  · simp (disch := assumption) only [f_W_becomes_2, st_ap, Nat.reduceEqDiff, Nat.reduceAdd, ↓reduceIte, cp_in]
  · simp (disch := assumption) only [f_W_becomes_2, st_ap, Nat.reduceEqDiff, Nat.reduceAdd, ↓reduceIte, cp_in]
theorem c_W_becomes_3 (M : jp_M) : cpW M (f_W_becomes_3 M) 2 92 := by
  refine ⟨fun q h0 h1 h2 h3 => ?_, fun i hi => ?_, fun i hi => ?_, fun i hi => ?_, fun i hi => ?_⟩
  · simp only [Nat.reduceAdd] at h1 h2 h3
    simp only [f_W_becomes_3, st_ap, h0, h1, h2, h3, ↓reduceIte]
  · have : i = 0 ∨ i = 1 ∨ i = 2 ∨ i = 3 ∨ i = 4 ∨ i = 5 ∨ i = 6 ∨ i = 7 := by omega
    rcases this with rfl | rfl | rfl | rfl | rfl | rfl | rfl | rfl <;> simp only [f_W_becomes_3, st_ap, ud_ap, Nat.reduceEqDiff, Nat.reduceAdd, ↓reduceIte]
  · simp (disch := assumption) only [f_W_becomes_3, st_ap, Nat.reduceEqDiff, Nat.reduceAdd, ↓reduceIte, cp_in]
  · simp (disch := assumption) only [f_W_becomes_3, st_ap, Nat.reduceEqDiff, Nat.reduceAdd, ↓reduceIte, cp_in]
  · simp (disch := assumption) only [f_W_becomes_3, st_ap, Nat.reduceEqDiff, Nat.reduceAdd, ↓reduceIte, cp_in]
theorem c_W_becomes_4 (M : jp_M) : cpW M (f_W_becomes_4 M) 2 96 := by
  refine ⟨fun q h0 h1 h2 h3 => ?_, fun i hi => ?_, fun i hi => ?_, fun i hi => ?_, fun i hi => ?_⟩
  · simp only [Nat.reduceAdd] at h1 h2 h3
    simp only [f_W_becomes_4, st_ap, h0, h1, h2, h3, ↓reduceIte]
  · have : i = 0 ∨ i = 1 ∨ i = 2 ∨ i = 3 ∨ i = 4 ∨ i = 5 ∨ i = 6 ∨ i = 7 := by omega
    rcases this with rfl | rfl | rfl | rfl | rfl | rfl | rfl | rfl <;> simp only [f_W_becomes_4, st_ap, ud_ap, Nat.reduceEqDiff, Nat.reduceAdd, ↓reduceIte]
  · simp (disch := assumption) only [f_W_becomes_4, st_ap, Nat.reduceEqDiff, Nat.reduceAdd, ↓reduceIte, cp_in]
  · simp (disch := assumption) only [f_W_becomes_4, st_ap, Nat.reduceEqDiff, Nat.reduceAdd, ↓reduceIte, cp_in]
  · simp (disch := assumption) only [f_W_becomes_4, st_ap, Nat.reduceEqDiff, Nat.reduceAdd, ↓reduceIte, cp_in]
theorem c_W_becomes_5 (M : jp_M) : cpW M (f_W_becomes_5 M) 2 100 := by
  refine ⟨fun q h0 h1 h2 h3 => ?_, fun i hi => ?_, fun i hi => ?_, fun i hi => ?_, fun i hi => ?_⟩
  · simp only [Nat.reduceAdd] at h1 h2 h3
    simp only [f_W_becomes_5, st_ap, h0, h1, h2, h3, ↓reduceIte]
  · have : i = 0 ∨ i = 1 ∨ i = 2 ∨ i = 3 ∨ i = 4 ∨ i = 5 ∨ i = 6 ∨ i = 7 := by omega
    rcases this with rfl | rfl | rfl | rfl | rfl | rfl | rfl | rfl <;> simp only [f_W_becomes_5, st_ap, ud_ap, Nat.reduceEqDiff, Nat.reduceAdd, ↓reduceIte]
  · simp (disch := assumption) only [f_W_becomes_5, st_ap, Nat.reduceEqDiff, Nat.reduceAdd, ↓reduceIte, cp_in]
  · simp (disch := assumption) only [f_W_becomes_5, st_ap, Nat.reduceEqDiff, Nat.reduceAdd, ↓reduceIte, cp_in]
  · simp (disch := assumption) only [f_W_becomes_5, st_ap, Nat.reduceEqDiff, Nat.reduceAdd, ↓reduceIte, cp_in]
theorem c_W_becomes_6 (M : jp_M) : cpW M (f_W_becomes_6 M) 2 50 := by
  refine ⟨fun q h0 h1 h2 h3 => ?_, fun i hi => ?_, fun i hi => ?_, fun i hi => ?_, fun i hi => ?_⟩
  · simp only [Nat.reduceAdd] at h1 h2 h3
    simp only [f_W_becomes_6, st_ap, h0, h1, h2, h3, ↓reduceIte]
  · have : i = 0 ∨ i = 1 ∨ i = 2 ∨ i = 3 ∨ i = 4 ∨ i = 5 ∨ i = 6 ∨ i = 7 := by omega
    rcases this with rfl | rfl | rfl | rfl | rfl | rfl | rfl | rfl <;> simp only [f_W_becomes_6, st_ap, ud_ap, Nat.reduceEqDiff, Nat.reduceAdd, ↓reduceIte]
  · simp (disch := assumption) only [f_W_becomes_6, st_ap, Nat.reduceEqDiff, Nat.reduceAdd, ↓reduceIte, cp_in]
  · simp (disch := assumption) only [f_W_becomes_6, st_ap, Nat.reduceEqDiff, Nat.reduceAdd, ↓reduceIte, cp_in]
  · simp (disch := assumption) only [f_W_becomes_6, st_ap, Nat.reduceEqDiff, Nat.reduceAdd, ↓reduceIte, cp_in]
theorem c_W_becomes_7 (M : jp_M) : cpW M (f_W_becomes_7 M) 50 2 := by
  refine ⟨fun q h0 h1 h2 h3 => ?_, fun i hi => ?_, fun i hi => ?_, fun i hi => ?_, fun i hi => ?_⟩
  · simp only [Nat.reduceAdd] at h1 h2 h3
    simp only [f_W_becomes_7, st_ap, h0, h1, h2, h3, ↓reduceIte]
  · have : i = 0 ∨ i = 1 ∨ i = 2 ∨ i = 3 ∨ i = 4 ∨ i = 5 ∨ i = 6 ∨ i = 7 := by omega
    rcases this with rfl | rfl | rfl | rfl | rfl | rfl | rfl | rfl <;> simp only [f_W_becomes_7, st_ap, ud_ap, Nat.reduceEqDiff, Nat.reduceAdd, ↓reduceIte]
  · simp (disch := assumption) only [f_W_becomes_7, st_ap, Nat.reduceEqDiff, Nat.reduceAdd, ↓reduceIte, cp_in]
  · simp (disch := assumption) only [f_W_becomes_7, st_ap, Nat.reduceEqDiff, Nat.reduceAdd, ↓reduceIte, cp_in]
  · simp (disch := assumption) only [f_W_becomes_7, st_ap, Nat.reduceEqDiff, Nat.reduceAdd, ↓reduceIte, cp_in]
theorem c_W_becomes_8 (M : jp_M) : cpW M (f_W_becomes_8 M) 80 2 := by
  refine ⟨fun q h0 h1 h2 h3 => ?_, fun i hi => ?_, fun i hi => ?_, fun i hi => ?_, fun i hi => ?_⟩
  · simp only [Nat.reduceAdd] at h1 h2 h3
    simp only [f_W_becomes_8, st_ap, h0, h1, h2, h3, ↓reduceIte]
  · have : i = 0 ∨ i = 1 ∨ i = 2 ∨ i = 3 ∨ i = 4 ∨ i = 5 ∨ i = 6 ∨ i = 7 := by omega
    rcases this with rfl | rfl | rfl | rfl | rfl | rfl | rfl | rfl <;> simp only [f_W_becomes_8, st_ap, ud_ap, Nat.reduceEqDiff, Nat.reduceAdd, ↓reduceIte]
  · simp (disch := assumption) only [f_W_becomes_8, st_ap, Nat.reduceEqDiff, Nat.reduceAdd, ↓reduceIte, cp_in]
  · simp (disch := assumption) only [f_W_becomes_8, st_ap, Nat.reduceEqDiff, Nat.reduceAdd, ↓reduceIte, cp_in]
  · simp (disch := assumption) only [f_W_becomes_8, st_ap, Nat.reduceEqDiff, Nat.reduceAdd, ↓reduceIte, cp_in]
theorem c_W_becomes_9 (M : jp_M) : cpW M (f_W_becomes_9 M) 84 2 := by
  refine ⟨fun q h0 h1 h2 h3 => ?_, fun i hi => ?_, fun i hi => ?_, fun i hi => ?_, fun i hi => ?_⟩
  · simp only [Nat.reduceAdd] at h1 h2 h3
    simp only [f_W_becomes_9, st_ap, h0, h1, h2, h3, ↓reduceIte]
  · have : i = 0 ∨ i = 1 ∨ i = 2 ∨ i = 3 ∨ i = 4 ∨ i = 5 ∨ i = 6 ∨ i = 7 := by omega
    rcases this with rfl | rfl | rfl | rfl | rfl | rfl | rfl | rfl <;> simp only [f_W_becomes_9, st_ap, ud_ap, Nat.reduceEqDiff, Nat.reduceAdd, ↓reduceIte]
  · simp (disch := assumption) only [f_W_becomes_9, st_ap, Nat.reduceEqDiff, Nat.reduceAdd, ↓reduceIte, cp_in]
  · simp (disch := assumption) only [f_W_becomes_9, st_ap, Nat.reduceEqDiff, Nat.reduceAdd, ↓reduceIte, cp_in]
  · simp (disch := assumption) only [f_W_becomes_9, st_ap, Nat.reduceEqDiff, Nat.reduceAdd, ↓reduceIte, cp_in]
theorem c_W_becomes_10 (M : jp_M) : cpW M (f_W_becomes_10 M) 88 2 := by
  refine ⟨fun q h0 h1 h2 h3 => ?_, fun i hi => ?_, fun i hi => ?_, fun i hi => ?_, fun i hi => ?_⟩
  · simp only [Nat.reduceAdd] at h1 h2 h3
    simp only [f_W_becomes_10, st_ap, h0, h1, h2, h3, ↓reduceIte]
  · have : i = 0 ∨ i = 1 ∨ i = 2 ∨ i = 3 ∨ i = 4 ∨ i = 5 ∨ i = 6 ∨ i = 7 := by omega
    rcases this with rfl | rfl | rfl | rfl | rfl | rfl | rfl | rfl <;> simp only [f_W_becomes_10, st_ap, ud_ap, Nat.reduceEqDiff, Nat.reduceAdd, ↓reduceIte]
  · simp (disch := assumption) only [f_W_becomes_10, st_ap, Nat.reduceEqDiff, Nat.reduceAdd, ↓reduceIte, cp_in]
  · simp (disch := assumption) only [f_W_becomes_10, st_ap, Nat.reduceEqDiff, Nat.reduceAdd, ↓reduceIte, cp_in]
  · simp (disch := assumption) only [f_W_becomes_10, st_ap, Nat.reduceEqDiff, Nat.reduceAdd, ↓reduceIte, cp_in]
theorem c_W_becomes_11 (M : jp_M) : cpW M (f_W_becomes_11 M) 92 2 := by
  refine ⟨fun q h0 h1 h2 h3 => ?_, fun i hi => ?_, fun i hi => ?_, fun i hi => ?_, fun i hi => ?_⟩
  · simp only [Nat.reduceAdd] at h1 h2 h3
    simp only [f_W_becomes_11, st_ap, h0, h1, h2, h3, ↓reduceIte]
  · have : i = 0 ∨ i = 1 ∨ i = 2 ∨ i = 3 ∨ i = 4 ∨ i = 5 ∨ i = 6 ∨ i = 7 := by omega
    rcases this with rfl | rfl | rfl | rfl | rfl | rfl | rfl | rfl <;> simp only [f_W_becomes_11, st_ap, ud_ap, Nat.reduceEqDiff, Nat.reduceAdd, ↓reduceIte]
  · simp (disch := assumption) only [f_W_becomes_11, st_ap, Nat.reduceEqDiff, Nat.reduceAdd, ↓reduceIte, cp_in]
  · simp (disch := assumption) only [f_W_becomes_11, st_ap, Nat.reduceEqDiff, Nat.reduceAdd, ↓reduceIte, cp_in]
  · simp (disch := assumption) only [f_W_becomes_11, st_ap, Nat.reduceEqDiff, Nat.reduceAdd, ↓reduceIte, cp_in]
theorem c_W_becomes_12 (M : jp_M) : cpW M (f_W_becomes_12 M) 96 2 := by
  refine ⟨fun q h0 h1 h2 h3 => ?_, fun i hi => ?_, fun i hi => ?_, fun i hi => ?_, fun i hi => ?_⟩
  · simp only [Nat.reduceAdd] at h1 h2 h3
    simp only [f_W_becomes_12, st_ap, h0, h1, h2, h3, ↓reduceIte]
  · have : i = 0 ∨ i = 1 ∨ i = 2 ∨ i = 3 ∨ i = 4 ∨ i = 5 ∨ i = 6 ∨ i = 7 := by omega
    rcases this with rfl | rfl | rfl | rfl | rfl | rfl | rfl | rfl <;> simp only [f_W_becomes_12, st_ap, ud_ap, Nat.reduceEqDiff, Nat.reduceAdd, ↓reduceIte]
  · simp (disch := assumption) only [f_W_becomes_12, st_ap, Nat.reduceEqDiff, Nat.reduceAdd, ↓reduceIte, cp_in]
  · simp (disch := assumption) only [f_W_becomes_12, st_ap, Nat.reduceEqDiff, Nat.reduceAdd, ↓reduceIte, cp_in]
  · simp (disch := assumption) only [f_W_becomes_12, st_ap, Nat.reduceEqDiff, Nat.reduceAdd, ↓reduceIte, cp_in]
theorem c_W_becomes_13 (M : jp_M) : cpW M (f_W_becomes_13 M) 100 2 := by
  refine ⟨fun q h0 h1 h2 h3 => ?_, fun i hi => ?_, fun i hi => ?_, fun i hi => ?_, fun i hi => ?_⟩
  · simp only [Nat.reduceAdd] at h1 h2 h3
    simp only [f_W_becomes_13, st_ap, h0, h1, h2, h3, ↓reduceIte]
  · have : i = 0 ∨ i = 1 ∨ i = 2 ∨ i = 3 ∨ i = 4 ∨ i = 5 ∨ i = 6 ∨ i = 7 := by omega
    rcases this with rfl | rfl | rfl | rfl | rfl | rfl | rfl | rfl <;> simp only [f_W_becomes_13, st_ap, ud_ap, Nat.reduceEqDiff, Nat.reduceAdd, ↓reduceIte]
  · simp (disch := assumption) only [f_W_becomes_13, st_ap, Nat.reduceEqDiff, Nat.reduceAdd, ↓reduceIte, cp_in]
  · simp (disch := assumption) only [f_W_becomes_13, st_ap, Nat.reduceEqDiff, Nat.reduceAdd, ↓reduceIte, cp_in]
  · simp (disch := assumption) only [f_W_becomes_13, st_ap, Nat.reduceEqDiff, Nat.reduceAdd, ↓reduceIte, cp_in]
theorem c_W_becomes_14 (M : jp_M) : cpW M (f_W_becomes_14 M) 2 26 := by
  refine ⟨fun q h0 h1 h2 h3 => ?_, fun i hi => ?_, fun i hi => ?_, fun i hi => ?_, fun i hi => ?_⟩
  · simp only [Nat.reduceAdd] at h1 h2 h3
    simp only [f_W_becomes_14, st_ap, h0, h1, h2, h3, ↓reduceIte]
  · have : i = 0 ∨ i = 1 ∨ i = 2 ∨ i = 3 ∨ i = 4 ∨ i = 5 ∨ i = 6 ∨ i = 7 := by omega
    rcases this with rfl | rfl | rfl | rfl | rfl | rfl | rfl | rfl <;> simp only [f_W_becomes_14, st_ap, ud_ap, Nat.reduceEqDiff, Nat.reduceAdd, ↓reduceIte]
  · simp (disch := assumption) only [f_W_becomes_14, st_ap, Nat.reduceEqDiff, Nat.reduceAdd, ↓reduceIte, cp_in]
  · simp (disch := assumption) only [f_W_becomes_14, st_ap, Nat.reduceEqDiff, Nat.reduceAdd, ↓reduceIte, cp_in]
  · simp (disch := assumption) only [f_W_becomes_14, st_ap, Nat.reduceEqDiff, Nat.reduceAdd, ↓reduceIte, cp_in]
theorem c_W_becomes_15 (M : jp_M) : cpW M (f_W_becomes_15 M) 26 2 := by
  refine ⟨fun q h0 h1 h2 h3 => ?_, fun i hi => ?_, fun i hi => ?_, fun i hi => ?_, fun i hi => ?_⟩
  · simp only [Nat.reduceAdd] at h1 h2 h3
    simp only [f_W_becomes_15, st_ap, h0, h1, h2, h3, ↓reduceIte]
  · have : i = 0 ∨ i = 1 ∨ i = 2 ∨ i = 3 ∨ i = 4 ∨ i = 5 ∨ i = 6 ∨ i = 7 := by omega
    rcases this with rfl | rfl | rfl | rfl | rfl | rfl | rfl | rfl <;> simp only [f_W_becomes_15, st_ap, ud_ap, Nat.reduceEqDiff, Nat.reduceAdd, ↓reduceIte]
  · simp (disch := assumption) only [f_W_becomes_15, st_ap, Nat.reduceEqDiff, Nat.reduceAdd, ↓reduceIte, cp_in]
  · simp (disch := assumption) only [f_W_becomes_15, st_ap, Nat.reduceEqDiff, Nat.reduceAdd, ↓reduceIte, cp_in]
  · simp (disch := assumption) only [f_W_becomes_15, st_ap, Nat.reduceEqDiff, Nat.reduceAdd, ↓reduceIte, cp_in]
/-- the reference's row at the end of its rows -/
theorem l_ka57 {K : Nat} (hK : K ≤ 5) : ∀ d i, i + d = 184 → ∀ n, d < n → ∀ M : jp_M, M 104 3 = nI K → ∃ M', f_M_keepsAhead_57 n (nI i) M = some M' ∧ (∀ q, ¬ q = 104 → ¬ q = 106 → M' q = M q) ∧ (∀ j, ¬ j = 3 → M' 104 j = M 104 j) ∧ M' 104 3 = nI (K + 1) ∧
    (∀ k, i ≤ k → k < 184 → M' 106 (184 * K + k) = M 105 k) ∧ (∀ j, j < 184 * K + i → M' 106 j = M 106 j) := by
  intro d
  induction d with
  | zero =>
    intro i hi n hn M h3
    obtain ⟨n, rfl⟩ : ∃ k, n = k + 1 := ⟨n - 1, by omega⟩
    refine ⟨jp_set M 104 (upd (M 104) 3 (nI (K + 1))), ?_, ?_, ?_, ?_, ?_, ?_⟩
    · simp (disch := omega) only [f_M_keepsAhead_57, jp_c, decide_eq_true_eq, n_lit, n_neg1, n_add, n_mul, n_sub, n_div, n_mod, n_le, n_lt, n_eq, n_cl, n_in, Nat.reduceEqDiff, Nat.reduceAdd, Nat.reduceMul, ite_true, ite_false, if_true, if_false, eq_self_iff_true, ↓reduceIte, and_self, and_true, true_and, and_false, false_and, not_true_eq_false, not_false_eq_true, if_pos, if_neg, h3]
    · intro q h1 h2; rw [st_ne h1]
    · intro j hj; rw [st_same, ud_ne hj]
    · rw [st_same, ud_eq rfl]
    · intro k h1 h2; omega
    · intro j hj; rw [st_ne (by decide)]
  | succ d ih =>
    intro i hi n hn M h3
    obtain ⟨n, rfl⟩ : ∃ k, n = k + 1 := ⟨n - 1, by omega⟩
    obtain ⟨M', e1, e2, e3, e4, e5, e6⟩ := ih (i + 1) (by omega) n (by omega) (jp_set M 106 (upd (M 106) (184 * K + i) (M 105 i))) (by rw [st_ne (by decide)]; exact h3)
    refine ⟨M', ?_, ?_, ?_, e4, ?_, ?_⟩
    · rw [← e1]
      simp (disch := omega) only [f_M_keepsAhead_57, jp_c, decide_eq_true_eq, n_lit, n_neg1, n_add, n_mul, n_sub, n_div, n_mod, n_le, n_lt, n_eq, n_cl, n_in, Nat.reduceEqDiff, Nat.reduceAdd, Nat.reduceMul, ite_true, ite_false, if_true, if_false, eq_self_iff_true, ↓reduceIte, and_self, and_true, true_and, and_false, false_and, not_true_eq_false, not_false_eq_true, if_pos, if_neg, h3, jg_t]
    · intro q h1 h2; rw [e2 q h1 h2, st_ne h2]
    · intro j hj; rw [e3 j hj, st_ne (by decide)]
    · intro k h1 h2
      by_cases hk : k = i
      · subst hk
        rw [e6 _ (by omega), st_same, ud_eq rfl]
      · rw [e5 k (by omega) h2, st_ne (by decide)]
    · intro j hj
      rw [e6 j (by omega), st_same, ud_ne (by omega)]
theorem l_ka21 : ∀ d i, i + d = 920 → ∀ n, d < n → ∀ M : jp_M, M 104 3 = nI 5 → ∃ M', f_M_keepsAhead_21 n (nI i) M = f_M_keepsAhead_55 M' ∧ (∀ q, ¬ q = 106 → M' q = M q) ∧
    (∀ j, i ≤ j → j < 920 → M' 106 j = M 106 (j + 184)) ∧ (∀ j, j < i → M' 106 j = M 106 j) := by
  intro d
  induction d with
  | zero =>
    intro i hi n hn M h3
    obtain ⟨n, rfl⟩ : ∃ k, n = k + 1 := ⟨n - 1, by omega⟩
    refine ⟨M, ?_, fun _ _ => rfl, fun j h1 h2 => by omega, fun _ _ => rfl⟩
    simp (disch := omega) only [f_M_keepsAhead_21, jp_c, decide_eq_true_eq, n_lit, n_neg1, n_add, n_mul, n_sub, n_div, n_mod, n_le, n_lt, n_eq, n_cl, n_in, Nat.reduceEqDiff, Nat.reduceAdd, Nat.reduceMul, ite_true, ite_false, if_true, if_false, eq_self_iff_true, ↓reduceIte, and_self, and_true, true_and, and_false, false_and, not_true_eq_false, not_false_eq_true, if_pos, if_neg, h3]
  | succ d ih =>
    intro i hi n hn M h3
    obtain ⟨n, rfl⟩ : ∃ k, n = k + 1 := ⟨n - 1, by omega⟩
    obtain ⟨M', e1, e2, e3, e4⟩ := ih (i + 1) (by omega) n (by omega) (jp_set M 106 (upd (M 106) i (M 106 (i + 184)))) (by rw [st_ne (by decide)]; exact h3)
    refine ⟨M', ?_, ?_, ?_, ?_⟩
    · rw [← e1]
      simp (disch := omega) only [f_M_keepsAhead_21, jp_c, decide_eq_true_eq, n_lit, n_neg1, n_add, n_mul, n_sub, n_div, n_mod, n_le, n_lt, n_eq, n_cl, n_in, Nat.reduceEqDiff, Nat.reduceAdd, Nat.reduceMul, ite_true, ite_false, if_true, if_false, eq_self_iff_true, ↓reduceIte, and_self, and_true, true_and, and_false, false_and, not_true_eq_false, not_false_eq_true, if_pos, if_neg, h3, jg_t]
    · intro q h1; rw [e2 q h1, st_ne h1]
    · intro j h1 h2
      by_cases hj : j = i
      · subst hj
        rw [e4 _ (by omega), st_same, ud_eq rfl]
      · rw [e3 j (by omega) h2, st_same, ud_ne (by omega)]
    · intro j hj
      rw [e4 j (by omega), st_same, ud_ne (by omega)]
theorem k_ahead {B : jp_M} {K : Nat} (hK : K ≤ 6) (h3 : B 104 3 = nI K) : ∃ B', f_M_keepsAhead B = some B' ∧ (∀ q, ¬ q = 104 → ¬ q = 106 → B' q = B q) ∧ (∀ j, ¬ j = 3 → B' 104 j = B 104 j) ∧ B' 104 3 = nI (min 6 (K + 1)) ∧
    (∀ k, k < 184 → B' 106 (184 * min 5 K + k) = B 105 k) ∧ (∀ j, j < 184 * min 5 K → B' 106 j = B 106 (j + (if K = 6 then 184 else 0))) := by
  by_cases h : K = 6
  · subst h
    obtain ⟨M1, e1, e2, e3, -⟩ := l_ka21 920 0 (by omega) jFu (jFu_lt (by omega)) (jp_set B 104 (upd (B 104) 3 (nI 5))) (by rw [st_same, ud_eq rfl])
    obtain ⟨M2, d1, d2, d3, d4, d5, d6⟩ := l_ka57 (K := 5) (by omega) 184 0 (by omega) jFu (jFu_lt (by omega)) M1 (by rw [e2 104 (by decide), st_same, ud_eq rfl])
    refine ⟨M2, ?_, ?_, ?_, d4, ?_, ?_⟩
    · rw [← d1]
      have : f_M_keepsAhead_57 jFu (nI 0) M1 = f_M_keepsAhead_55 M1 := rfl
      rw [this, ← e1]
      simp (disch := omega) only [f_M_keepsAhead, jp_c, decide_eq_true_eq, n_lit, n_neg1, n_add, n_mul, n_sub, n_div, n_mod, n_le, n_lt, n_eq, n_cl, n_in, Nat.reduceEqDiff, Nat.reduceAdd, Nat.reduceMul, ite_true, ite_false, if_true, if_false, eq_self_iff_true, ↓reduceIte, and_self, and_true, true_and, and_false, false_and, not_true_eq_false, not_false_eq_true, if_pos, if_neg, h3]
    · intro q h1 h2; rw [d2 q h1 h2, e2 q h2, st_ne h1]
    · intro j hj; rw [d3 j hj, e2 104 (by decide), st_same, ud_ne hj]
    · intro k hk; rw [show min 5 6 = 5 from rfl, d5 k (by omega) hk, e2 105 (by decide), st_ne (by decide)]
    · intro j hj; rw [show min 5 6 = 5 from rfl] at hj; rw [d6 j (by omega), e3 j (by omega) (by omega), st_ne (by decide), if_pos rfl]
  · obtain ⟨M2, d1, d2, d3, d4, d5, d6⟩ := l_ka57 (K := K) (by omega) 184 0 (by omega) jFu (jFu_lt (by omega)) B h3
    refine ⟨M2, ?_, d2, d3, ?_, ?_, ?_⟩
    · rw [← d1]
      simp (disch := omega) only [f_M_keepsAhead, f_M_keepsAhead_55, jp_c, decide_eq_true_eq, n_lit, n_neg1, n_add, n_mul, n_sub, n_div, n_mod, n_le, n_lt, n_eq, n_cl, n_in, Nat.reduceEqDiff, Nat.reduceAdd, Nat.reduceMul, ite_true, ite_false, if_true, if_false, eq_self_iff_true, ↓reduceIte, and_self, and_true, true_and, and_false, false_and, not_true_eq_false, not_false_eq_true, if_pos, if_neg, h3, h]
    · rw [d4, show min 6 (K + 1) = K + 1 by omega]
    · intro k hk; rw [show min 5 K = K by omega, d5 k (by omega) hk]
    · intro j hj; rw [show min 5 K = K by omega] at hj; rw [d6 j (by omega), if_neg h]; rfl
theorem n_min {a b : Nat} (ha : a < 2147483648) (hb : b < 2147483648) : jp_min (nI a) (nI b) = nI (min a b) := by
  unfold jp_min
  simp only [n_lt hb ha]
  split
  · rw [show min a b = b by omega]
  · rw [show min a b = a by omega]
theorem n_max {a b : Nat} (ha : a < 2147483648) (hb : b < 2147483648) : jp_max (nI a) (nI b) = nI (max a b) := by
  unfold jp_max
  simp only [n_lt ha hb]
  split
  · rw [show max a b = b by omega]
  · rw [show max a b = a by omega]
theorem k_keep {A : jp_M} {N K : Nat} (hN : N < 6) (hK : K ≤ 6) (h5 : A 0 5 = nI N) (h4 : A 0 4 = nI K) : ∃ A' M, f_C_keep A = some A' ∧ M = jp_set A 0 (upd (A 0) 5 (nI ((N + 1) % 6))) ∧ (∀ i, ¬ i = 4 → ¬ i = 5 → A' 0 i = A 0 i) ∧ A' 0 5 = nI ((N + 1) % 6) ∧ A' 0 4 = nI (min 6 (K + 1)) ∧
    ∃ M1, cpW M M1 2 (80 + 4 * ((N + 1) % 6)) ∧ ∀ q, ¬ q = 0 → A' q = M1 q := by
  have hN' : (N + 1) % 6 < 6 := Nat.mod_lt _ (by omega)
  have e1 : jp_set A 0 (upd (A 0) 5 ((A 0 5 + 1) % 6)) = jp_set A 0 (upd (A 0) 5 (nI ((N + 1) % 6))) := by
    rw [h5]; simp (disch := omega) only [n_lit, n_neg1, n_add, n_mul, n_sub, n_div, n_mod, n_le, n_lt, n_eq, n_cl, n_in]
  generalize hM : jp_set A 0 (upd (A 0) 5 (nI ((N + 1) % 6))) = M at e1
  have m5 : M 0 5 = nI ((N + 1) % 6) := by rw [← hM, st_same, ud_eq rfl]
  have m4 : M 0 4 = nI K := by rw [← hM, st_same, ud_ne (by decide), h4]
  have m0 : ∀ i, ¬ i = 4 → ¬ i = 5 → M 0 i = A 0 i := by intro i _ h; rw [← hM, st_same, ud_ne h]
  have key : ∀ (k : Nat) (M1 : jp_M), (N + 1) % 6 = k → cpW M M1 2 (80 + 4 * k) → f_C_keep A = some (jp_set M1 0 (upd (M1 0) 4 (jp_min 6 (M1 0 4 + 1)))) → ∃ A' M0, f_C_keep A = some A' ∧ M0 = M ∧ (∀ i, ¬ i = 4 → ¬ i = 5 → A' 0 i = A 0 i) ∧ A' 0 5 = nI ((N + 1) % 6) ∧ A' 0 4 = nI (min 6 (K + 1)) ∧ ∃ M1, cpW M0 M1 2 (80 + 4 * ((N + 1) % 6)) ∧ ∀ q, ¬ q = 0 → A' q = M1 q := by
    intro k M1 hk hc he
    have z0 : M1 0 = M 0 := hc.1 0 (by omega) (by omega) (by omega) (by omega)
    refine ⟨_, M, he, rfl, ?_, ?_, ?_, M1, ?_, ?_⟩
    · intro i h1 h2; rw [st_same, ud_ne h1, z0, m0 i h1 h2]
    · rw [st_same, ud_ne (by decide), z0, m5]
    · rw [st_same, ud_eq rfl, z0, m4]; simp (disch := omega) only [n_lit, n_neg1, n_add, n_mul, n_sub, n_div, n_mod, n_le, n_lt, n_eq, n_cl, n_in, n_min]
    · rw [hk]; exact hc
    · intro q hq; rw [st_ne hq]
  by_cases g0 : (N + 1) % 6 = 0
  · refine key 0 _ g0 (c_W_becomes M) ?_
    simp only [f_C_keep, e1]
    simp (disch := omega) only [m5, g0, jp_c, decide_eq_true_eq, n_lit, n_neg1, n_add, n_mul, n_sub, n_div, n_mod, n_le, n_lt, n_eq, n_cl, n_in, Nat.reduceEqDiff, Nat.reduceAdd, Nat.reduceMul, ite_true, ite_false, if_true, if_false, eq_self_iff_true, ↓reduceIte, and_self, and_true, true_and, and_false, false_and, not_true_eq_false, not_false_eq_true, if_pos, if_neg, jg_t]
  by_cases g1 : (N + 1) % 6 = 1
  · refine key 1 _ g1 (c_W_becomes_1 M) ?_
    simp only [f_C_keep, e1]
    simp (disch := omega) only [m5, g1, jp_c, decide_eq_true_eq, n_lit, n_neg1, n_add, n_mul, n_sub, n_div, n_mod, n_le, n_lt, n_eq, n_cl, n_in, Nat.reduceEqDiff, Nat.reduceAdd, Nat.reduceMul, ite_true, ite_false, if_true, if_false, eq_self_iff_true, ↓reduceIte, and_self, and_true, true_and, and_false, false_and, not_true_eq_false, not_false_eq_true, if_pos, if_neg, jg_t]
  by_cases g2 : (N + 1) % 6 = 2
  · refine key 2 _ g2 (c_W_becomes_2 M) ?_
    simp only [f_C_keep, e1]
    simp (disch := omega) only [m5, g2, jp_c, decide_eq_true_eq, n_lit, n_neg1, n_add, n_mul, n_sub, n_div, n_mod, n_le, n_lt, n_eq, n_cl, n_in, Nat.reduceEqDiff, Nat.reduceAdd, Nat.reduceMul, ite_true, ite_false, if_true, if_false, eq_self_iff_true, ↓reduceIte, and_self, and_true, true_and, and_false, false_and, not_true_eq_false, not_false_eq_true, if_pos, if_neg, jg_t]
  by_cases g3 : (N + 1) % 6 = 3
  · refine key 3 _ g3 (c_W_becomes_3 M) ?_
    simp only [f_C_keep, e1]
    simp (disch := omega) only [m5, g3, jp_c, decide_eq_true_eq, n_lit, n_neg1, n_add, n_mul, n_sub, n_div, n_mod, n_le, n_lt, n_eq, n_cl, n_in, Nat.reduceEqDiff, Nat.reduceAdd, Nat.reduceMul, ite_true, ite_false, if_true, if_false, eq_self_iff_true, ↓reduceIte, and_self, and_true, true_and, and_false, false_and, not_true_eq_false, not_false_eq_true, if_pos, if_neg, jg_t]
  by_cases g4 : (N + 1) % 6 = 4
  · refine key 4 _ g4 (c_W_becomes_4 M) ?_
    simp only [f_C_keep, e1]
    simp (disch := omega) only [m5, g4, jp_c, decide_eq_true_eq, n_lit, n_neg1, n_add, n_mul, n_sub, n_div, n_mod, n_le, n_lt, n_eq, n_cl, n_in, Nat.reduceEqDiff, Nat.reduceAdd, Nat.reduceMul, ite_true, ite_false, if_true, if_false, eq_self_iff_true, ↓reduceIte, and_self, and_true, true_and, and_false, false_and, not_true_eq_false, not_false_eq_true, if_pos, if_neg, jg_t]
  by_cases g5 : (N + 1) % 6 = 5
  · refine key 5 _ g5 (c_W_becomes_5 M) ?_
    simp only [f_C_keep, e1]
    simp (disch := omega) only [m5, g5, jp_c, decide_eq_true_eq, n_lit, n_neg1, n_add, n_mul, n_sub, n_div, n_mod, n_le, n_lt, n_eq, n_cl, n_in, Nat.reduceEqDiff, Nat.reduceAdd, Nat.reduceMul, ite_true, ite_false, if_true, if_false, eq_self_iff_true, ↓reduceIte, and_self, and_true, true_and, and_false, false_and, not_true_eq_false, not_false_eq_true, if_pos, if_neg, jg_t]
  omega
theorem rW_cg {a p b r g t h e a' p' b' r' g' t' h' e' : Nat → Int32} {pp ss : Int32} (ha : ∀ i, i < 7 → a' i = a i) (hp : ∀ i, i < 50 → p' i = p i) (hb : ∀ i, i < 30 → b' i = b i) (hr : ∀ i, i < 128 → r' i = r i)
    (hg : ∀ i, i < 184 → g' i = g i) (ht : ∀ i, i < 10 → t' i = t i) (hh : ∀ i, i < 10 → h' i = h i) (he : ∀ i, i < 10 → e' i = e i) (hw : rW a p b r g t h e pp ss) : rW a' p' b' r' g' t' h' e' pp ss := by
  obtain ⟨⟨⟨e0, e1, e2, e3, e4, e5, e6⟩, eP, eB, eR⟩, nW⟩ := hw
  obtain ⟨P, S, U, hP, hS, hU, f4, f5, f6, nP, nB, nR⟩ := nW
  refine ⟨⟨⟨?_, ?_, ?_, ?_, ?_, ?_, ?_⟩, fun i hi => ?_, fun i hi => ?_, fun i hi => ?_⟩, P, S, U, hP, hS, hU, ?_, ?_, ?_, fun i hi => ?_, fun i hi => ?_, fun i hi => ?_⟩
  · rw [ha _ (by omega), hg _ (by omega)]; exact e0
  · rw [ha _ (by omega), hg _ (by omega)]; exact e1
  · rw [ha _ (by omega), hg _ (by omega)]; exact e2
  · rw [ha _ (by omega), hg _ (by omega)]; exact e3
  · rw [ha _ (by omega)]; exact e4
  · rw [ha _ (by omega)]; exact e5
  · rw [ha _ (by omega), hg _ (by omega)]; exact e6
  · rw [hp _ (by omega), hp _ (by omega), hp _ (by omega), hp _ (by omega), hp _ (by omega), hg _ (by omega), hg _ (by omega), hg _ (by omega), ht _ hi, hh _ hi]; exact eP i hi
  · rw [hb _ (by omega), hb _ (by omega), hb _ (by omega), hg _ (by omega), hg _ (by omega), he _ hi]; exact eB i hi
  · rw [hr _ hi, hg _ (by omega)]; exact eR i hi
  · rw [ha _ (by omega)]; exact f4
  · rw [ha _ (by omega)]; exact f5
  · rw [ha _ (by omega)]; exact f6
  · rw [hp _ (by omega), hp _ (by omega), hp _ (by omega)]; exact nP i hi
  · rw [hb _ (by omega), hb _ (by omega)]; exact nB i hi
  · rw [hr _ (by omega), hr _ (by omega), hr _ (by omega), hr _ (by omega)]; exact nR i hi
/-- both keep the world that is -/
theorem p_keep {A B : jp_M} (hR : Rel A B) : ∃ A' B', f_C_keep A = some A' ∧ f_M_keepsAhead B = some B' ∧ Rel A' B' ∧ (∀ q, ¬ q = 0 → q < 80 → A' q = A q) ∧ (∀ i, ¬ i = 4 → ¬ i = 5 → A' 0 i = A 0 i) ∧ (∀ q, ¬ q = 104 → ¬ q = 106 → B' q = B q) ∧ (∀ i, ¬ i = 3 → B' 104 i = B 104 i) := by
  have hR' := hR
  obtain ⟨⟨hW, hBk, hLw, hPe, hLe, hCi, hWi, hKi, hPo, hWy, hVo⟩, hPic, hKe, hTa, hFa, hTh, hWd⟩ := hR
  obtain ⟨K, N, Ls, hK, hN, k1, k2, k3, hk⟩ := hKe
  obtain ⟨A', M, a1, hM, a2, a3, a4, M1, hc, a5⟩ := k_keep hN hK k3 k1
  obtain ⟨B', b1, b2, b3, b4, b5, b6⟩ := k_ahead hK k2
  have hN' : (N + 1) % 6 < 6 := Nat.mod_lt _ (by omega)
  obtain ⟨c1, c2, c3, c4, c5⟩ := hc
  have mM : ∀ q, ¬ q = 0 → M q = A q := by intro q hq; rw [hM, st_ne hq]
  have aA : ∀ q, ¬ q = 0 → (q < 80 + 4 * ((N + 1) % 6) ∨ 84 + 4 * ((N + 1) % 6) ≤ q) → A' q = A q := by
    intro q h1 h2
    rw [a5 q h1, c1 q (by omega) (by omega) (by omega) (by omega), mM q h1]
  refine ⟨A', B', a1, b1, ?_, fun q h1 h2 => aA q h1 (by omega), a2, b2, b3⟩
  have s : ∀ q, ¬ q = 0 → q < 80 → A' q = A q := fun q h1 h2 => aA q h1 (by omega)
  refine Rel_w hR' ?_ ?_ ?_ ?_ ?_ ?_ ?_ ?_
  · intro p hp
    simp only [wA, List.mem_cons, List.not_mem_nil, or_false, not_or] at hp
    exact aA p (by omega) (by omega)
  · intro i hi
    simp only [List.mem_cons, List.not_mem_nil, or_false, not_or] at hi
    exact a2 i hi.1 hi.2
  · intro p hp
    simp only [wBB, List.mem_cons, List.not_mem_nil, or_false, not_or] at hp
    exact b2 p (by omega) (by omega)
  · intro i hi
    simp only [wF, List.mem_cons, List.not_mem_nil, or_false, not_or] at hi
    exact b3 i (by omega)
  · rw [s 2 (by decide) (by decide), s 3 (by decide) (by decide), s 4 (by decide) (by decide), s 5 (by decide) (by decide), b2 105 (by decide) (by decide), b2 108 (by decide) (by decide), b2 109 (by decide) (by decide), b2 110 (by decide) (by decide), b3 6 (by decide), b3 7 (by decide)]
    exact hW
  · rw [s 2 (by decide) (by decide), s 6 (by decide) (by decide), b2 105 (by decide) (by decide), b2 111 (by decide) (by decide)]; exact hBk
  · rw [s 2 (by decide) (by decide)]; exact hPe
  · rw [a4, b4, a3, s 2 (by decide) (by decide), b2 108 (by decide) (by decide), b2 109 (by decide) (by decide), b2 110 (by decide) (by decide), b3 6 (by decide), b3 7 (by decide)]
    obtain ⟨L, hL, l1, l2, l3⟩ := hBk
    refine ⟨min 6 (K + 1), (N + 1) % 6, fun j => if j = 0 then L else Ls (j - 1), by omega, hN', rfl, rfl, rfl, fun j hj => ?_⟩
    by_cases hj0 : j = 0
    · subst hj0
      have z : ((N + 1) % 6 + 6 - 0) % 6 = (N + 1) % 6 := by omega
      have y : min 6 (K + 1) - 1 - 0 = min 5 K := by omega
      dsimp only
      rw [z, y, if_pos rfl]
      have b5' : ∀ i, i < 184 → B' 106 (184 * min 5 K + i) = B 105 i := b5
      refine ⟨rW_cg (fun i hi => ?_) (fun i hi => ?_) (fun i hi => ?_) (fun i hi => ?_) b5' (fun _ _ => rfl) (fun _ _ => rfl) (fun _ _ => rfl) hW, ?_, ?_, hL, ?_, ?_⟩
      · rw [a5 _ (by omega), c2 i (by omega), mM 2 (by decide)]
      · rw [show 81 + 4 * ((N + 1) % 6) = 80 + 4 * ((N + 1) % 6) + 1 by omega, a5 _ (by omega), c3 i (by omega), mM 3 (by decide)]
      · rw [show 82 + 4 * ((N + 1) % 6) = 80 + 4 * ((N + 1) % 6) + 2 by omega, a5 _ (by omega), c4 i (by omega), mM 4 (by decide)]
      · rw [show 83 + 4 * ((N + 1) % 6) = 80 + 4 * ((N + 1) % 6) + 3 by omega, a5 _ (by omega), c5 i (by omega), mM 5 (by decide)]
      · rw [a5 _ (by omega), c2 7 (by omega), mM 2 (by decide), l1]
      · rw [b5 2 (by omega), l2]
      · intro L' h1 h2
        rw [l1, n_eq (by omega) (by omega)] at h2
        omega
      · intro i hi
        rw [if_pos (by omega)]; exact Nat.le_refl _
    · have z : ((N + 1) % 6 + 6 - j) % 6 = (N + 6 - (j - 1)) % 6 := by omega
      have zz : ((N + 1) % 6 + 6 - j) % 6 ≠ (N + 1) % 6 := by omega
      have hz : ((N + 1) % 6 + 6 - j) % 6 < 6 := Nat.mod_lt _ (by omega)
      obtain ⟨w1, w2, w3, w4, w5, w6⟩ := hk (j - 1) (by omega)
      rw [← z] at w1 w2
      generalize ((N + 1) % 6 + 6 - j) % 6 = z0 at *
      dsimp only
      rw [if_neg hj0]
      have y : ∀ k, k < 184 → B' 106 (184 * (min 6 (K + 1) - 1 - j) + k) = B 106 (184 * (K - 1 - (j - 1)) + k) := by
        intro k hk'
        rw [b6 _ (by omega)]
        congr 1
        split <;> omega
      rw [aA (80 + 4 * z0) (by omega) (by omega), aA (81 + 4 * z0) (by omega) (by omega), aA (82 + 4 * z0) (by omega) (by omega), aA (83 + 4 * z0) (by omega) (by omega)]
      refine ⟨rW_cg (fun _ _ => rfl) (fun _ _ => rfl) (fun _ _ => rfl) (fun _ _ => rfl) y (fun _ _ => rfl) (fun _ _ => rfl) (fun _ _ => rfl) w1, w2, ?_, w4, ?_, ?_⟩
      · rw [y 2 (by omega), w3]
      · intro L' h1 h2
        exact w5 L' h1 h2
      · intro i hi
        by_cases hi0 : i = 0
        · rw [if_pos hi0]
          exact w5 L hL l1
        · rw [if_neg hi0]
          exact w6 (i - 1) (by omega)
