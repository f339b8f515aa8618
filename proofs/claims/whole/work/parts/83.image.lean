/-- where a cell stands in the image -/
def inv (p i : Nat) : Nat := match p with
  | 104 => (match i with
    | 6 => 184
    | 7 => 185
    | 35 => 186
    | 37 => 187
    | 39 => 188
    | 45 => 189
    | 49 => 190
    | 56 => 191
    | _ => 5000)
  | 105 => if i < 184 then i else 5000
  | 108 => if i < 10 then 192 + 7 * i else 5000
  | 109 => if i < 10 then 193 + 7 * i else 5000
  | 110 => if i < 10 then 194 + 7 * i else 5000
  | 123 => if i < 10 then 195 + 7 * i else 5000
  | 132 => if i < 10 then 196 + 7 * i else 5000
  | 133 => if i < 10 then 197 + 7 * i else 5000
  | 137 => if i < 10 then 198 + 7 * i else 5000
  | 129 => if i < 8 then 262 + 7 * i else 5000
  | 130 => if i < 8 then 263 + 7 * i else 5000
  | 131 => if i < 8 then 264 + 7 * i else 5000
  | 138 => if i < 8 then 265 + 7 * i else 5000
  | 139 => if i < 8 then 266 + 7 * i else 5000
  | 140 => if i < 8 then 267 + 7 * i else 5000
  | 141 => if i < 8 then 268 + 7 * i else 5000
  | 124 => if i < 16 then 318 + i else 5000
  | 135 => if i < 36 then 334 + i else 5000
  | 122 => if i < 112 then 370 + i else 5000
  | 111 => if i < 600 then 482 + i else 5000
  | 114 => if i < 1 then 1082 + i else 5000
  | 115 => if i < 16 then 1083 + 4 * i else 5000
  | 116 => if i < 16 then 1084 + 4 * i else 5000
  | 117 => if i < 16 then 1085 + 4 * i else 5000
  | 118 => if i < 16 then 1086 + 4 * i else 5000
  | 119 => if i < 400 then 1147 + 2 * i else 5000
  | 120 => if i < 400 then 1148 + 2 * i else 5000
  | _ => 5000
def tba (k : Nat) : Nat := match k with
  | 0 => 108
  | 1 => 109
  | 2 => 110
  | 3 => 123
  | 4 => 132
  | 5 => 133
  | _ => 137
def tbb (k : Nat) : Nat := match k with
  | 0 => 129
  | 1 => 130
  | 2 => 131
  | 3 => 138
  | 4 => 139
  | 5 => 140
  | _ => 141
def tbm (k : Nat) : Nat := match k with
  | 0 => 6
  | 1 => 7
  | 2 => 35
  | 3 => 37
  | 4 => 39
  | 5 => 45
  | 6 => 49
  | _ => 56
/-- which cell stands at a place of the image -/
def cell (k : Nat) : Nat × Nat :=
  if k < 184 then (105, k) else if k < 192 then (104, tbm (k - 184)) else if k < 262 then (tba ((k - 192) % 7), (k - 192) / 7) else if k < 318 then (tbb ((k - 262) % 7), (k - 262) / 7)
  else if k < 334 then (124, k - 318) else if k < 370 then (135, k - 334) else if k < 482 then (122, k - 370) else if k < 1082 then (111, k - 482) else if k < 1083 then (114, k - 1082)
  else if k < 1147 then (115 + (k - 1083) % 4, (k - 1083) / 4) else (119 + (k - 1147) % 2, (k - 1147) / 2)
theorem cl_105 {i : Nat} (h : i < 184) : cell (i) = (105, i) := by
  unfold cell
  rw [if_pos (by omega)]
theorem cl_108 {i : Nat} (h : i < 10) : cell (192 + 7 * i) = (108, i) := by
  unfold cell
  rw [if_neg (by omega), if_neg (by omega), if_pos (by omega)]
  rw [show (192 + 7 * i - 192) % 7 = 0 by omega, show (192 + 7 * i - 192) / 7 = i by omega]
  rfl
theorem cl_109 {i : Nat} (h : i < 10) : cell (193 + 7 * i) = (109, i) := by
  unfold cell
  rw [if_neg (by omega), if_neg (by omega), if_pos (by omega)]
  rw [show (193 + 7 * i - 192) % 7 = 1 by omega, show (193 + 7 * i - 192) / 7 = i by omega]
  rfl
theorem cl_110 {i : Nat} (h : i < 10) : cell (194 + 7 * i) = (110, i) := by
  unfold cell
  rw [if_neg (by omega), if_neg (by omega), if_pos (by omega)]
  rw [show (194 + 7 * i - 192) % 7 = 2 by omega, show (194 + 7 * i - 192) / 7 = i by omega]
  rfl
theorem cl_123 {i : Nat} (h : i < 10) : cell (195 + 7 * i) = (123, i) := by
  unfold cell
  rw [if_neg (by omega), if_neg (by omega), if_pos (by omega)]
  rw [show (195 + 7 * i - 192) % 7 = 3 by omega, show (195 + 7 * i - 192) / 7 = i by omega]
  rfl
theorem cl_132 {i : Nat} (h : i < 10) : cell (196 + 7 * i) = (132, i) := by
  unfold cell
  rw [if_neg (by omega), if_neg (by omega), if_pos (by omega)]
  rw [show (196 + 7 * i - 192) % 7 = 4 by omega, show (196 + 7 * i - 192) / 7 = i by omega]
  rfl
theorem cl_133 {i : Nat} (h : i < 10) : cell (197 + 7 * i) = (133, i) := by
  unfold cell
  rw [if_neg (by omega), if_neg (by omega), if_pos (by omega)]
  rw [show (197 + 7 * i - 192) % 7 = 5 by omega, show (197 + 7 * i - 192) / 7 = i by omega]
  rfl
theorem cl_137 {i : Nat} (h : i < 10) : cell (198 + 7 * i) = (137, i) := by
  unfold cell
  rw [if_neg (by omega), if_neg (by omega), if_pos (by omega)]
  rw [show (198 + 7 * i - 192) % 7 = 6 by omega, show (198 + 7 * i - 192) / 7 = i by omega]
  rfl
theorem cl_129 {i : Nat} (h : i < 8) : cell (262 + 7 * i) = (129, i) := by
  unfold cell
  rw [if_neg (by omega), if_neg (by omega), if_neg (by omega), if_pos (by omega)]
  rw [show (262 + 7 * i - 262) % 7 = 0 by omega, show (262 + 7 * i - 262) / 7 = i by omega]
  rfl
theorem cl_130 {i : Nat} (h : i < 8) : cell (263 + 7 * i) = (130, i) := by
  unfold cell
  rw [if_neg (by omega), if_neg (by omega), if_neg (by omega), if_pos (by omega)]
  rw [show (263 + 7 * i - 262) % 7 = 1 by omega, show (263 + 7 * i - 262) / 7 = i by omega]
  rfl
theorem cl_131 {i : Nat} (h : i < 8) : cell (264 + 7 * i) = (131, i) := by
  unfold cell
  rw [if_neg (by omega), if_neg (by omega), if_neg (by omega), if_pos (by omega)]
  rw [show (264 + 7 * i - 262) % 7 = 2 by omega, show (264 + 7 * i - 262) / 7 = i by omega]
  rfl
theorem cl_138 {i : Nat} (h : i < 8) : cell (265 + 7 * i) = (138, i) := by
  unfold cell
  rw [if_neg (by omega), if_neg (by omega), if_neg (by omega), if_pos (by omega)]
  rw [show (265 + 7 * i - 262) % 7 = 3 by omega, show (265 + 7 * i - 262) / 7 = i by omega]
  rfl
theorem cl_139 {i : Nat} (h : i < 8) : cell (266 + 7 * i) = (139, i) := by
  unfold cell
  rw [if_neg (by omega), if_neg (by omega), if_neg (by omega), if_pos (by omega)]
  rw [show (266 + 7 * i - 262) % 7 = 4 by omega, show (266 + 7 * i - 262) / 7 = i by omega]
  rfl
theorem cl_140 {i : Nat} (h : i < 8) : cell (267 + 7 * i) = (140, i) := by
  unfold cell
  rw [if_neg (by omega), if_neg (by omega), if_neg (by omega), if_pos (by omega)]
  rw [show (267 + 7 * i - 262) % 7 = 5 by omega, show (267 + 7 * i - 262) / 7 = i by omega]
  rfl
theorem cl_141 {i : Nat} (h : i < 8) : cell (268 + 7 * i) = (141, i) := by
  unfold cell
  rw [if_neg (by omega), if_neg (by omega), if_neg (by omega), if_pos (by omega)]
  rw [show (268 + 7 * i - 262) % 7 = 6 by omega, show (268 + 7 * i - 262) / 7 = i by omega]
  rfl
theorem cl_124 {i : Nat} (h : i < 16) : cell (318 + i) = (124, i) := by
  unfold cell
  rw [if_neg (by omega), if_neg (by omega), if_neg (by omega), if_neg (by omega), if_pos (by omega)]
  rw [show 318 + i - 318 = i by omega]
theorem cl_135 {i : Nat} (h : i < 36) : cell (334 + i) = (135, i) := by
  unfold cell
  rw [if_neg (by omega), if_neg (by omega), if_neg (by omega), if_neg (by omega), if_neg (by omega), if_pos (by omega)]
  rw [show 334 + i - 334 = i by omega]
theorem cl_122 {i : Nat} (h : i < 112) : cell (370 + i) = (122, i) := by
  unfold cell
  rw [if_neg (by omega), if_neg (by omega), if_neg (by omega), if_neg (by omega), if_neg (by omega), if_neg (by omega), if_pos (by omega)]
  rw [show 370 + i - 370 = i by omega]
theorem cl_111 {i : Nat} (h : i < 600) : cell (482 + i) = (111, i) := by
  unfold cell
  rw [if_neg (by omega), if_neg (by omega), if_neg (by omega), if_neg (by omega), if_neg (by omega), if_neg (by omega), if_neg (by omega), if_pos (by omega)]
  rw [show 482 + i - 482 = i by omega]
theorem cl_114 {i : Nat} (h : i < 1) : cell (1082 + i) = (114, i) := by
  unfold cell
  rw [if_neg (by omega), if_neg (by omega), if_neg (by omega), if_neg (by omega), if_neg (by omega), if_neg (by omega), if_neg (by omega), if_neg (by omega), if_pos (by omega)]
  rw [show 1082 + i - 1082 = i by omega]
theorem cl_115 {i : Nat} (h : i < 16) : cell (1083 + 4 * i) = (115, i) := by
  unfold cell
  rw [if_neg (by omega), if_neg (by omega), if_neg (by omega), if_neg (by omega), if_neg (by omega), if_neg (by omega), if_neg (by omega), if_neg (by omega), if_neg (by omega), if_pos (by omega)]
  rw [show (1083 + 4 * i - 1083) % 4 = 0 by omega, show (1083 + 4 * i - 1083) / 4 = i by omega]
theorem cl_116 {i : Nat} (h : i < 16) : cell (1084 + 4 * i) = (116, i) := by
  unfold cell
  rw [if_neg (by omega), if_neg (by omega), if_neg (by omega), if_neg (by omega), if_neg (by omega), if_neg (by omega), if_neg (by omega), if_neg (by omega), if_neg (by omega), if_pos (by omega)]
  rw [show (1084 + 4 * i - 1083) % 4 = 1 by omega, show (1084 + 4 * i - 1083) / 4 = i by omega]
theorem cl_117 {i : Nat} (h : i < 16) : cell (1085 + 4 * i) = (117, i) := by
  unfold cell
  rw [if_neg (by omega), if_neg (by omega), if_neg (by omega), if_neg (by omega), if_neg (by omega), if_neg (by omega), if_neg (by omega), if_neg (by omega), if_neg (by omega), if_pos (by omega)]
  rw [show (1085 + 4 * i - 1083) % 4 = 2 by omega, show (1085 + 4 * i - 1083) / 4 = i by omega]
theorem cl_118 {i : Nat} (h : i < 16) : cell (1086 + 4 * i) = (118, i) := by
  unfold cell
  rw [if_neg (by omega), if_neg (by omega), if_neg (by omega), if_neg (by omega), if_neg (by omega), if_neg (by omega), if_neg (by omega), if_neg (by omega), if_neg (by omega), if_pos (by omega)]
  rw [show (1086 + 4 * i - 1083) % 4 = 3 by omega, show (1086 + 4 * i - 1083) / 4 = i by omega]
theorem cl_119 {i : Nat} (h : i < 400) : cell (1147 + 2 * i) = (119, i) := by
  unfold cell
  rw [if_neg (by omega), if_neg (by omega), if_neg (by omega), if_neg (by omega), if_neg (by omega), if_neg (by omega), if_neg (by omega), if_neg (by omega), if_neg (by omega), if_neg (by omega)]
  rw [show (1147 + 2 * i - 1147) % 2 = 0 by omega, show (1147 + 2 * i - 1147) / 2 = i by omega]
theorem cl_120 {i : Nat} (h : i < 400) : cell (1148 + 2 * i) = (120, i) := by
  unfold cell
  rw [if_neg (by omega), if_neg (by omega), if_neg (by omega), if_neg (by omega), if_neg (by omega), if_neg (by omega), if_neg (by omega), if_neg (by omega), if_neg (by omega), if_neg (by omega)]
  rw [show (1148 + 2 * i - 1147) % 2 = 1 by omega, show (1148 + 2 * i - 1147) / 2 = i by omega]
theorem cl_inv (p i : Nat) (h : inv p i < 5000) : cell (inv p i) = (p, i) := by
  unfold inv at *
  split at h
  · split at h
    · rfl
    · rfl
    · rfl
    · rfl
    · rfl
    · rfl
    · rfl
    · rfl
    · omega
  · split at h
    · next h1 => simp only [h1, if_true]; exact cl_105 h1
    · omega
  · split at h
    · next h1 => simp only [h1, if_true]; exact cl_108 h1
    · omega
  · split at h
    · next h1 => simp only [h1, if_true]; exact cl_109 h1
    · omega
  · split at h
    · next h1 => simp only [h1, if_true]; exact cl_110 h1
    · omega
  · split at h
    · next h1 => simp only [h1, if_true]; exact cl_123 h1
    · omega
  · split at h
    · next h1 => simp only [h1, if_true]; exact cl_132 h1
    · omega
  · split at h
    · next h1 => simp only [h1, if_true]; exact cl_133 h1
    · omega
  · split at h
    · next h1 => simp only [h1, if_true]; exact cl_137 h1
    · omega
  · split at h
    · next h1 => simp only [h1, if_true]; exact cl_129 h1
    · omega
  · split at h
    · next h1 => simp only [h1, if_true]; exact cl_130 h1
    · omega
  · split at h
    · next h1 => simp only [h1, if_true]; exact cl_131 h1
    · omega
  · split at h
    · next h1 => simp only [h1, if_true]; exact cl_138 h1
    · omega
  · split at h
    · next h1 => simp only [h1, if_true]; exact cl_139 h1
    · omega
  · split at h
    · next h1 => simp only [h1, if_true]; exact cl_140 h1
    · omega
  · split at h
    · next h1 => simp only [h1, if_true]; exact cl_141 h1
    · omega
  · split at h
    · next h1 => simp only [h1, if_true]; exact cl_124 h1
    · omega
  · split at h
    · next h1 => simp only [h1, if_true]; exact cl_135 h1
    · omega
  · split at h
    · next h1 => simp only [h1, if_true]; exact cl_122 h1
    · omega
  · split at h
    · next h1 => simp only [h1, if_true]; exact cl_111 h1
    · omega
  · split at h
    · next h1 => simp only [h1, if_true]; exact cl_114 h1
    · omega
  · split at h
    · next h1 => simp only [h1, if_true]; exact cl_115 h1
    · omega
  · split at h
    · next h1 => simp only [h1, if_true]; exact cl_116 h1
    · omega
  · split at h
    · next h1 => simp only [h1, if_true]; exact cl_117 h1
    · omega
  · split at h
    · next h1 => simp only [h1, if_true]; exact cl_118 h1
    · omega
  · split at h
    · next h1 => simp only [h1, if_true]; exact cl_119 h1
    · omega
  · split at h
    · next h1 => simp only [h1, if_true]; exact cl_120 h1
    · omega
  · omega
theorem inv_inj {p i q j : Nat} (h : inv p i < 5000) (e : inv q j = inv p i) : q = p ∧ j = i := by
  have h1 := cl_inv p i h
  have h2 := cl_inv q j (by omega)
  rw [e, h1] at h2
  exact ⟨(congrArg Prod.fst h2).symm, (congrArg Prod.snd h2).symm⟩
/-- k cells are kept (t = 1), or are as they were kept (t = 0) -/
def KI (t : Nat) (M0 : jp_M) (k : Nat) (M : jp_M) : Prop := M 104 64 = nI k ∧ M 104 62 = nI t ∧
  (t = 1 → (∀ p i, inv p i < k → M 143 (inv p i) = M0 p i) ∧ ∀ p i, ¬ p = 143 → ¬ (p = 104 ∧ i = 64) → M p i = M0 p i) ∧
  (t = 0 → (∀ p i, inv p i < k → M p i = M0 143 (inv p i)) ∧ ∀ p i, ¬ inv p i < k → ¬ (p = 104 ∧ i = 64) → M p i = M0 p i)
theorem c_set (M : jp_M) (p i q j : Nat) (v : Int32) : jp_set M p (upd (M p) i v) q j = if q = p ∧ j = i then v else M q j := by
  by_cases h : q = p
  · subst h
    rw [st_same, ud_ap]
    by_cases h' : j = i
    · rw [if_pos h', if_pos ⟨rfl, h'⟩]
    · rw [if_neg h', if_neg (fun e => h' e.2)]
  · rw [st_ne h, if_neg (fun e => h e.1)]
theorem KI_st {t : Nat} (ht : t < 2) {M0 M : jp_M} {k p i : Nat} (h : KI t M0 k M) (hk : k < 2300) (hi : inv p i = k) (hp : ¬ p = 143) (h64 : ¬ (p = 104 ∧ i = 64)) (h62 : ¬ (p = 104 ∧ i = 62)) :
    ∃ v M1, f_M_keeps (M p i) M = some (v, M1) ∧ KI t M0 (k + 1) (jp_set M1 p (upd (M1 p) i v)) := by
  obtain ⟨h1, h2, h3, h4⟩ := h
  have inj : ∀ q j, inv q j = k → q = p ∧ j = i := fun q j e => inv_inj (by omega) (by omega)
  have i143 : ∀ j, inv 143 j = 5000 := fun j => rfl
  have i64 : inv 104 64 = 5000 := rfl
  have ht' : t = 0 ∨ t = 1 := by omega
  rcases ht' with rfl | rfl
  · obtain ⟨h5, h6⟩ := h4 rfl
    have hx143 : M 143 k = M0 143 k := h6 143 k (by rw [i143]; omega) (by omega)
    refine ⟨M 143 k, jp_set M 104 (upd (M 104) 64 (nI (k + 1))), ?_, ?_, ?_, fun h => by omega, fun _ => ⟨?_, ?_⟩⟩
    · simp (disch := omega) only [f_M_keeps, jp_c, decide_eq_true_eq, n_lit, n_add, n_sub, n_in, n_cl, Nat.reduceEqDiff, Nat.reduceAdd, Nat.reduceMul, ite_true, ite_false, if_true, if_false, eq_self_iff_true, ↓reduceIte, and_self, and_true, true_and, and_false, false_and, not_true_eq_false, not_false_eq_true, if_pos, if_neg, h1, h2, st_ap, ud_ap, Nat.add_sub_cancel, jg_t]
    · rw [c_set, if_neg (fun e => h64 ⟨e.1.symm, e.2.symm⟩), c_set, if_pos ⟨rfl, rfl⟩]
    · rw [c_set, if_neg (fun e => h62 ⟨e.1.symm, e.2.symm⟩), c_set, if_neg (by decide), h2]
    · intro q j hq
      rw [c_set]
      by_cases hqp : q = p ∧ j = i
      · obtain ⟨rfl, rfl⟩ := hqp
        rw [if_pos ⟨rfl, rfl⟩, hi, hx143]
      · have hlt : inv q j < k := by
          have : ¬ inv q j = k := fun e => hqp (inj q j e)
          omega
        rw [if_neg hqp, c_set, if_neg (fun e => by rw [e.1, e.2, i64] at hq; omega)]
        exact h5 q j hlt
    · intro q j hq h64'
      rw [c_set, if_neg (fun e => hq (by rw [e.1, e.2, hi]; omega)), c_set, if_neg h64']
      exact h6 q j (by omega) h64'
  · obtain ⟨h5, h6⟩ := h3 rfl
    refine ⟨M p i, jp_set (jp_set M 104 (upd (M 104) 64 (nI (k + 1)))) 143 (upd (jp_set M 104 (upd (M 104) 64 (nI (k + 1))) 143) k (M p i)), ?_, ?_, ?_, fun _ => ⟨?_, ?_⟩, fun h => by omega⟩
    · simp (disch := omega) only [f_M_keeps, jp_c, decide_eq_true_eq, n_lit, n_add, n_sub, n_eq, n_in, n_cl, Nat.reduceEqDiff, Nat.reduceAdd, Nat.reduceMul, ite_true, ite_false, if_true, if_false, eq_self_iff_true, ↓reduceIte, and_self, and_true, true_and, and_false, false_and, not_true_eq_false, not_false_eq_true, if_pos, if_neg, h1, h2, st_ap, ud_ap, Nat.add_sub_cancel, jg_t]
    · rw [c_set, if_neg (fun e => h64 ⟨e.1.symm, e.2.symm⟩), c_set, if_neg (by omega), c_set, if_pos ⟨rfl, rfl⟩]
    · rw [c_set, if_neg (fun e => h62 ⟨e.1.symm, e.2.symm⟩), c_set, if_neg (by omega), c_set, if_neg (by decide), h2]
    · intro q j hq
      rw [c_set, if_neg (fun e => hp e.1.symm), c_set]
      by_cases hqp : inv q j = k
      · obtain ⟨rfl, rfl⟩ := inj q j hqp
        rw [if_pos ⟨rfl, hqp⟩]
        exact h6 q j hp h64
      · rw [if_neg (fun e => hqp e.2), c_set, if_neg (by omega)]
        exact h5 q j (by omega)
    · intro q j hq h64'
      rw [c_set]
      by_cases hqp : q = p ∧ j = i
      · obtain ⟨rfl, rfl⟩ := hqp
        rw [if_pos ⟨rfl, rfl⟩]
        exact h6 q j hp h64
      · rw [if_neg hqp, c_set, if_neg (fun e => hq e.1), c_set, if_neg h64']
        exact h6 q j hq h64'
theorem l_im35 {t : Nat} (ht : t < 2) {M0 : jp_M} (a : Int32) : ∀ d i, i + d = 184 → ∀ n, d < n → ∀ M, KI t M0 (0 + i) M → ∃ M', f_M_image_35 n a (nI i) M = ((f_M_keepsMany M').bind fun q1 => (f_M_keepsTold q1).bind fun q2 => f_M_image_74 jFu a (nI 0) q2) ∧ KI t M0 (0 + 184) M' := by
  intro d
  induction d with
  | zero =>
    intro i hi n hn M hM
    obtain ⟨n, rfl⟩ : ∃ k, n = k + 1 := ⟨n - 1, by omega⟩
    obtain rfl : i = 184 := by omega
    refine ⟨M, ?_, hM⟩
    simp (disch := omega) only [f_M_image_35, jp_c, decide_eq_true_eq, n_lit, n_le, Nat.reduceEqDiff, Nat.reduceAdd, Nat.reduceMul, ite_true, ite_false, if_true, if_false, eq_self_iff_true, ↓reduceIte, and_self, and_true, true_and, and_false, false_and, not_true_eq_false, not_false_eq_true, if_pos, if_neg]
  | succ d ih =>
    intro i hi n hn M hM
    obtain ⟨n, rfl⟩ : ∃ k, n = k + 1 := ⟨n - 1, by omega⟩
    obtain ⟨v, M1, k1, k2⟩ := KI_st ht (p := 105) (i := i) hM (by omega) (by show (if i < 184 then i else 5000) = _; rw [if_pos (by omega)]; omega) (by decide) (by omega) (by omega)
    obtain ⟨M', e1, e2⟩ := ih (i + 1) (by omega) n (by omega) _ (by rw [show 0 + (i + 1) = 0 + i + 1 by omega]; exact k2)
    refine ⟨M', ?_, e2⟩
    rw [← e1]
    simp (disch := omega) only [f_M_image_35, jp_c, decide_eq_true_eq, n_lit, n_add, n_le, n_in, n_cl, Nat.reduceEqDiff, Nat.reduceAdd, Nat.reduceMul, ite_true, ite_false, if_true, if_false, eq_self_iff_true, ↓reduceIte, and_self, and_true, true_and, and_false, false_and, not_true_eq_false, not_false_eq_true, if_pos, if_neg, jg_t, k1, Option.bind_some]
theorem l_kt254 {t : Nat} (ht : t < 2) {M0 : jp_M} : ∀ d i, i + d = 16 → ∀ n, d < n → ∀ M, KI t M0 (318 + i) M → ∃ M', f_M_keepsTold_254 n (nI i) M = f_M_keepsTold_284 jFu (nI 0) M' ∧ KI t M0 (318 + 16) M' := by
  intro d
  induction d with
  | zero =>
    intro i hi n hn M hM
    obtain ⟨n, rfl⟩ : ∃ k, n = k + 1 := ⟨n - 1, by omega⟩
    obtain rfl : i = 16 := by omega
    refine ⟨M, ?_, hM⟩
    simp (disch := omega) only [f_M_keepsTold_254, jp_c, decide_eq_true_eq, n_lit, n_le, Nat.reduceEqDiff, Nat.reduceAdd, Nat.reduceMul, ite_true, ite_false, if_true, if_false, eq_self_iff_true, ↓reduceIte, and_self, and_true, true_and, and_false, false_and, not_true_eq_false, not_false_eq_true, if_pos, if_neg]
  | succ d ih =>
    intro i hi n hn M hM
    obtain ⟨n, rfl⟩ : ∃ k, n = k + 1 := ⟨n - 1, by omega⟩
    obtain ⟨v, M1, k1, k2⟩ := KI_st ht (p := 124) (i := i) hM (by omega) (by show (if i < 16 then 318 + i else 5000) = _; rw [if_pos (by omega)]) (by decide) (by omega) (by omega)
    obtain ⟨M', e1, e2⟩ := ih (i + 1) (by omega) n (by omega) _ (by rw [show 318 + (i + 1) = 318 + i + 1 by omega]; exact k2)
    refine ⟨M', ?_, e2⟩
    rw [← e1]
    simp (disch := omega) only [f_M_keepsTold_254, jp_c, decide_eq_true_eq, n_lit, n_add, n_le, n_in, n_cl, Nat.reduceEqDiff, Nat.reduceAdd, Nat.reduceMul, ite_true, ite_false, if_true, if_false, eq_self_iff_true, ↓reduceIte, and_self, and_true, true_and, and_false, false_and, not_true_eq_false, not_false_eq_true, if_pos, if_neg, jg_t, k1, Option.bind_some]
theorem l_kt284 {t : Nat} (ht : t < 2) {M0 : jp_M} : ∀ d i, i + d = 36 → ∀ n, d < n → ∀ M, KI t M0 (334 + i) M → ∃ M', f_M_keepsTold_284 n (nI i) M = f_M_keepsTold_314 jFu (nI 0) M' ∧ KI t M0 (334 + 36) M' := by
  intro d
  induction d with
  | zero =>
    intro i hi n hn M hM
    obtain ⟨n, rfl⟩ : ∃ k, n = k + 1 := ⟨n - 1, by omega⟩
    obtain rfl : i = 36 := by omega
    refine ⟨M, ?_, hM⟩
    simp (disch := omega) only [f_M_keepsTold_284, jp_c, decide_eq_true_eq, n_lit, n_le, Nat.reduceEqDiff, Nat.reduceAdd, Nat.reduceMul, ite_true, ite_false, if_true, if_false, eq_self_iff_true, ↓reduceIte, and_self, and_true, true_and, and_false, false_and, not_true_eq_false, not_false_eq_true, if_pos, if_neg]
  | succ d ih =>
    intro i hi n hn M hM
    obtain ⟨n, rfl⟩ : ∃ k, n = k + 1 := ⟨n - 1, by omega⟩
    obtain ⟨v, M1, k1, k2⟩ := KI_st ht (p := 135) (i := i) hM (by omega) (by show (if i < 36 then 334 + i else 5000) = _; rw [if_pos (by omega)]) (by decide) (by omega) (by omega)
    obtain ⟨M', e1, e2⟩ := ih (i + 1) (by omega) n (by omega) _ (by rw [show 334 + (i + 1) = 334 + i + 1 by omega]; exact k2)
    refine ⟨M', ?_, e2⟩
    rw [← e1]
    simp (disch := omega) only [f_M_keepsTold_284, jp_c, decide_eq_true_eq, n_lit, n_add, n_le, n_in, n_cl, Nat.reduceEqDiff, Nat.reduceAdd, Nat.reduceMul, ite_true, ite_false, if_true, if_false, eq_self_iff_true, ↓reduceIte, and_self, and_true, true_and, and_false, false_and, not_true_eq_false, not_false_eq_true, if_pos, if_neg, jg_t, k1, Option.bind_some]
theorem l_kt314 {t : Nat} (ht : t < 2) {M0 : jp_M} : ∀ d i, i + d = 112 → ∀ n, d < n → ∀ M, KI t M0 (370 + i) M → ∃ M', f_M_keepsTold_314 n (nI i) M = some M' ∧ KI t M0 (370 + 112) M' := by
  intro d
  induction d with
  | zero =>
    intro i hi n hn M hM
    obtain ⟨n, rfl⟩ : ∃ k, n = k + 1 := ⟨n - 1, by omega⟩
    obtain rfl : i = 112 := by omega
    refine ⟨M, ?_, hM⟩
    simp (disch := omega) only [f_M_keepsTold_314, jp_c, decide_eq_true_eq, n_lit, n_le, Nat.reduceEqDiff, Nat.reduceAdd, Nat.reduceMul, ite_true, ite_false, if_true, if_false, eq_self_iff_true, ↓reduceIte, and_self, and_true, true_and, and_false, false_and, not_true_eq_false, not_false_eq_true, if_pos, if_neg]
  | succ d ih =>
    intro i hi n hn M hM
    obtain ⟨n, rfl⟩ : ∃ k, n = k + 1 := ⟨n - 1, by omega⟩
    obtain ⟨v, M1, k1, k2⟩ := KI_st ht (p := 122) (i := i) hM (by omega) (by show (if i < 112 then 370 + i else 5000) = _; rw [if_pos (by omega)]) (by decide) (by omega) (by omega)
    obtain ⟨M', e1, e2⟩ := ih (i + 1) (by omega) n (by omega) _ (by rw [show 370 + (i + 1) = 370 + i + 1 by omega]; exact k2)
    refine ⟨M', ?_, e2⟩
    rw [← e1]
    simp (disch := omega) only [f_M_keepsTold_314, jp_c, decide_eq_true_eq, n_lit, n_add, n_le, n_in, n_cl, Nat.reduceEqDiff, Nat.reduceAdd, Nat.reduceMul, ite_true, ite_false, if_true, if_false, eq_self_iff_true, ↓reduceIte, and_self, and_true, true_and, and_false, false_and, not_true_eq_false, not_false_eq_true, if_pos, if_neg, jg_t, k1, Option.bind_some]
theorem l_im74 {t : Nat} (ht : t < 2) {M0 : jp_M} (a : Int32) : ∀ d i, i + d = 600 → ∀ n, d < n → ∀ M, KI t M0 (482 + i) M → ∃ M', f_M_image_74 n a (nI i) M = ((f_M_keepsLaw M').bind fun q1 => (if a = nI 0 then some (nI 1, jp_set q1 104 (upd (q1 104) 3 (nI 0))) else some (nI 1, q1))) ∧ KI t M0 (482 + 600) M' := by
  intro d
  induction d with
  | zero =>
    intro i hi n hn M hM
    obtain ⟨n, rfl⟩ : ∃ k, n = k + 1 := ⟨n - 1, by omega⟩
    obtain rfl : i = 600 := by omega
    refine ⟨M, ?_, hM⟩
    by_cases hz : a = nI 0 <;> simp (disch := omega) only [f_M_image_74, jp_c, decide_eq_true_eq, n_lit, n_le, Nat.reduceEqDiff, Nat.reduceAdd, Nat.reduceMul, ite_true, ite_false, if_true, if_false, eq_self_iff_true, ↓reduceIte, and_self, and_true, true_and, and_false, false_and, not_true_eq_false, not_false_eq_true, if_pos, if_neg, hz]
  | succ d ih =>
    intro i hi n hn M hM
    obtain ⟨n, rfl⟩ : ∃ k, n = k + 1 := ⟨n - 1, by omega⟩
    obtain ⟨v, M1, k1, k2⟩ := KI_st ht (p := 111) (i := i) hM (by omega) (by show (if i < 600 then 482 + i else 5000) = _; rw [if_pos (by omega)]) (by decide) (by omega) (by omega)
    obtain ⟨M', e1, e2⟩ := ih (i + 1) (by omega) n (by omega) _ (by rw [show 482 + (i + 1) = 482 + i + 1 by omega]; exact k2)
    refine ⟨M', ?_, e2⟩
    rw [← e1]
    simp (disch := omega) only [f_M_image_74, jp_c, decide_eq_true_eq, n_lit, n_add, n_le, n_in, n_cl, Nat.reduceEqDiff, Nat.reduceAdd, Nat.reduceMul, ite_true, ite_false, if_true, if_false, eq_self_iff_true, ↓reduceIte, and_self, and_true, true_and, and_false, false_and, not_true_eq_false, not_false_eq_true, if_pos, if_neg, jg_t, k1, Option.bind_some]
theorem l_kt2 {t : Nat} (ht : t < 2) {M0 : jp_M} : ∀ d i, i + d = 10 → ∀ n, d < n → ∀ M, KI t M0 (192 + 7 * i) M → ∃ M', f_M_keepsTold_2 n (nI i) M = f_M_keepsTold_128 jFu (nI 0) M' ∧ KI t M0 (192 + 7 * 10) M' := by
  intro d
  induction d with
  | zero =>
    intro i hi n hn M hM
    obtain ⟨n, rfl⟩ : ∃ k, n = k + 1 := ⟨n - 1, by omega⟩
    obtain rfl : i = 10 := by omega
    refine ⟨M, ?_, hM⟩
    simp (disch := omega) only [f_M_keepsTold_2, jp_c, decide_eq_true_eq, n_lit, n_le, Nat.reduceEqDiff, Nat.reduceAdd, Nat.reduceMul, ite_true, ite_false, if_true, if_false, eq_self_iff_true, ↓reduceIte, and_self, and_true, true_and, and_false, false_and, not_true_eq_false, not_false_eq_true, if_pos, if_neg]
  | succ d ih =>
    intro i hi n hn M hM
    obtain ⟨n, rfl⟩ : ∃ k, n = k + 1 := ⟨n - 1, by omega⟩
    obtain ⟨v0, M0, k01, k02⟩ := KI_st ht (p := 108) (i := i) hM (by omega) (by show (if i < 10 then 192 + 7 * i else 5000) = _; rw [if_pos (by omega)]) (by decide) (by omega) (by omega)
    obtain ⟨v1, M1, k11, k12⟩ := KI_st ht (p := 109) (i := i) k02 (by omega) (by show (if i < 10 then 193 + 7 * i else 5000) = _; rw [if_pos (by omega)]; omega) (by decide) (by omega) (by omega)
    obtain ⟨v2, M2, k21, k22⟩ := KI_st ht (p := 110) (i := i) k12 (by omega) (by show (if i < 10 then 194 + 7 * i else 5000) = _; rw [if_pos (by omega)]; omega) (by decide) (by omega) (by omega)
    obtain ⟨v3, M3, k31, k32⟩ := KI_st ht (p := 123) (i := i) k22 (by omega) (by show (if i < 10 then 195 + 7 * i else 5000) = _; rw [if_pos (by omega)]; omega) (by decide) (by omega) (by omega)
    obtain ⟨v4, M4, k41, k42⟩ := KI_st ht (p := 132) (i := i) k32 (by omega) (by show (if i < 10 then 196 + 7 * i else 5000) = _; rw [if_pos (by omega)]; omega) (by decide) (by omega) (by omega)
    obtain ⟨v5, M5, k51, k52⟩ := KI_st ht (p := 133) (i := i) k42 (by omega) (by show (if i < 10 then 197 + 7 * i else 5000) = _; rw [if_pos (by omega)]; omega) (by decide) (by omega) (by omega)
    obtain ⟨v6, M6, k61, k62⟩ := KI_st ht (p := 137) (i := i) k52 (by omega) (by show (if i < 10 then 198 + 7 * i else 5000) = _; rw [if_pos (by omega)]; omega) (by decide) (by omega) (by omega)
    obtain ⟨M', e1, e2⟩ := ih (i + 1) (by omega) n (by omega) _ (by rw [show 192 + 7 * (i + 1) = 192 + 7 * i + 1 + 1 + 1 + 1 + 1 + 1 + 1 by omega]; exact k62)
    refine ⟨M', ?_, e2⟩
    rw [← e1]
    simp (disch := omega) only [f_M_keepsTold_2, jp_c, decide_eq_true_eq, n_lit, n_add, n_le, n_in, n_cl, Nat.reduceEqDiff, Nat.reduceAdd, Nat.reduceMul, ite_true, ite_false, if_true, if_false, eq_self_iff_true, ↓reduceIte, and_self, and_true, true_and, and_false, false_and, not_true_eq_false, not_false_eq_true, if_pos, if_neg, jg_t, k01, k11, k21, k31, k41, k51, k61, Option.bind_some]
theorem l_kt128 {t : Nat} (ht : t < 2) {M0 : jp_M} : ∀ d i, i + d = 8 → ∀ n, d < n → ∀ M, KI t M0 (262 + 7 * i) M → ∃ M', f_M_keepsTold_128 n (nI i) M = f_M_keepsTold_254 jFu (nI 0) M' ∧ KI t M0 (262 + 7 * 8) M' := by
  intro d
  induction d with
  | zero =>
    intro i hi n hn M hM
    obtain ⟨n, rfl⟩ : ∃ k, n = k + 1 := ⟨n - 1, by omega⟩
    obtain rfl : i = 8 := by omega
    refine ⟨M, ?_, hM⟩
    simp (disch := omega) only [f_M_keepsTold_128, jp_c, decide_eq_true_eq, n_lit, n_le, Nat.reduceEqDiff, Nat.reduceAdd, Nat.reduceMul, ite_true, ite_false, if_true, if_false, eq_self_iff_true, ↓reduceIte, and_self, and_true, true_and, and_false, false_and, not_true_eq_false, not_false_eq_true, if_pos, if_neg]
  | succ d ih =>
    intro i hi n hn M hM
    obtain ⟨n, rfl⟩ : ∃ k, n = k + 1 := ⟨n - 1, by omega⟩
    obtain ⟨v0, M0, k01, k02⟩ := KI_st ht (p := 129) (i := i) hM (by omega) (by show (if i < 8 then 262 + 7 * i else 5000) = _; rw [if_pos (by omega)]) (by decide) (by omega) (by omega)
    obtain ⟨v1, M1, k11, k12⟩ := KI_st ht (p := 130) (i := i) k02 (by omega) (by show (if i < 8 then 263 + 7 * i else 5000) = _; rw [if_pos (by omega)]; omega) (by decide) (by omega) (by omega)
    obtain ⟨v2, M2, k21, k22⟩ := KI_st ht (p := 131) (i := i) k12 (by omega) (by show (if i < 8 then 264 + 7 * i else 5000) = _; rw [if_pos (by omega)]; omega) (by decide) (by omega) (by omega)
    obtain ⟨v3, M3, k31, k32⟩ := KI_st ht (p := 138) (i := i) k22 (by omega) (by show (if i < 8 then 265 + 7 * i else 5000) = _; rw [if_pos (by omega)]; omega) (by decide) (by omega) (by omega)
    obtain ⟨v4, M4, k41, k42⟩ := KI_st ht (p := 139) (i := i) k32 (by omega) (by show (if i < 8 then 266 + 7 * i else 5000) = _; rw [if_pos (by omega)]; omega) (by decide) (by omega) (by omega)
    obtain ⟨v5, M5, k51, k52⟩ := KI_st ht (p := 140) (i := i) k42 (by omega) (by show (if i < 8 then 267 + 7 * i else 5000) = _; rw [if_pos (by omega)]; omega) (by decide) (by omega) (by omega)
    obtain ⟨v6, M6, k61, k62⟩ := KI_st ht (p := 141) (i := i) k52 (by omega) (by show (if i < 8 then 268 + 7 * i else 5000) = _; rw [if_pos (by omega)]; omega) (by decide) (by omega) (by omega)
    obtain ⟨M', e1, e2⟩ := ih (i + 1) (by omega) n (by omega) _ (by rw [show 262 + 7 * (i + 1) = 262 + 7 * i + 1 + 1 + 1 + 1 + 1 + 1 + 1 by omega]; exact k62)
    refine ⟨M', ?_, e2⟩
    rw [← e1]
    simp (disch := omega) only [f_M_keepsTold_128, jp_c, decide_eq_true_eq, n_lit, n_add, n_le, n_in, n_cl, Nat.reduceEqDiff, Nat.reduceAdd, Nat.reduceMul, ite_true, ite_false, if_true, if_false, eq_self_iff_true, ↓reduceIte, and_self, and_true, true_and, and_false, false_and, not_true_eq_false, not_false_eq_true, if_pos, if_neg, jg_t, k01, k11, k21, k31, k41, k51, k61, Option.bind_some]
theorem l_kl18 {t : Nat} (ht : t < 2) {M0 : jp_M} : ∀ d i, i + d = 16 → ∀ n, d < n → ∀ M, KI t M0 (1083 + 4 * i) M → ∃ M', f_M_keepsLaw_18 n (nI i) M = f_M_keepsLaw_96 jFu (nI 0) M' ∧ KI t M0 (1083 + 4 * 16) M' := by
  intro d
  induction d with
  | zero =>
    intro i hi n hn M hM
    obtain ⟨n, rfl⟩ : ∃ k, n = k + 1 := ⟨n - 1, by omega⟩
    obtain rfl : i = 16 := by omega
    refine ⟨M, ?_, hM⟩
    simp (disch := omega) only [f_M_keepsLaw_18, jp_c, decide_eq_true_eq, n_lit, n_le, Nat.reduceEqDiff, Nat.reduceAdd, Nat.reduceMul, ite_true, ite_false, if_true, if_false, eq_self_iff_true, ↓reduceIte, and_self, and_true, true_and, and_false, false_and, not_true_eq_false, not_false_eq_true, if_pos, if_neg]
  | succ d ih =>
    intro i hi n hn M hM
    obtain ⟨n, rfl⟩ : ∃ k, n = k + 1 := ⟨n - 1, by omega⟩
    obtain ⟨v0, M0, k01, k02⟩ := KI_st ht (p := 115) (i := i) hM (by omega) (by show (if i < 16 then 1083 + 4 * i else 5000) = _; rw [if_pos (by omega)]) (by decide) (by omega) (by omega)
    obtain ⟨v1, M1, k11, k12⟩ := KI_st ht (p := 116) (i := i) k02 (by omega) (by show (if i < 16 then 1084 + 4 * i else 5000) = _; rw [if_pos (by omega)]; omega) (by decide) (by omega) (by omega)
    obtain ⟨v2, M2, k21, k22⟩ := KI_st ht (p := 117) (i := i) k12 (by omega) (by show (if i < 16 then 1085 + 4 * i else 5000) = _; rw [if_pos (by omega)]; omega) (by decide) (by omega) (by omega)
    obtain ⟨v3, M3, k31, k32⟩ := KI_st ht (p := 118) (i := i) k22 (by omega) (by show (if i < 16 then 1086 + 4 * i else 5000) = _; rw [if_pos (by omega)]; omega) (by decide) (by omega) (by omega)
    obtain ⟨M', e1, e2⟩ := ih (i + 1) (by omega) n (by omega) _ (by rw [show 1083 + 4 * (i + 1) = 1083 + 4 * i + 1 + 1 + 1 + 1 by omega]; exact k32)
    refine ⟨M', ?_, e2⟩
    rw [← e1]
    simp (disch := omega) only [f_M_keepsLaw_18, jp_c, decide_eq_true_eq, n_lit, n_add, n_le, n_in, n_cl, Nat.reduceEqDiff, Nat.reduceAdd, Nat.reduceMul, ite_true, ite_false, if_true, if_false, eq_self_iff_true, ↓reduceIte, and_self, and_true, true_and, and_false, false_and, not_true_eq_false, not_false_eq_true, if_pos, if_neg, jg_t, k01, k11, k21, k31, Option.bind_some]
theorem l_kl96 {t : Nat} (ht : t < 2) {M0 : jp_M} : ∀ d i, i + d = 400 → ∀ n, d < n → ∀ M, KI t M0 (1147 + 2 * i) M → ∃ M', f_M_keepsLaw_96 n (nI i) M = some M' ∧ KI t M0 (1147 + 2 * 400) M' := by
  intro d
  induction d with
  | zero =>
    intro i hi n hn M hM
    obtain ⟨n, rfl⟩ : ∃ k, n = k + 1 := ⟨n - 1, by omega⟩
    obtain rfl : i = 400 := by omega
    refine ⟨M, ?_, hM⟩
    simp (disch := omega) only [f_M_keepsLaw_96, jp_c, decide_eq_true_eq, n_lit, n_le, Nat.reduceEqDiff, Nat.reduceAdd, Nat.reduceMul, ite_true, ite_false, if_true, if_false, eq_self_iff_true, ↓reduceIte, and_self, and_true, true_and, and_false, false_and, not_true_eq_false, not_false_eq_true, if_pos, if_neg]
  | succ d ih =>
    intro i hi n hn M hM
    obtain ⟨n, rfl⟩ : ∃ k, n = k + 1 := ⟨n - 1, by omega⟩
    obtain ⟨v0, M0, k01, k02⟩ := KI_st ht (p := 119) (i := i) hM (by omega) (by show (if i < 400 then 1147 + 2 * i else 5000) = _; rw [if_pos (by omega)]) (by decide) (by omega) (by omega)
    obtain ⟨v1, M1, k11, k12⟩ := KI_st ht (p := 120) (i := i) k02 (by omega) (by show (if i < 400 then 1148 + 2 * i else 5000) = _; rw [if_pos (by omega)]; omega) (by decide) (by omega) (by omega)
    obtain ⟨M', e1, e2⟩ := ih (i + 1) (by omega) n (by omega) _ (by rw [show 1147 + 2 * (i + 1) = 1147 + 2 * i + 1 + 1 by omega]; exact k12)
    refine ⟨M', ?_, e2⟩
    rw [← e1]
    simp (disch := omega) only [f_M_keepsLaw_96, jp_c, decide_eq_true_eq, n_lit, n_add, n_le, n_in, n_cl, Nat.reduceEqDiff, Nat.reduceAdd, Nat.reduceMul, ite_true, ite_false, if_true, if_false, eq_self_iff_true, ↓reduceIte, and_self, and_true, true_and, and_false, false_and, not_true_eq_false, not_false_eq_true, if_pos, if_neg, jg_t, k01, k11, Option.bind_some]
theorem l_km {t : Nat} (ht : t < 2) {M0 M : jp_M} (hM : KI t M0 184 M) : ∃ M', f_M_keepsMany M = some M' ∧ KI t M0 192 M' := by
  obtain ⟨v0, M0, k01, k02⟩ := KI_st ht (p := 104) (i := 6) hM (by omega) rfl (by decide) (by decide) (by decide)
  obtain ⟨v1, M1, k11, k12⟩ := KI_st ht (p := 104) (i := 7) k02 (by omega) rfl (by decide) (by decide) (by decide)
  obtain ⟨v2, M2, k21, k22⟩ := KI_st ht (p := 104) (i := 35) k12 (by omega) rfl (by decide) (by decide) (by decide)
  obtain ⟨v3, M3, k31, k32⟩ := KI_st ht (p := 104) (i := 37) k22 (by omega) rfl (by decide) (by decide) (by decide)
  obtain ⟨v4, M4, k41, k42⟩ := KI_st ht (p := 104) (i := 39) k32 (by omega) rfl (by decide) (by decide) (by decide)
  obtain ⟨v5, M5, k51, k52⟩ := KI_st ht (p := 104) (i := 45) k42 (by omega) rfl (by decide) (by decide) (by decide)
  obtain ⟨v6, M6, k61, k62⟩ := KI_st ht (p := 104) (i := 49) k52 (by omega) rfl (by decide) (by decide) (by decide)
  obtain ⟨v7, M7, k71, k72⟩ := KI_st ht (p := 104) (i := 56) k62 (by omega) rfl (by decide) (by decide) (by decide)
  refine ⟨_, ?_, k72⟩
  simp only [f_M_keepsMany, k01, k11, k21, k31, k41, k51, k61, k71, Option.bind_some]
theorem l_kt {t : Nat} (ht : t < 2) {M0 M : jp_M} (hM : KI t M0 192 M) : ∃ M', f_M_keepsTold M = some M' ∧ KI t M0 482 M' := by
  obtain ⟨M1, a1, a2⟩ := l_kt2 ht 10 0 (by omega) jFu (jFu_lt (by omega)) M hM
  obtain ⟨M2, b1, b2⟩ := l_kt128 ht 8 0 (by omega) jFu (jFu_lt (by omega)) M1 a2
  obtain ⟨M3, c1, c2⟩ := l_kt254 ht 16 0 (by omega) jFu (jFu_lt (by omega)) M2 b2
  obtain ⟨M4, d1, d2⟩ := l_kt284 ht 36 0 (by omega) jFu (jFu_lt (by omega)) M3 c2
  obtain ⟨M5, e1, e2⟩ := l_kt314 ht 112 0 (by omega) jFu (jFu_lt (by omega)) M4 d2
  refine ⟨M5, ?_, e2⟩
  have : f_M_keepsTold M = f_M_keepsTold_2 jFu (nI 0) M := rfl
  rw [this, a1, b1, c1, d1, e1]
theorem l_kl {t : Nat} (ht : t < 2) {M0 M : jp_M} (hM : KI t M0 1082 M) : ∃ M', f_M_keepsLaw M = some M' ∧ KI t M0 1947 M' := by
  obtain ⟨v, M1, k1, k2⟩ := KI_st ht (p := 114) (i := 0) hM (by omega) rfl (by decide) (by decide) (by decide)
  obtain ⟨M2, a1, a2⟩ := l_kl18 ht 16 0 (by omega) jFu (jFu_lt (by omega)) _ k2
  obtain ⟨M3, b1, b2⟩ := l_kl96 ht 400 0 (by omega) jFu (jFu_lt (by omega)) M2 a2
  refine ⟨M3, ?_, b2⟩
  rw [f_M_keepsLaw, k1, Option.bind_some]
  have : f_M_keepsLaw_18 jFu (0 : Int32) (jp_set M1 114 (upd (M1 114) 0 v)) = f_M_keepsLaw_18 jFu (nI 0) (jp_set M1 114 (upd (M1 114) 0 v)) := rfl
  rw [this, a1, b1]
/-- the reference keeps all, or has it again -/
theorem p_keeps {t : Nat} (ht : t < 2) (M : jp_M) : ∃ M', f_M_image_18 (nI t) M = some (nI 1, if t = 0 then jp_set M' 104 (upd (M' 104) 3 (nI 0)) else M') ∧ KI t (jp_set M 104 (upd (upd (upd (M 104) 62 (nI t)) 63 (nI 1)) 64 (nI 0))) 1947 M' := by
  have h0 : KI t (jp_set M 104 (upd (upd (upd (M 104) 62 (nI t)) 63 (nI 1)) 64 (nI 0))) (0 + 0) (jp_set M 104 (upd (upd (upd (M 104) 62 (nI t)) 63 (nI 1)) 64 (nI 0))) := by
    refine ⟨by rw [st_same, ud_eq rfl], by rw [st_same, ud_ne (by decide), ud_ne (by decide), ud_eq rfl], fun _ => ⟨fun p i h => by omega, fun _ _ _ _ => rfl⟩, fun _ => ⟨fun p i h => by omega, fun _ _ _ _ => rfl⟩⟩
  obtain ⟨M1, a1, a2⟩ := l_im35 ht (nI t) 184 0 (by omega) jFu (jFu_lt (by omega)) _ h0
  obtain ⟨M2, b1, b2⟩ := l_km ht a2
  obtain ⟨M3, c1, c2⟩ := l_kt ht b2
  obtain ⟨M4, d1, d2⟩ := l_im74 ht (nI t) 600 0 (by omega) jFu (jFu_lt (by omega)) M3 c2
  obtain ⟨M5, e1, e2⟩ := l_kl ht d2
  refine ⟨M5, ?_, e2⟩
  have e : f_M_image_18 (nI t) M = f_M_image_35 jFu (nI t) (nI 0) (jp_set M 104 (upd (upd (upd (M 104) 62 (nI t)) 63 (nI 1)) 64 (nI 0))) := by
    have ht' : t = 0 ∨ t = 1 := by omega
    have hor : nI t = nI 0 ∨ nI t = nI 1 := by
      rcases ht' with rfl | rfl
      · exact Or.inl rfl
      · exact Or.inr rfl
    simp only [f_M_image_18, n_lit, st_st, st_ap, ↓reduceIte, jg_t hor]
  rw [e, a1, b1, Option.bind_some, c1, Option.bind_some, d1, e1, Option.bind_some]
  have ht' : t = 0 ∨ t = 1 := by omega
  rcases ht' with rfl | rfl
  · simp (disch := omega) only [jp_c, decide_eq_true_eq, n_eq, Nat.reduceEqDiff, Nat.reduceAdd, Nat.reduceMul, ite_true, ite_false, if_true, if_false, eq_self_iff_true, ↓reduceIte, and_self, and_true, true_and, and_false, false_and, not_true_eq_false, not_false_eq_true, if_pos, if_neg]
  · simp (disch := omega) only [jp_c, decide_eq_true_eq, n_eq, Nat.reduceEqDiff, Nat.reduceAdd, Nat.reduceMul, ite_true, ite_false, if_true, if_false, eq_self_iff_true, ↓reduceIte, and_self, and_true, true_and, and_false, false_and, not_true_eq_false, not_false_eq_true, if_pos, if_neg]
