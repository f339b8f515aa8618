/-- the ball's way -/
def bl : Nat → Int32 → Int32 → Int32 → Int32 → Int32 → Option (Int32 × Int32)
  | 0, _, _, _, _, _ => none
  | n + 1, g, t, r, m, d => if t ≤ 0 then some (m, d) else bl n g (t + (r - g)) (r - g) (jp_max m (t + (r - g))) (d + 1)
theorem bl_C (g w : Int32) : ∀ k t r m d x y, bl k g t r m d = some (x, y) → ∀ n c, k ≤ n → c + k ≤ 100 → f_C_ball_47 n g w t m r d (nI c) = some (if w = 0 then x else y) := by
  intro k
  induction k with
  | zero => intro t r m d x y h; exact absurd h (by simp [bl])
  | succ k ih =>
    intro t r m d x y h n c hn hc
    obtain ⟨n, rfl⟩ : ∃ k, n = k + 1 := ⟨n - 1, by omega⟩
    rw [bl] at h
    by_cases h0 : t ≤ 0
    · rw [if_pos h0] at h
      obtain ⟨rfl, rfl⟩ := Prod.mk.inj (Option.some.inj h)
      simp only [f_C_ball_47, f_C_ball_90, jp_c, decide_eq_true_eq, h0, if_true]
      split <;> split <;> simp_all
    · rw [if_neg h0] at h
      have := ih _ _ _ _ _ _ h n (c + 1) (by omega) (by omega)
      have hc' : ¬ (100 : Int32) ≤ nI c := by rw [n_lit, n_le (by omega) (by omega)]; omega
      simp only [f_C_ball_47, jp_c, decide_eq_true_eq, h0, hc', if_false, ↓reduceIte]
      rw [show nI c + 1 = nI (c + 1) from n_add c 1]
      exact this
theorem bl_M (g w : Int32) (M : jp_M) : ∀ k t r m d x y, bl k g t r m d = some (x, y) → ∀ n, k ≤ n → f_M_ball_51 n g w t r m d M = some (if w = 0 then x else y, M) := by
  intro k
  induction k with
  | zero => intro t r m d x y h; exact absurd h (by simp [bl])
  | succ k ih =>
    intro t r m d x y h n hn
    obtain ⟨n, rfl⟩ : ∃ k, n = k + 1 := ⟨n - 1, by omega⟩
    rw [bl] at h
    by_cases h0 : t ≤ 0
    · rw [if_pos h0] at h
      obtain ⟨rfl, rfl⟩ := Prod.mk.inj (Option.some.inj h)
      simp only [f_M_ball_51, jp_c, decide_eq_true_eq, h0, if_true]
      by_cases hw : w = 0 <;> simp [hw]
    · rw [if_neg h0] at h
      have := ih _ _ _ _ _ _ h n (by omega)
      simp only [f_M_ball_51, jp_c, decide_eq_true_eq, h0, if_false, ↓reduceIte, n_gr]
      exact this
theorem bl_ok : ∀ v, v < 41 → ∀ g, g < 10 → v = 0 ∨ g = 0 ∨ (bl 90 (nI g) (nI v) (nI v) (nI v) 1).isSome = true := by decide +kernel
theorem p_ball (a b c : Int32) {A B : jp_M} (hR : Rel A B) : pOK ((f_C_ball a b c).map (fun r => (r, A))) (f_M_ball a b c B) := by
  have T := Rel_told (x := 0) hR
  have hk : ∀ (P : Prop) (o : Option Int32) (o' : Option (Int32 × jp_M)), o = some (-1) → o' = some (-1, jp_set B 104 (upd (B 104) 0 0)) → pOK (o.map (fun r => (r, A))) o' := by
    intro _ o o' h1 h2
    rw [h1, h2]
    exact pOK_mk rfl T
  by_cases h1 : nI 1 ≤ a ∧ a ≤ nI 40
  · by_cases h2 : nI 1 ≤ b ∧ b ≤ nI 9
    · by_cases h3 : nI 0 ≤ c ∧ c ≤ nI 1
      · obtain ⟨x, hx, hx', rfl⟩ := n_rng (by omega) h1.1 (by omega) h1.2
        obtain ⟨y, hy, hy', rfl⟩ := n_rng (by omega) h2.1 (by omega) h2.2
        have hb := ((bl_ok x (by omega) y (by omega)).resolve_left (by omega)).resolve_left (by omega)
        obtain ⟨⟨m, d⟩, hb⟩ := Option.isSome_iff_exists.mp hb
        have eC := bl_C (nI y) c 90 _ _ _ _ _ _ hb jFu 0 (by rw [show jFu = 100000 from rfl]; omega) (by omega)
        have eM := bl_M (nI y) c (jp_set B 104 (upd (B 104) 0 0)) 90 _ _ _ _ _ _ hb jFu (by rw [show jFu = 100000 from rfl]; omega)
        have e1 : f_C_ball (nI x) (nI y) c = some (if c = 0 then m else d) := by
          rw [← eC]
          simp (disch := omega) only [f_C_ball, n_within, n_it0, jp_c, decide_eq_true_eq, n_lit, n_neg1, n_add, n_mul, n_sub, n_div, n_mod, n_le, n_lt, n_eq, n_cl, n_in, Nat.reduceEqDiff, Nat.reduceAdd, Nat.reduceMul, ite_true, ite_false, if_true, if_false, eq_self_iff_true, ↓reduceIte, and_self, and_true, true_and, and_false, false_and, not_true_eq_false, not_false_eq_true, if_pos, if_neg, h3]
        have e2 : f_M_ball (nI x) (nI y) c B = some (if c = 0 then m else d, jp_set B 104 (upd (B 104) 0 0)) := by
          rw [← eM]
          simp (disch := omega) only [f_M_ball, n_isIn, n_it0, jp_c, decide_eq_true_eq, n_lit, n_neg1, n_add, n_mul, n_sub, n_div, n_mod, n_le, n_lt, n_eq, n_cl, n_in, Nat.reduceEqDiff, Nat.reduceAdd, Nat.reduceMul, ite_true, ite_false, if_true, if_false, eq_self_iff_true, ↓reduceIte, and_self, and_true, true_and, and_false, false_and, not_true_eq_false, not_false_eq_true, if_pos, if_neg, h3]
        rw [e1, e2]
        exact pOK_mk rfl T
      · obtain ⟨x, hx, hx', rfl⟩ := n_rng (by omega) h1.1 (by omega) h1.2
        obtain ⟨y, hy, hy', rfl⟩ := n_rng (by omega) h2.1 (by omega) h2.2
        apply hk True
        · simp (disch := omega) only [f_C_ball, n_within, n_it0, jp_c, decide_eq_true_eq, n_lit, n_neg1, n_add, n_mul, n_sub, n_div, n_mod, n_le, n_lt, n_eq, n_cl, n_in, Nat.reduceEqDiff, Nat.reduceAdd, Nat.reduceMul, ite_true, ite_false, if_true, if_false, eq_self_iff_true, ↓reduceIte, and_self, and_true, true_and, and_false, false_and, not_true_eq_false, not_false_eq_true, if_pos, if_neg, h3]
        · simp (disch := omega) only [f_M_ball, n_isIn, n_it0, jp_c, decide_eq_true_eq, n_lit, n_neg1, n_add, n_mul, n_sub, n_div, n_mod, n_le, n_lt, n_eq, n_cl, n_in, Nat.reduceEqDiff, Nat.reduceAdd, Nat.reduceMul, ite_true, ite_false, if_true, if_false, eq_self_iff_true, ↓reduceIte, and_self, and_true, true_and, and_false, false_and, not_true_eq_false, not_false_eq_true, if_pos, if_neg, h3]
    · apply hk True
      · unfold f_C_ball
        (repeat' split) <;> first | rfl | (exfalso; apply h2; simp only [jp_c, decide_eq_true_eq, Int32.le_iff_toInt_le, Int32.lt_iff_toInt_lt, n_lit] at *; simp (disch := omega) only [n_ti] at *; omega)
      · simp (disch := omega) only [f_M_ball, n_isIn, n_it0, jp_c, decide_eq_true_eq, n_lit, n_neg1, n_add, n_mul, n_sub, n_div, n_mod, n_le, n_lt, n_eq, n_cl, n_in, Nat.reduceEqDiff, Nat.reduceAdd, Nat.reduceMul, ite_true, ite_false, if_true, if_false, eq_self_iff_true, ↓reduceIte, and_self, and_true, true_and, and_false, false_and, not_true_eq_false, not_false_eq_true, if_pos, if_neg, h2, h1]
  · apply hk True
    · unfold f_C_ball
      (repeat' split) <;> first | rfl | (exfalso; apply h1; simp only [jp_c, decide_eq_true_eq, Int32.le_iff_toInt_le, Int32.lt_iff_toInt_lt, n_lit] at *; simp (disch := omega) only [n_ti] at *; omega)
    · simp (disch := omega) only [f_M_ball, n_isIn, n_it0, jp_c, decide_eq_true_eq, n_lit, n_neg1, n_add, n_mul, n_sub, n_div, n_mod, n_le, n_lt, n_eq, n_cl, n_in, Nat.reduceEqDiff, Nat.reduceAdd, Nat.reduceMul, ite_true, ite_false, if_true, if_false, eq_self_iff_true, ↓reduceIte, and_self, and_true, true_and, and_false, false_and, not_true_eq_false, not_false_eq_true, if_pos, if_neg, h1]
