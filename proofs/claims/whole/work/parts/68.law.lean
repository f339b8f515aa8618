theorem n_sh {v : Nat} (h : v < 32768) : (nI v).toInt16.toInt32 = nI v := by
  apply Int32.toInt_inj.1
  rw [Int16.toInt_toInt32, Int32.toInt_toInt16, n_ti (by omega)]
  rw [Int.bmod_eq_of_le (by omega) (by omega)]
theorem n_ad1 (a : Nat) : nI a + nI 1 = nI (a + 1) := n_add a 1
theorem n_pm1 {t : Nat} (h : 1 ≤ t) : nI t + nI 4294967295 = nI (t - 1) := by
  rw [← n_neg1, ← Int32.sub_eq_add_neg, n_sub h]
/-- a stack, the top first -/
def stk (m : Nat → Int32) : List Int32 → Prop
  | [] => True
  | x :: t => m t.length = x ∧ stk m t
theorem stk_up {m : Nat → Int32} {k : Nat} {v : Int32} : ∀ {t : List Int32}, stk m t → t.length ≤ k → stk (upd m k v) t
  | [], _, _ => trivial
  | x :: t, h, hk => by
    simp only [List.length_cons] at hk
    exact ⟨by rw [ud_ne (by omega)]; exact h.1, stk_up h.2 (by omega)⟩
theorem stk_push {m : Nat → Int32} {v : Int32} {t : List Int32} (h : stk m t) : stk (upd m t.length v) (v :: t) := ⟨ud_eq rfl, stk_up h (Nat.le_refl _)⟩
/-- kinds of what is on a stack -/
def kd : List Int32 → List Nat → Prop
  | [], [] => True
  | x :: t, k :: s => (k = 1 → ¬ x = nI 0) ∧ (k = 2 → x = nI 0 ∨ x = nI 1) ∧ kd t s
  | _, _ => False
theorem kd_len : ∀ {t : List Int32} {s : List Nat}, kd t s → t.length = s.length
  | [], [], _ => rfl
  | x :: t, k :: s, h => by simp only [List.length_cons]; rw [kd_len h.2.2]
  | [], _ :: _, h => h.elim
  | _ :: _, [], h => h.elim
theorem kd_1 {t : List Int32} {k : Nat} {s : List Nat} (h : kd t (k :: s)) : ∃ x t', t = x :: t' ∧ (k = 1 → ¬ x = nI 0) ∧ (k = 2 → x = nI 0 ∨ x = nI 1) ∧ kd t' s := by
  cases t with
  | nil => exact h.elim
  | cons x t => exact ⟨x, t, rfl, h⟩
theorem c_num {M : jp_M} {ec t pc LN n : Nat} (h7 : M 7 1 = nI LN) (hpc : pc < ec) (hec : ec ≤ LN) (hLN : LN ≤ 400) {v : Nat} (hv : v < 10000) (ht : t < 32) (h11 : M 11 pc = nI v) : f_L_value_5 (n + 1) (nI ec) (nI t) (nI pc) M = f_L_value_5 n (nI ec) (nI (t + 1)) (nI (pc + 1)) (jp_set M 13 (upd (M 13) t (nI v))) := by
  simp (disch := omega) only [f_L_value_5, f_L_value_117, f_L_value_113, jp_c, decide_eq_true_eq, n_lit, n_ad1, n_le, n_lt, n_in, n_cl, n_sh, Nat.reduceEqDiff, Nat.reduceAdd, Nat.reduceMul, ite_true, ite_false, if_true, if_false, eq_self_iff_true, ↓reduceIte, and_self, and_true, true_and, and_false, false_and, not_true_eq_false, not_false_eq_true, if_pos, if_neg, h7, h11, jg_t]
theorem c_fact {M : jp_M} {ec t pc LN n : Nat} (h7 : M 7 1 = nI LN) (hpc : pc < ec) (hec : ec ≤ LN) (hLN : LN ≤ 400) {v : Nat} (hv : v < 10) (ht : t < 32) (h11 : M 11 pc = nI (10000 + v)) : f_L_value_5 (n + 1) (nI ec) (nI t) (nI pc) M = f_L_value_5 n (nI ec) (nI (t + 1)) (nI (pc + 1)) (jp_set M 13 (upd (M 13) t (M 12 v))) := by
  have e : f_L_fact (nI v) M = some (M 12 v) := by
    have hv' : v ≤ 9 := by omega
    simp (disch := omega) only [f_L_fact, n_within, n_it0, jp_c, decide_eq_true_eq, n_lit, n_neg1, n_add, n_mul, n_sub, n_div, n_mod, n_le, n_lt, n_eq, n_cl, n_in, Nat.reduceEqDiff, Nat.reduceAdd, Nat.reduceMul, ite_true, ite_false, if_true, if_false, eq_self_iff_true, ↓reduceIte, and_self, and_true, true_and, and_false, false_and, not_true_eq_false, not_false_eq_true, if_pos, if_neg, Nat.zero_le, hv', jg_t]
  have e2 : nI (10000 + v) - nI 10000 = nI v := by rw [n_sub (by omega), show 10000 + v - 10000 = v by omega]
  simp (disch := omega) only [f_L_value_5, f_L_value_117, f_L_value_113, jp_c, decide_eq_true_eq, n_lit, n_ad1, n_le, n_lt, n_in, n_cl, n_sh, Nat.reduceEqDiff, Nat.reduceAdd, Nat.reduceMul, ite_true, ite_false, if_true, if_false, eq_self_iff_true, ↓reduceIte, and_self, and_true, true_and, and_false, false_and, not_true_eq_false, not_false_eq_true, if_pos, if_neg, h7, h11, jg_t, e2, e, Option.bind_some]
theorem c_bin {M : jp_M} {ec t pc LN n : Nat} (h7 : M 7 1 = nI LN) (hpc : pc < ec) (hec : ec ≤ LN) (hLN : LN ≤ 400) {c : Nat} {v : Int32} (hc : 20000 ≤ c) (hc' : c < 32768) (ht : 2 ≤ t) (ht' : t ≤ 32) (h11 : M 11 pc = nI c) (hj : f_L_joined (nI (c - 20000)) (M 13 (t - 2)) (M 13 (t - 1)) = some v) : f_L_value_5 (n + 1) (nI ec) (nI t) (nI pc) M = f_L_value_5 n (nI ec) (nI (t - 1)) (nI (pc + 1)) (jp_set M 13 (upd (M 13) (t - 2) v)) := by
  have e2 : nI c - nI 20000 = nI (c - 20000) := n_sub hc
  have e3 : nI (t - 1) - nI 1 = nI (t - 2) := by rw [n_sub (by omega)]; congr 1
  simp (disch := omega) only [f_L_value_5, f_L_value_117, f_L_value_113, jp_c, decide_eq_true_eq, n_lit, n_neg1, n_pm1, n_ad1, e3, n_le, n_lt, n_in, n_cl, n_sh, Nat.reduceEqDiff, Nat.reduceAdd, Nat.reduceMul, ite_true, ite_false, if_true, if_false, eq_self_iff_true, ↓reduceIte, and_self, and_true, true_and, and_false, false_and, not_true_eq_false, not_false_eq_true, if_pos, if_neg, h7, h11, jg_t, e2, hj, Option.bind_some]
theorem m_num {M : jp_M} {em t pm n : Nat} (hpm : pm < em) (hem : em ≤ 400) {v : Int32} (ht : t < 420) (ho : M 119 pm = nI 0) (ha : M 120 pm = v) : f_M_runs_12 (n + 1) (nI 0) (nI em) (nI t) (nI pm) M = f_M_runs_12 n (nI 0) (nI em) (nI (t + 1)) (nI (pm + 1)) (jp_set M 126 (upd (M 126) t v)) := by
  simp (disch := omega) only [f_M_runs_12, f_M_runs_45, f_M_runs_83, f_M_runs_170, jp_c, decide_eq_true_eq, n_lit, n_neg1, n_add, n_mul, n_sub, n_div, n_mod, n_le, n_lt, n_eq, n_cl, n_in, Nat.mul_zero, Nat.zero_add, Nat.reduceEqDiff, Nat.reduceAdd, Nat.reduceMul, ite_true, ite_false, if_true, if_false, eq_self_iff_true, ↓reduceIte, and_self, and_true, true_and, and_false, false_and, not_true_eq_false, not_false_eq_true, if_pos, if_neg, ho, ha, jg_t]
theorem m_fact {M : jp_M} {em t pm n : Nat} (hpm : pm < em) (hem : em ≤ 400) {v : Nat} (hv : v < 10) (ht : t < 420) (ho : M 119 pm = nI 1) (ha : M 120 pm = nI v) : f_M_runs_12 (n + 1) (nI 0) (nI em) (nI t) (nI pm) M = f_M_runs_12 n (nI 0) (nI em) (nI (t + 1)) (nI (pm + 1)) (jp_set M 126 (upd (M 126) t (M 125 v))) := by
  simp (disch := omega) only [f_M_runs_12, f_M_runs_45, f_M_runs_83, f_M_runs_170, jp_c, decide_eq_true_eq, n_lit, n_neg1, n_add, n_mul, n_sub, n_div, n_mod, n_le, n_lt, n_eq, n_cl, n_in, Nat.mul_zero, Nat.zero_add, Nat.reduceEqDiff, Nat.reduceAdd, Nat.reduceMul, ite_true, ite_false, if_true, if_false, eq_self_iff_true, ↓reduceIte, and_self, and_true, true_and, and_false, false_and, not_true_eq_false, not_false_eq_true, if_pos, if_neg, ho, ha, jg_t]
theorem m_not {M : jp_M} {em t pm n : Nat} (hpm : pm < em) (hem : em ≤ 400) (ht : t < 420) (ht0 : 1 ≤ t) (ho : M 119 pm = nI 9) : f_M_runs_12 (n + 1) (nI 0) (nI em) (nI t) (nI pm) M = f_M_runs_12 n (nI 0) (nI em) (nI t) (nI (pm + 1)) (jp_set M 126 (upd (M 126) (t - 1) (nI 1 - M 126 (t - 1)))) := by
  simp (disch := omega) only [f_M_runs_12, f_M_runs_45, f_M_runs_83, f_M_runs_170, jp_c, decide_eq_true_eq, n_lit, n_neg1, n_add, n_mul, n_sub, n_div, n_mod, n_le, n_lt, n_eq, n_cl, n_in, Nat.mul_zero, Nat.zero_add, Nat.reduceEqDiff, Nat.reduceAdd, Nat.reduceMul, ite_true, ite_false, if_true, if_false, eq_self_iff_true, ↓reduceIte, and_self, and_true, true_and, and_false, false_and, not_true_eq_false, not_false_eq_true, if_pos, if_neg, ho, jg_t]
theorem m_bin {M : jp_M} {em t pm n : Nat} (hpm : pm < em) (hem : em ≤ 400) {k : Nat} {v : Int32} (hk : 2 ≤ k) (hk9 : ¬ k = 9) (hk' : k < 12) (ht : t < 420) (ht0 : 2 ≤ t) (ho : M 119 pm = nI k) (hj : f_M_twoOf (nI k) (M 126 (t - 2)) (M 126 (t - 1)) = some v) : f_M_runs_12 (n + 1) (nI 0) (nI em) (nI t) (nI pm) M = f_M_runs_12 n (nI 0) (nI em) (nI (t - 1)) (nI (pm + 1)) (jp_set M 126 (upd (M 126) (t - 2) v)) := by
  have h0 : ¬ k = 0 := by omega
  have h1 : ¬ k = 1 := by omega
  have e3 : nI (t - 1) - nI 1 = nI (t - 2) := by rw [n_sub (by omega)]; congr 1
  have e4 : nI t - nI 1 = nI (t - 1) := n_sub (by omega)
  simp (disch := omega) only [f_M_runs_12, f_M_runs_45, f_M_runs_83, f_M_runs_170, jp_c, decide_eq_true_eq, n_lit, n_add, n_mul, n_le, n_eq, n_in, n_cl, Nat.mul_zero, Nat.zero_add, Nat.reduceEqDiff, Nat.reduceAdd, Nat.reduceMul, ite_true, ite_false, if_true, if_false, eq_self_iff_true, ↓reduceIte, and_self, and_true, true_and, and_false, false_and, not_true_eq_false, not_false_eq_true, if_pos, if_neg, ho, h0, h1, hk9, e3, e4, jg_t, hj, Option.bind_some]
/-- the class's sign of an operation -/
def jcd (k : Nat) : Nat := match k with
  | 2 => 20043
  | 3 => 20045
  | 4 => 20042
  | 5 => 20047
  | 6 => 20060
  | 7 => 20061
  | 8 => 20062
  | 10 => 20038
  | _ => 20124
theorem jcd_e {k : Nat} {v : Int32} (h2 : 2 ≤ k) (h9 : ¬ k = 9) (h11 : k ≤ 11) : jenc (k, v) = [nI (jcd k)] := by
  have : k = 2 ∨ k = 3 ∨ k = 4 ∨ k = 5 ∨ k = 6 ∨ k = 7 ∨ k = 8 ∨ k = 10 ∨ k = 11 := by omega
  rcases this with rfl | rfl | rfl | rfl | rfl | rfl | rfl | rfl | rfl <;> rfl
theorem jcd_b : ∀ k, k < 12 → 20000 ≤ jcd k ∧ jcd k < 32768 := by decide
theorem i_and01 {x y : Int32} (hx : x = nI 0 ∨ x = nI 1) (hy : y = nI 0 ∨ y = nI 1) : x &&& y = x * y ∧ (x * y = nI 0 ∨ x * y = nI 1) := by
  rcases hx with rfl | rfl <;> rcases hy with rfl | rfl <;> decide
theorem i_or01 {x y : Int32} (hx : x = nI 0 ∨ x = nI 1) (hy : y = nI 0 ∨ y = nI 1) : (if x + y ≤ nI 0 then nI 0 else nI 1) = x ||| y := by
  rcases hx with rfl | rfl <;> rcases hy with rfl | rfl <;> decide
/-- both join two numbers alike -/
theorem p_join {k : Nat} {x y : Int32} (hk : 2 ≤ k) (hk9 : ¬ k = 9) (hk' : k ≤ 11) (h5 : k = 5 → ¬ y = nI 0) (h10 : 10 ≤ k → (x = nI 0 ∨ x = nI 1) ∧ (y = nI 0 ∨ y = nI 1)) :
    ∃ v, f_L_joined (nI (jcd k - 20000)) x y = some v ∧ f_M_twoOf (nI k) x y = some v ∧ (6 ≤ k → v = nI 0 ∨ v = nI 1) := by
  have : k = 2 ∨ k = 3 ∨ k = 4 ∨ k = 5 ∨ k = 6 ∨ k = 7 ∨ k = 8 ∨ k = 10 ∨ k = 11 := by omega
  rcases this with rfl | rfl | rfl | rfl | rfl | rfl | rfl | rfl | rfl
  · exact ⟨x + y, by simp (disch := omega) only [jcd, Nat.reduceSub, f_L_joined, jp_c, decide_eq_true_eq, n_lit, n_eq, Nat.reduceEqDiff, Nat.reduceAdd, Nat.reduceMul, ite_true, ite_false, if_true, if_false, eq_self_iff_true, ↓reduceIte, and_self, and_true, true_and, and_false, false_and, not_true_eq_false, not_false_eq_true, if_pos, if_neg], by simp (disch := omega) only [f_M_twoOf, jp_c, decide_eq_true_eq, n_lit, n_eq, Nat.reduceEqDiff, Nat.reduceAdd, Nat.reduceMul, ite_true, ite_false, if_true, if_false, eq_self_iff_true, ↓reduceIte, and_self, and_true, true_and, and_false, false_and, not_true_eq_false, not_false_eq_true, if_pos, if_neg], fun h => by omega⟩
  · exact ⟨x - y, by simp (disch := omega) only [jcd, Nat.reduceSub, f_L_joined, jp_c, decide_eq_true_eq, n_lit, n_eq, Nat.reduceEqDiff, Nat.reduceAdd, Nat.reduceMul, ite_true, ite_false, if_true, if_false, eq_self_iff_true, ↓reduceIte, and_self, and_true, true_and, and_false, false_and, not_true_eq_false, not_false_eq_true, if_pos, if_neg], by simp (disch := omega) only [f_M_twoOf, jp_c, decide_eq_true_eq, n_lit, n_eq, Nat.reduceEqDiff, Nat.reduceAdd, Nat.reduceMul, ite_true, ite_false, if_true, if_false, eq_self_iff_true, ↓reduceIte, and_self, and_true, true_and, and_false, false_and, not_true_eq_false, not_false_eq_true, if_pos, if_neg], fun h => by omega⟩
  · exact ⟨x * y, by simp (disch := omega) only [jcd, Nat.reduceSub, f_L_joined, jp_c, decide_eq_true_eq, n_lit, n_eq, Nat.reduceEqDiff, Nat.reduceAdd, Nat.reduceMul, ite_true, ite_false, if_true, if_false, eq_self_iff_true, ↓reduceIte, and_self, and_true, true_and, and_false, false_and, not_true_eq_false, not_false_eq_true, if_pos, if_neg], by simp (disch := omega) only [f_M_twoOf, jp_c, decide_eq_true_eq, n_lit, n_eq, Nat.reduceEqDiff, Nat.reduceAdd, Nat.reduceMul, ite_true, ite_false, if_true, if_false, eq_self_iff_true, ↓reduceIte, and_self, and_true, true_and, and_false, false_and, not_true_eq_false, not_false_eq_true, if_pos, if_neg], fun h => by omega⟩
  · have hy := h5 rfl
    exact ⟨x / y, by simp (disch := first | assumption | omega) only [jcd, Nat.reduceSub, f_L_joined, jp_c, decide_eq_true_eq, n_lit, n_eq, Nat.reduceEqDiff, Nat.reduceAdd, Nat.reduceMul, ite_true, ite_false, if_true, if_false, eq_self_iff_true, ↓reduceIte, and_self, and_true, true_and, and_false, false_and, not_true_eq_false, not_false_eq_true, if_pos, if_neg, hy, jg_T], by simp (disch := first | assumption | omega) only [f_M_twoOf, jp_c, decide_eq_true_eq, n_lit, n_eq, Nat.reduceEqDiff, Nat.reduceAdd, Nat.reduceMul, ite_true, ite_false, if_true, if_false, eq_self_iff_true, ↓reduceIte, and_self, and_true, true_and, and_false, false_and, not_true_eq_false, not_false_eq_true, if_pos, if_neg, hy, jg_T], fun h => by omega⟩
  · refine ⟨if y ≤ x then nI 0 else nI 1, ?_, ?_, fun _ => ?_⟩
    · simp (disch := omega) only [jcd, Nat.reduceSub, f_L_joined, jp_c, decide_eq_true_eq, n_lit, n_eq, Nat.reduceEqDiff, Nat.reduceAdd, Nat.reduceMul, ite_true, ite_false, if_true, if_false, eq_self_iff_true, ↓reduceIte, and_self, and_true, true_and, and_false, false_and, not_true_eq_false, not_false_eq_true, if_pos, if_neg]
      split <;> rfl
    · simp (disch := omega) only [f_M_twoOf, jp_c, decide_eq_true_eq, n_lit, n_eq, Nat.reduceEqDiff, Nat.reduceAdd, Nat.reduceMul, ite_true, ite_false, if_true, if_false, eq_self_iff_true, ↓reduceIte, and_self, and_true, true_and, and_false, false_and, not_true_eq_false, not_false_eq_true, if_pos, if_neg]
      split <;> rfl
    · split
      · exact Or.inl rfl
      · exact Or.inr rfl
  · refine ⟨if x = y then nI 1 else nI 0, ?_, ?_, fun _ => ?_⟩
    · by_cases h : x = y <;> simp (disch := omega) only [jcd, Nat.reduceSub, f_L_joined, jp_c, decide_eq_true_eq, n_lit, n_eq, Nat.reduceEqDiff, Nat.reduceAdd, Nat.reduceMul, ite_true, ite_false, if_true, if_false, eq_self_iff_true, ↓reduceIte, and_self, and_true, true_and, and_false, false_and, not_true_eq_false, not_false_eq_true, if_pos, if_neg, h]
    · by_cases h : x = y <;> simp (disch := omega) only [f_M_twoOf, jp_c, decide_eq_true_eq, n_lit, n_eq, Nat.reduceEqDiff, Nat.reduceAdd, Nat.reduceMul, ite_true, ite_false, if_true, if_false, eq_self_iff_true, ↓reduceIte, and_self, and_true, true_and, and_false, false_and, not_true_eq_false, not_false_eq_true, if_pos, if_neg, h]
    · split
      · exact Or.inr rfl
      · exact Or.inl rfl
  · refine ⟨if x ≤ y then nI 0 else nI 1, ?_, ?_, fun _ => ?_⟩
    · simp (disch := omega) only [jcd, Nat.reduceSub, f_L_joined, jp_c, decide_eq_true_eq, n_lit, n_eq, Nat.reduceEqDiff, Nat.reduceAdd, Nat.reduceMul, ite_true, ite_false, if_true, if_false, eq_self_iff_true, ↓reduceIte, and_self, and_true, true_and, and_false, false_and, not_true_eq_false, not_false_eq_true, if_pos, if_neg]
      split <;> rfl
    · simp (disch := omega) only [f_M_twoOf, jp_c, decide_eq_true_eq, n_lit, n_eq, Nat.reduceEqDiff, Nat.reduceAdd, Nat.reduceMul, ite_true, ite_false, if_true, if_false, eq_self_iff_true, ↓reduceIte, and_self, and_true, true_and, and_false, false_and, not_true_eq_false, not_false_eq_true, if_pos, if_neg]
      split <;> rfl
    · split
      · exact Or.inl rfl
      · exact Or.inr rfl
  · obtain ⟨hx, hy⟩ := h10 (by omega)
    obtain ⟨e1, e2⟩ := i_and01 hx hy
    exact ⟨x * y, by simp (disch := omega) only [jcd, Nat.reduceSub, f_L_joined, jp_c, decide_eq_true_eq, n_lit, n_eq, Nat.reduceEqDiff, Nat.reduceAdd, Nat.reduceMul, ite_true, ite_false, if_true, if_false, eq_self_iff_true, ↓reduceIte, and_self, and_true, true_and, and_false, false_and, not_true_eq_false, not_false_eq_true, if_pos, if_neg, e1], by simp (disch := omega) only [f_M_twoOf, jp_c, decide_eq_true_eq, n_lit, n_eq, Nat.reduceEqDiff, Nat.reduceAdd, Nat.reduceMul, ite_true, ite_false, if_true, if_false, eq_self_iff_true, ↓reduceIte, and_self, and_true, true_and, and_false, false_and, not_true_eq_false, not_false_eq_true, if_pos, if_neg], fun _ => e2⟩
  · obtain ⟨hx, hy⟩ := h10 (by omega)
    have e1 := i_or01 hx hy
    refine ⟨x ||| y, ?_, ?_, fun _ => ?_⟩
    · simp (disch := omega) only [jcd, Nat.reduceSub, f_L_joined, jp_c, decide_eq_true_eq, n_lit, n_eq, Nat.reduceEqDiff, Nat.reduceAdd, Nat.reduceMul, ite_true, ite_false, if_true, if_false, eq_self_iff_true, ↓reduceIte, and_self, and_true, true_and, and_false, false_and, not_true_eq_false, not_false_eq_true, if_pos, if_neg]
    · rw [← e1]
      by_cases hq : x + y ≤ nI 0 <;> simp (disch := omega) only [f_M_twoOf, jp_c, decide_eq_true_eq, n_lit, n_eq, Nat.reduceEqDiff, Nat.reduceAdd, Nat.reduceMul, ite_true, ite_false, if_true, if_false, eq_self_iff_true, ↓reduceIte, and_self, and_true, true_and, and_false, false_and, not_true_eq_false, not_false_eq_true, if_pos, if_neg, hq]
    · rw [← e1]
      split
      · exact Or.inl rfl
      · exact Or.inr rfl
theorem segC_app {cd : Nat → Int32} {s : Nat} {a b : List Int32} (h : jsegC cd s (a ++ b)) : jsegC cd s a ∧ jsegC cd (s + a.length) b := by
  constructor
  · intro k hk
    rw [h k (by rw [List.length_append]; omega)]
    simp only [List.getD_eq_getElem?_getD]
    rw [List.getElem?_append_left hk]
  · intro k hk
    have := h (a.length + k) (by rw [List.length_append]; omega)
    rw [Nat.add_assoc, this]
    simp only [List.getD_eq_getElem?_getD]
    rw [List.getElem?_append_right (by omega), show a.length + k - a.length = k by omega]
theorem segR_cons {op ar : Nat → Int32} {s : Nat} {o : Nat × Int32} {l : List (Nat × Int32)} (h : jsegR op ar s (o :: l)) : (op s = nI o.1 ∧ ar s = o.2) ∧ jsegR op ar (s + 1) l := by
  constructor
  · exact h 0 (by simp)
  · intro k hk
    have := h (k + 1) (by simp only [List.length_cons]; omega)
    rw [show s + (k + 1) = s + 1 + k by omega] at this
    exact this
/-- both work through a part of a line -/
theorem l_eval {A B : jp_M} {LN ec em : Nat} (h7 : A 7 1 = nI LN) (hec : ec ≤ LN) (hLN : LN ≤ 400) (hem : em ≤ 400) (hf : ∀ k, k < 10 → A 12 k = B 125 k) :
    ∀ (l : List (Nat × Int32)) (s s' : List Nat) (st : List Int32) (MC MM : jp_M) (pc pm n m : Nat), jtyp l s s' → kd st s → stk (MC 13) st → stk (MM 126) st → (∀ q, ¬ q = 13 → MC q = A q) → (∀ q, ¬ q = 126 → MM q = B q) →
    pc + (l.flatMap jenc).length = ec → pm + l.length = em → jsegC (A 11) pc (l.flatMap jenc) → jsegR (B 119) (B 120) pm l → (l.flatMap jenc).length < n → l.length < m →
    ∃ MC' MM' st', f_L_value_5 n (nI ec) (nI st.length) (nI pc) MC = f_L_value_123 (nI st'.length) MC' ∧ f_M_runs_12 m (nI 0) (nI em) (nI st.length) (nI pm) MM = some (MM' 126 0, MM') ∧ kd st' s' ∧ stk (MC' 13) st' ∧ stk (MM' 126) st' ∧ (∀ q, ¬ q = 13 → MC' q = A q) ∧ (∀ q, ¬ q = 126 → MM' q = B q) := by
  intro l
  induction l with
  | nil =>
    intro s s' st MC MM pc pm n m ht hk h1 h2 hC hM e1 e2 g1 g2 hn hm
    obtain ⟨n, rfl⟩ : ∃ k, n = k + 1 := ⟨n - 1, by omega⟩
    obtain ⟨m, rfl⟩ : ∃ k, m = k + 1 := ⟨m - 1, by omega⟩
    simp only [List.flatMap_nil, List.length_nil] at e1 e2
    refine ⟨MC, MM, st, ?_, ?_, ?_, h1, h2, hC, hM⟩
    · simp (disch := omega) only [f_L_value_5, jp_c, decide_eq_true_eq, n_lit, n_le, Nat.reduceEqDiff, Nat.reduceAdd, Nat.reduceMul, ite_true, ite_false, if_true, if_false, eq_self_iff_true, ↓reduceIte, and_self, and_true, true_and, and_false, false_and, not_true_eq_false, not_false_eq_true, if_pos, if_neg]
    · simp (disch := omega) only [f_M_runs_12, jp_c, decide_eq_true_eq, n_lit, n_neg1, n_add, n_mul, n_sub, n_div, n_mod, n_le, n_lt, n_eq, n_cl, n_in, Nat.mul_zero, Nat.zero_add, Nat.reduceEqDiff, Nat.reduceAdd, Nat.reduceMul, ite_true, ite_false, if_true, if_false, eq_self_iff_true, ↓reduceIte, and_self, and_true, true_and, and_false, false_and, not_true_eq_false, not_false_eq_true, if_pos, if_neg]
    · rw [← show s = s' from ht]; exact hk
  | cons o l ih =>
    intro s s' st MC MM pc pm n m ht hk h1 h2 hC hM e1 e2 g1 g2 hn hm
    obtain ⟨k, v⟩ := o
    have hl := kd_len hk
    rw [List.flatMap_cons] at e1 g1 hn
    rw [List.length_append] at e1 hn
    obtain ⟨g1a, g1b⟩ := segC_app g1
    obtain ⟨⟨o1, o2⟩, g2b⟩ := segR_cons g2
    simp only [List.length_cons] at e2 hm
    obtain ⟨m, rfl⟩ : ∃ k, m = k + 1 := ⟨m - 1, by omega⟩
    have a7 : MC 7 1 = nI LN := by rw [hC 7 (by decide), h7]
    have a11 := hC 11 (by decide)
    have a12 := hC 12 (by decide)
    have b119 := hM 119 (by decide)
    have b120 := hM 120 (by decide)
    have b125 := hM 125 (by decide)
    rw [← b119] at o1
    rw [← b120] at o2
    obtain ⟨hs, hcase⟩ := ht
    rcases hcase with ⟨rfl, x, hx, rfl, ht⟩ | ⟨rfl, x, hx, rfl, ht⟩ | hb | hb | hb | ⟨rfl, s0, rfl, ht⟩ | hb
    · -- a number
      have hj : jenc (0, nI x) = [nI x] := rfl
      rw [hj] at e1 hn g1a g1b
      simp only [List.length_cons, List.length_nil] at e1 hn g1b
      obtain ⟨n, rfl⟩ : ∃ k, n = k + 1 := ⟨n - 1, by omega⟩
      have c0 : MC 11 pc = nI x := by rw [a11]; exact g1a 0 (by simp)
      rw [c_num a7 (by omega) hec hLN hx (by omega) c0, m_num (by omega) hem (by omega) o1 o2]
      refine ih _ s' (nI x :: st) _ _ (pc + 1) (pm + 1) n m ht ?_ ?_ ?_ ?_ ?_ (by omega) (by omega) g1b g2b (by omega) (by omega)
      · refine ⟨fun h => ?_, fun h => ?_, hk⟩
        · intro h'
          rw [n_eq (by omega) (by omega)] at h'
          rw [if_pos h'] at h; omega
        · split at h <;> omega
      · rw [st_same]; exact stk_push h1
      · rw [st_same]; exact stk_push h2
      · intro q hq; rw [st_ne hq, hC q hq]
      · intro q hq; rw [st_ne hq, hM q hq]
    · -- a fact
      have hj : jenc (1, nI x) = [nI (10000 + x)] := by show [nI 10000 + nI x] = _; rw [n_add]
      rw [hj] at e1 hn g1a g1b
      simp only [List.length_cons, List.length_nil] at e1 hn g1b
      obtain ⟨n, rfl⟩ : ∃ k, n = k + 1 := ⟨n - 1, by omega⟩
      have c0 : MC 11 pc = nI (10000 + x) := by rw [a11]; exact g1a 0 (by simp)
      rw [c_fact a7 (by omega) hec hLN hx (by omega) c0, m_fact (by omega) hem hx (by omega) o1 o2, a12, b125, hf x hx]
      refine ih _ s' (B 125 x :: st) _ _ (pc + 1) (pm + 1) n m ht ?_ ?_ ?_ ?_ ?_ (by omega) (by omega) g1b g2b (by omega) (by omega)
      · exact ⟨fun h => by omega, fun h => by omega, hk⟩
      · rw [st_same]; exact stk_push h1
      · rw [st_same]; exact stk_push h2
      · intro q hq; rw [st_ne hq, hC q hq]
      · intro q hq; rw [st_ne hq, hM q hq]
    · -- plus, minus, times
      obtain ⟨q1, q2, xk, yk, s0, rfl, r1, r2, ht⟩ := hb
      obtain ⟨y, t0, rfl, ky1, ky2, hk1⟩ := kd_1 hk
      obtain ⟨x, t, rfl, kx1, kx2, hk'⟩ := kd_1 hk1
      simp only [List.length_cons, List.length_nil] at hl hs
      have hk2 : 2 ≤ k := by omega
      have hk9 : ¬ k = 9 := by omega
      have hk11 : k ≤ 11 := by omega
      have hj := jcd_e (v := v) hk2 hk9 hk11
      obtain ⟨d1, d2⟩ := jcd_b k (by omega)
      rw [hj] at e1 hn g1a g1b
      simp only [List.length_cons, List.length_nil] at e1 hn g1b
      obtain ⟨n, rfl⟩ : ∃ k, n = k + 1 := ⟨n - 1, by omega⟩
      have c0 : MC 11 pc = nI (jcd k) := by rw [a11]; exact g1a 0 (by simp)
      obtain ⟨w, w1, w2, w3⟩ := p_join (x := x) (y := y) hk2 hk9 hk11 (fun h => by omega) (fun h => by omega)
      have hx1 := h1.2.1
      have hy1 := h1.1
      have hx2 := h2.2.1
      have hy2 := h2.1
      simp only [List.length_cons] at hx1 hy1 hx2 hy2 ⊢
      rw [c_bin (v := w) (t := t.length + 1 + 1) a7 (by omega) hec hLN d1 d2 (by omega) (by omega) c0 (by
          rw [show t.length + 1 + 1 - 2 = t.length by omega, show t.length + 1 + 1 - 1 = t.length + 1 by omega, hx1, hy1]; exact w1),
        m_bin (v := w) (t := t.length + 1 + 1) (by omega) hem hk2 hk9 (by omega) (by omega) (by omega) o1 (by
          rw [show t.length + 1 + 1 - 2 = t.length by omega, show t.length + 1 + 1 - 1 = t.length + 1 by omega, hx2, hy2]; exact w2)]
      rw [show t.length + 1 + 1 - 2 = t.length by omega, show t.length + 1 + 1 - 1 = t.length + 1 by omega]
      have := ih _ s' (w :: t) (jp_set MC 13 (upd (MC 13) t.length w)) (jp_set MM 126 (upd (MM 126) t.length w)) (pc + 1) (pm + 1) n m ht ?_ ?_ ?_ ?_ ?_ (by omega) (by omega) g1b g2b (by omega) (by omega)
      · exact this
      · exact ⟨fun h => by omega, fun h => by omega, hk'⟩
      · rw [st_same]; exact stk_push h1.2.2
      · rw [st_same]; exact stk_push h2.2.2
      · intro q hq; rw [st_ne hq, hC q hq]
      · intro q hq; rw [st_ne hq, hM q hq]
    · -- part
      obtain ⟨rfl, xk, s0, rfl, r1, ht⟩ := hb
      obtain ⟨y, t0, rfl, ky1, ky2, hk1⟩ := kd_1 hk
      obtain ⟨x, t, rfl, kx1, kx2, hk'⟩ := kd_1 hk1
      simp only [List.length_cons, List.length_nil] at hl hs
      have hk2 : 2 ≤ 5 := by omega
      have hk9 : ¬ 5 = 9 := by omega
      have hk11 : 5 ≤ 11 := by omega
      have hj := jcd_e (v := v) hk2 hk9 hk11
      obtain ⟨d1, d2⟩ := jcd_b 5 (by omega)
      rw [hj] at e1 hn g1a g1b
      simp only [List.length_cons, List.length_nil] at e1 hn g1b
      obtain ⟨n, rfl⟩ : ∃ k, n = k + 1 := ⟨n - 1, by omega⟩
      have c0 : MC 11 pc = nI (jcd 5) := by rw [a11]; exact g1a 0 (by simp)
      obtain ⟨w, w1, w2, w3⟩ := p_join (x := x) (y := y) hk2 hk9 hk11 (fun _ => ky1 rfl) (fun h => by omega)
      have hx1 := h1.2.1
      have hy1 := h1.1
      have hx2 := h2.2.1
      have hy2 := h2.1
      simp only [List.length_cons] at hx1 hy1 hx2 hy2 ⊢
      rw [c_bin (v := w) (t := t.length + 1 + 1) a7 (by omega) hec hLN d1 d2 (by omega) (by omega) c0 (by
          rw [show t.length + 1 + 1 - 2 = t.length by omega, show t.length + 1 + 1 - 1 = t.length + 1 by omega, hx1, hy1]; exact w1),
        m_bin (v := w) (t := t.length + 1 + 1) (by omega) hem hk2 hk9 (by omega) (by omega) (by omega) o1 (by
          rw [show t.length + 1 + 1 - 2 = t.length by omega, show t.length + 1 + 1 - 1 = t.length + 1 by omega, hx2, hy2]; exact w2)]
      rw [show t.length + 1 + 1 - 2 = t.length by omega, show t.length + 1 + 1 - 1 = t.length + 1 by omega]
      have := ih _ s' (w :: t) (jp_set MC 13 (upd (MC 13) t.length w)) (jp_set MM 126 (upd (MM 126) t.length w)) (pc + 1) (pm + 1) n m ht ?_ ?_ ?_ ?_ ?_ (by omega) (by omega) g1b g2b (by omega) (by omega)
      · exact this
      · exact ⟨fun h => by omega, fun h => by omega, hk'⟩
      · rw [st_same]; exact stk_push h1.2.2
      · rw [st_same]; exact stk_push h2.2.2
      · intro q hq; rw [st_ne hq, hC q hq]
      · intro q hq; rw [st_ne hq, hM q hq]
    · -- compared
      obtain ⟨q1, q2, xk, yk, s0, rfl, r1, r2, ht⟩ := hb
      obtain ⟨y, t0, rfl, ky1, ky2, hk1⟩ := kd_1 hk
      obtain ⟨x, t, rfl, kx1, kx2, hk'⟩ := kd_1 hk1
      simp only [List.length_cons, List.length_nil] at hl hs
      have hk2 : 2 ≤ k := by omega
      have hk9 : ¬ k = 9 := by omega
      have hk11 : k ≤ 11 := by omega
      have hj := jcd_e (v := v) hk2 hk9 hk11
      obtain ⟨d1, d2⟩ := jcd_b k (by omega)
      rw [hj] at e1 hn g1a g1b
      simp only [List.length_cons, List.length_nil] at e1 hn g1b
      obtain ⟨n, rfl⟩ : ∃ k, n = k + 1 := ⟨n - 1, by omega⟩
      have c0 : MC 11 pc = nI (jcd k) := by rw [a11]; exact g1a 0 (by simp)
      obtain ⟨w, w1, w2, w3⟩ := p_join (x := x) (y := y) hk2 hk9 hk11 (fun h => by omega) (fun h => by omega)
      have hx1 := h1.2.1
      have hy1 := h1.1
      have hx2 := h2.2.1
      have hy2 := h2.1
      simp only [List.length_cons] at hx1 hy1 hx2 hy2 ⊢
      rw [c_bin (v := w) (t := t.length + 1 + 1) a7 (by omega) hec hLN d1 d2 (by omega) (by omega) c0 (by
          rw [show t.length + 1 + 1 - 2 = t.length by omega, show t.length + 1 + 1 - 1 = t.length + 1 by omega, hx1, hy1]; exact w1),
        m_bin (v := w) (t := t.length + 1 + 1) (by omega) hem hk2 hk9 (by omega) (by omega) (by omega) o1 (by
          rw [show t.length + 1 + 1 - 2 = t.length by omega, show t.length + 1 + 1 - 1 = t.length + 1 by omega, hx2, hy2]; exact w2)]
      rw [show t.length + 1 + 1 - 2 = t.length by omega, show t.length + 1 + 1 - 1 = t.length + 1 by omega]
      have := ih _ s' (w :: t) (jp_set MC 13 (upd (MC 13) t.length w)) (jp_set MM 126 (upd (MM 126) t.length w)) (pc + 1) (pm + 1) n m ht ?_ ?_ ?_ ?_ ?_ (by omega) (by omega) g1b g2b (by omega) (by omega)
      · exact this
      · exact ⟨fun h => by omega, fun _ => w3 (by omega), hk'⟩
      · rw [st_same]; exact stk_push h1.2.2
      · rw [st_same]; exact stk_push h2.2.2
      · intro q hq; rw [st_ne hq, hC q hq]
      · intro q hq; rw [st_ne hq, hM q hq]
    · -- not
      obtain ⟨x, t, rfl, -, kx, hk'⟩ := kd_1 hk
      have kx := kx rfl
      have hj : jenc (9, v) = [nI 0, nI 20061] := rfl
      rw [hj] at e1 hn g1a g1b
      simp only [List.length_cons, List.length_nil] at e1 hn g1b hl hs
      obtain ⟨n, rfl⟩ : ∃ k, n = k + 1 + 1 := ⟨n - 2, by omega⟩
      have c0 : MC 11 pc = nI 0 := by rw [a11]; exact g1a 0 (by simp)
      have c1 : A 11 (pc + 1) = nI 20061 := g1a 1 (by simp)
      have hx1 := h1.1
      have hx2 := h2.1
      have hv : (if x = nI 0 then nI 1 else nI 0) = nI 1 - x ∧ ((if x = nI 0 then nI 1 else nI 0) = nI 0 ∨ (if x = nI 0 then nI 1 else nI 0) = nI 1) := by
        rcases kx with rfl | rfl <;> decide
      have hjo : f_L_joined (nI (20061 - 20000)) x (nI 0) = some (if x = nI 0 then nI 1 else nI 0) := by
        by_cases h : x = nI 0 <;> simp (disch := omega) only [Nat.reduceSub, f_L_joined, jp_c, decide_eq_true_eq, n_lit, n_eq, Nat.reduceEqDiff, Nat.reduceAdd, Nat.reduceMul, ite_true, ite_false, if_true, if_false, eq_self_iff_true, ↓reduceIte, and_self, and_true, true_and, and_false, false_and, not_true_eq_false, not_false_eq_true, if_pos, if_neg, h]
      simp only [List.length_cons] at hx1 hx2 ⊢
      rw [c_num (v := 0) (t := t.length + 1) a7 (by omega) hec hLN (by omega) (by omega) c0,
        c_bin (M := jp_set MC 13 (upd (MC 13) (t.length + 1) (nI 0))) (c := 20061) (t := t.length + 1 + 1) (pc := pc + 1) (LN := LN) (v := if x = nI 0 then nI 1 else nI 0) (by rw [st_ne (by decide), a7]) (by omega) hec hLN (by omega) (by omega) (by omega) (by omega) (by rw [st_ne (by decide), a11, c1]) (by
          rw [st_same, show t.length + 1 + 1 - 2 = t.length by omega, show t.length + 1 + 1 - 1 = t.length + 1 by omega, ud_ne (by omega), ud_eq rfl, hx1]
          exact hjo),
        m_not (t := t.length + 1) (by omega) hem (by omega) (by omega) o1]
      rw [show t.length + 1 + 1 - 2 = t.length by omega, show t.length + 1 + 1 - 1 = t.length + 1 by omega, show t.length + 1 - 1 = t.length by omega, hx2, ← hv.1]
      have := ih _ s' ((if x = nI 0 then nI 1 else nI 0) :: t) (jp_set (jp_set MC 13 (upd (MC 13) (t.length + 1) (nI 0))) 13 (upd ((jp_set MC 13 (upd (MC 13) (t.length + 1) (nI 0))) 13) t.length (if x = nI 0 then nI 1 else nI 0))) (jp_set MM 126 (upd (MM 126) t.length (if x = nI 0 then nI 1 else nI 0))) (pc + 1 + 1) (pm + 1) n m ht ?_ ?_ ?_ ?_ ?_ (by omega) (by omega) g1b g2b (by omega) (by omega)
      · exact this
      · exact ⟨fun h => by omega, fun _ => hv.2, hk'⟩
      · rw [st_same]
        refine stk_push ?_
        rw [st_same]
        exact stk_up h1.2 (by omega)
      · rw [st_same]; exact stk_push h2.2
      · intro q hq; rw [st_ne hq, st_ne hq, hC q hq]
      · intro q hq; rw [st_ne hq, hM q hq]
    · -- and, or
      obtain ⟨hkk, s0, rfl, ht⟩ := hb
      obtain ⟨y, t0, rfl, ky1, ky2, hk1⟩ := kd_1 hk
      obtain ⟨x, t, rfl, kx1, kx2, hk'⟩ := kd_1 hk1
      simp only [List.length_cons, List.length_nil] at hl hs
      have hk2 : 2 ≤ k := by omega
      have hk9 : ¬ k = 9 := by omega
      have hk11 : k ≤ 11 := by omega
      have hj := jcd_e (v := v) hk2 hk9 hk11
      obtain ⟨d1, d2⟩ := jcd_b k (by omega)
      rw [hj] at e1 hn g1a g1b
      simp only [List.length_cons, List.length_nil] at e1 hn g1b
      obtain ⟨n, rfl⟩ : ∃ k, n = k + 1 := ⟨n - 1, by omega⟩
      have c0 : MC 11 pc = nI (jcd k) := by rw [a11]; exact g1a 0 (by simp)
      obtain ⟨w, w1, w2, w3⟩ := p_join (x := x) (y := y) hk2 hk9 hk11 (fun h => by omega) (fun _ => ⟨kx2 rfl, ky2 rfl⟩)
      have hx1 := h1.2.1
      have hy1 := h1.1
      have hx2 := h2.2.1
      have hy2 := h2.1
      simp only [List.length_cons] at hx1 hy1 hx2 hy2 ⊢
      rw [c_bin (v := w) (t := t.length + 1 + 1) a7 (by omega) hec hLN d1 d2 (by omega) (by omega) c0 (by
          rw [show t.length + 1 + 1 - 2 = t.length by omega, show t.length + 1 + 1 - 1 = t.length + 1 by omega, hx1, hy1]; exact w1),
        m_bin (v := w) (t := t.length + 1 + 1) (by omega) hem hk2 hk9 (by omega) (by omega) (by omega) o1 (by
          rw [show t.length + 1 + 1 - 2 = t.length by omega, show t.length + 1 + 1 - 1 = t.length + 1 by omega, hx2, hy2]; exact w2)]
      rw [show t.length + 1 + 1 - 2 = t.length by omega, show t.length + 1 + 1 - 1 = t.length + 1 by omega]
      have := ih _ s' (w :: t) (jp_set MC 13 (upd (MC 13) t.length w)) (jp_set MM 126 (upd (MM 126) t.length w)) (pc + 1) (pm + 1) n m ht ?_ ?_ ?_ ?_ ?_ (by omega) (by omega) g1b g2b (by omega) (by omega)
      · exact this
      · exact ⟨fun h => by omega, fun _ => w3 (by omega), hk'⟩
      · rw [st_same]; exact stk_push h1.2.2
      · rw [st_same]; exact stk_push h2.2.2
      · intro q hq; rw [st_ne hq, hC q hq]
      · intro q hq; rw [st_ne hq, hM q hq]
