def jW0 : List (List Nat) := [[108, 101, 97, 118, 101], [114, 101, 110, 116], [102, 105, 110, 101], [119, 104, 101, 110], [111, 114], [97, 110, 100], [110, 111, 116], [107, 105, 110, 100], [104, 105, 103, 104], [100, 97, 121, 115], [114, 111, 111, 102], [116, 97, 108, 108], [102, 105, 110, 101, 100], [110, 101, 115, 116, 115], [115, 117, 109, 109, 101, 114], [117, 115, 101, 100], [100, 97, 121]]
def jW1 : List (List Nat) := [[111, 110], [112, 101, 114, 115, 111, 110], [107, 105, 116, 101], [119, 97, 115, 104, 105, 110, 103], [117, 109, 98, 114, 101, 108, 108, 97], [98, 101, 108, 108], [98, 97, 108, 108, 111, 111, 110], [98, 97, 108, 108], [97, 116], [102, 111, 114]]
def jW2 : List (List Nat) := [[116, 117, 114, 110], [116, 111]]
def jW3 : List (List Nat) := [[99, 97, 115, 101], [102, 111, 108, 108, 111, 119, 115]]
def jWW : List (List Nat) := jW0 ++ jW1 ++ jW2 ++ jW3
def fnd (s : List Nat) : List (List Nat) → Nat → Option Nat
  | [], _ => none
  | w :: W, j => if s = w then some j else fnd s W (j + 1)
def fres : Option Nat → Int32
  | some x => nI x
  | none => nI 4294967295
theorem if_cons {β : Type} {c : Nat} {u r : List Nat} {x y : β} : (if c :: u = c :: r then x else y) = if u = r then x else y := by
  by_cases h : u = r <;> simp [h]
theorem fnd_no {s : List Nat} : ∀ (W : List (List Nat)) (j : Nat), s ∉ W → fnd s W j = none
  | [], _, _ => rfl
  | w :: W, j, h => by
    rw [fnd, if_neg (fun e => h (by rw [e]; exact List.mem_cons_self))]
    exact fnd_no W (j + 1) (fun e => h (List.mem_cons_of_mem _ e))
/-- a text's words among all: 'c' is the text -/
def jlo (c : Nat) : Nat := if c = 0 then 0 else if c = 1 then 17 else if c = 2 then 27 else 29
def jhi (c : Nat) : Nat := if c = 0 then 16 else if c = 1 then 26 else if c = 2 then 28 else 30
def jWk (c : Nat) : List (List Nat) := if c = 0 then jW0 else if c = 1 then jW1 else if c = 2 then jW2 else jW3
def fndOK (c : Nat) (s : List Nat) : Bool := match fnd s jWW 0 with
  | some y => decide (y ≤ 30 ∧ 2 ≤ s.length) && (if jlo c ≤ y ∧ y ≤ jhi c then decide (fnd s (jWk c) 0 = some (y - jlo c)) else decide (fnd s (jWk c) 0 = none))
  | none => decide (fnd s (jWk c) 0 = none)
theorem fnd_in : ∀ c, c < 4 → ∀ s, s ∈ jWW → fndOK c s = true := by decide +kernel
theorem jWk_in : ∀ c, c < 4 → ∀ s, s ∈ jWk c → s ∈ jWW := by decide +kernel
theorem fnd_ok {c : Nat} (hc : c < 4) (s : List Nat) : fndOK c s = true := by
  by_cases h : s ∈ jWW
  · exact fnd_in c hc s h
  · rw [fndOK, fnd_no _ _ h, fnd_no _ _ (fun e => h (jWk_in c hc s e))]; rfl
/-- letters as they stand on the tape -/
def ts (t : Nat → Nat) : Nat → Nat → List Nat
  | _, 0 => []
  | a, d + 1 => t a :: ts t (a + 1) d
theorem ts_len (t : Nat → Nat) : ∀ (a d : Nat), (ts t a d).length = d
  | _, 0 => rfl
  | a, d + 1 => by rw [ts, List.length_cons, ts_len t (a + 1) d]
def sgb (ca : Nat → Int32) : Nat → List Nat → Bool
  | i, [] => decide (ca i = nI 32)
  | i, c :: r => decide (ca i = nI c ∧ ¬ c = 32 ∧ c < 128) && sgb ca (i + 1) r
def layb (ca : Nat → Int32) (L : Nat) : Nat → List (List Nat) → Bool
  | i, [] => decide (i = L)
  | i, w :: W => decide (i + w.length < L) && sgb ca i w && layb ca L (i + w.length + 1) W
theorem sgb_cg {f F : Nat → Int32} {L : Nat} (h : ∀ i, i < L → f i = F i) : ∀ (r : List Nat) (i : Nat), i + r.length < L → sgb F i r = true → sgb f i r = true
  | [], i, hi, hs => by
    simp only [List.length_nil, Nat.add_zero] at hi
    rw [sgb, h i hi]; exact hs
  | c :: r, i, hi, hs => by
    simp only [List.length_cons] at hi
    rw [sgb, Bool.and_eq_true] at hs ⊢
    rw [h i (by omega)]
    exact ⟨hs.1, sgb_cg h r (i + 1) (by omega) hs.2⟩
theorem layb_cg {f F : Nat → Int32} {L : Nat} (h : ∀ i, i < L → f i = F i) : ∀ (W : List (List Nat)) (i : Nat), layb F L i W = true → layb f L i W = true
  | [], i, hs => hs
  | w :: W, i, hs => by
    rw [layb, Bool.and_eq_true, Bool.and_eq_true, decide_eq_true_eq] at hs ⊢
    exact ⟨⟨hs.1.1, sgb_cg h w i hs.1.1 hs.1.2⟩, layb_cg h W _ hs.2⟩
/-- the class's search, for any string -/
def gw (len : Int32) (ca : Int32 → Option Int32) : Nat → Int32 → Int32 → Int32 → Int32 → jp_M → Option Int32
  | 0, _, _, _, _, _ => none
  | n + 1, l1, l2, l3, l4, M =>
    if jp_c .ge l4 len = true then (
    some (-1 : Int32)) else (
    (ca l4).bind fun q2 => (
    if jp_c .eq q2 (32 : Int32) = true then (
    if jp_c .eq l3 0 = true then (
    gw len ca n (l1 + (1 : Int32)) (M 68 3) (1 : Int32) (l4 + (1 : Int32)) M) else (
    if jp_c .ne l2 (M 68 4) = true then (
    gw len ca n (l1 + (1 : Int32)) (M 68 3) (1 : Int32) (l4 + (1 : Int32)) M) else (
    some l1))) else (
    if jp_c .eq l3 0 = true then (
    gw len ca n l1 (l2 + (1 : Int32)) (0 : Int32) (l4 + (1 : Int32)) M) else (
    if jp_c .ge l2 (M 68 4) = true then (
    gw len ca n l1 (l2 + (1 : Int32)) (0 : Int32) (l4 + (1 : Int32)) M) else (
    jg (jp_in l2 400) (
    if jp_c .ne (Int32.toInt8 (M 67 (Int32.toNatClampNeg l2))).toInt32 q2 = true then (
    gw len ca n l1 (l2 + (1 : Int32)) (0 : Int32) (l4 + (1 : Int32)) M) else (
    gw len ca n l1 (l2 + (1 : Int32)) (1 : Int32) (l4 + (1 : Int32)) M)))))))
theorem gw_0 (n : Nat) : f_R_wordNumber_12 n = gw f_JS_length f_JS_charAt n := by
  induction n with
  | zero => funext l1 l2 l3 l4 M; simp only [f_R_wordNumber_12, gw]
  | succ n ih => funext l1 l2 l3 l4 M; simp only [f_R_wordNumber_12, gw, f_R_wordNumber_91, f_R_wordNumber_101, f_R_wordNumber_70, f_R_wordNumber_69, ih]
theorem gw_1 (n : Nat) : f_R_wordNumber_1_12 n = gw f_JS_length_1 f_JS_charAt_1 n := by
  induction n with
  | zero => funext l1 l2 l3 l4 M; simp only [f_R_wordNumber_1_12, gw]
  | succ n ih => funext l1 l2 l3 l4 M; simp only [f_R_wordNumber_1_12, gw, f_R_wordNumber_1_91, f_R_wordNumber_1_101, f_R_wordNumber_1_70, f_R_wordNumber_1_69, ih]
theorem gw_2 (n : Nat) : f_R_wordNumber_2_12 n = gw f_JS_length_2 f_JS_charAt_2 n := by
  induction n with
  | zero => funext l1 l2 l3 l4 M; simp only [f_R_wordNumber_2_12, gw]
  | succ n ih => funext l1 l2 l3 l4 M; simp only [f_R_wordNumber_2_12, gw, f_R_wordNumber_2_91, f_R_wordNumber_2_101, f_R_wordNumber_2_70, f_R_wordNumber_2_69, ih]
theorem gw_3 (n : Nat) : f_R_wordNumber_3_12 n = gw f_JS_length_3 f_JS_charAt_3 n := by
  induction n with
  | zero => funext l1 l2 l3 l4 M; simp only [f_R_wordNumber_3_12, gw]
  | succ n ih => funext l1 l2 l3 l4 M; simp only [f_R_wordNumber_3_12, gw, f_R_wordNumber_3_91, f_R_wordNumber_3_101, f_R_wordNumber_3_70, f_R_wordNumber_3_69, ih]
theorem ca_0 : ∀ i, i < 85 → f_JS_charAt (nI i) = some (jcon 2002 i) := by decide +kernel
theorem ca_1 : ∀ i, i < 57 → f_JS_charAt_1 (nI i) = some (jcon 2003 i) := by decide +kernel
theorem ca_2 : ∀ i, i < 8 → f_JS_charAt_2 (nI i) = some (jcon 2004 i) := by decide +kernel
theorem ca_3 : ∀ i, i < 13 → f_JS_charAt_3 (nI i) = some (jcon 2005 i) := by decide +kernel
theorem ln_0 : f_JS_length = nI 85 := by decide +kernel
theorem ln_1 : f_JS_length_1 = nI 57 := by decide +kernel
theorem ln_2 : f_JS_length_2 = nI 8 := by decide +kernel
theorem ln_3 : f_JS_length_3 = nI 13 := by decide +kernel
theorem ly_0 : layb (jcon 2002) 85 0 jW0 = true := by decide +kernel
theorem ly_1 : layb (jcon 2003) 57 0 jW1 = true := by decide +kernel
theorem ly_2 : layb (jcon 2004) 8 0 jW2 = true := by decide +kernel
theorem ly_3 : layb (jcon 2005) 13 0 jW3 = true := by decide +kernel
theorem ly_M : layb (jM0 113) 164 1 jWW = true := by decide +kernel
def bt (v : Nat) : Int32 := ((nI v).toInt8.toInt32).toInt8.toInt32
theorem bt_eq : ∀ v, v < 256 → ∀ c, c < 128 → (bt v = nI c ↔ v = c) := by decide +kernel
section
variable {M : jp_M} {q e L : Nat} {t : Nat → Nat} {CA : Int32 → Option Int32} {ca : Nat → Int32}
theorem gw_miss (h3 : M 68 3 = nI q) (hL : L < 1000) (hca : ∀ i, i < L → CA (nI i) = some (ca i)) {j : Nat} : ∀ (r : List Nat) (i n : Nat) (l2 : Int32), i + r.length < L → sgb ca i r = true →
    gw (nI L) CA (n + r.length + 1) (nI j) l2 (nI 0) (nI i) M = gw (nI L) CA n (nI (j + 1)) (nI q) (nI 1) (nI (i + r.length + 1)) M
  | [], i, n, l2, hi, hs => by
    simp only [List.length_nil, Nat.add_zero] at hi ⊢
    rw [sgb, decide_eq_true_eq] at hs
    simp (disch := omega) only [gw, jp_c, decide_eq_true_eq, n_lit, n_add, n_le, hca, hs, h3, Option.bind_some, Nat.reduceEqDiff, Nat.reduceAdd, Nat.reduceMul, ite_true, ite_false, if_true, if_false, eq_self_iff_true, ↓reduceIte, and_self, and_true, true_and, and_false, false_and, not_true_eq_false, not_false_eq_true, if_pos, if_neg]
  | c :: r, i, n, l2, hi, hs => by
    simp only [List.length_cons] at hi ⊢
    rw [sgb, Bool.and_eq_true, decide_eq_true_eq] at hs
    obtain ⟨⟨s1, s2, s3⟩, s4⟩ := hs
    have ih := gw_miss h3 hL hca (j := j) r (i + 1) n (l2 + nI 1) (by omega) s4
    rw [show i + 1 + r.length + 1 = i + (r.length + 1) + 1 by omega] at ih
    rw [← ih, show n + (r.length + 1) + 1 = (n + r.length + 1) + 1 by omega]
    generalize n + r.length + 1 = m
    simp (disch := omega) only [gw, jp_c, decide_eq_true_eq, n_lit, n_add, n_le, n_eq, hca, s1, s2, Option.bind_some, Nat.reduceEqDiff, Nat.reduceAdd, Nat.reduceMul, ite_true, ite_false, if_true, if_false, eq_self_iff_true, ↓reduceIte, and_self, and_true, true_and, and_false, false_and, not_true_eq_false, not_false_eq_true, if_pos, if_neg]
theorem gw_word (h3 : M 68 3 = nI q) (h4 : M 68 4 = nI e) (he : e ≤ 400) (ht : ∀ j, j < 400 → t j < 256 ∧ M 67 j = (nI (t j)).toInt8.toInt32) (hL : L < 1000) (hca : ∀ i, i < L → CA (nI i) = some (ca i)) {j : Nat} :
    ∀ (r : List Nat) (i n a d : Nat), a + d = e → i + r.length < L → sgb ca i r = true →
    gw (nI L) CA (n + r.length + 1) (nI j) (nI a) (nI 1) (nI i) M = if ts t a d = r then some (nI j) else gw (nI L) CA n (nI (j + 1)) (nI q) (nI 1) (nI (i + r.length + 1)) M
  | [], i, n, a, d, ha, hi, hs => by
    simp only [List.length_nil, Nat.add_zero] at hi ⊢
    rw [sgb, decide_eq_true_eq] at hs
    cases d with
    | zero =>
      have : a = e := by omega
      subst this
      simp (disch := omega) only [gw, jp_c, decide_eq_true_eq, n_lit, n_add, n_le, n_eq, hca, hs, h3, h4, Option.bind_some, ts, Nat.reduceEqDiff, Nat.reduceAdd, Nat.reduceMul, ite_true, ite_false, if_true, if_false, eq_self_iff_true, ↓reduceIte, and_self, and_true, true_and, and_false, false_and, not_true_eq_false, not_false_eq_true, if_pos, if_neg]
    | succ d =>
      have : ¬ a = e := by omega
      simp (disch := omega) only [gw, jp_c, decide_eq_true_eq, n_lit, n_add, n_le, n_eq, hca, hs, h3, h4, Option.bind_some, ts, this, Nat.reduceEqDiff, Nat.reduceAdd, Nat.reduceMul, ite_true, ite_false, if_true, if_false, eq_self_iff_true, ↓reduceIte, and_self, and_true, true_and, and_false, false_and, not_true_eq_false, not_false_eq_true, if_pos, if_neg, reduceCtorEq]
  | c :: r, i, n, a, d, ha, hi, hs => by
    simp only [List.length_cons] at hi ⊢
    rw [sgb, Bool.and_eq_true, decide_eq_true_eq] at hs
    obtain ⟨⟨s1, s2, s3⟩, s4⟩ := hs
    have ihm := gw_miss h3 hL hca (j := j) r (i + 1) n (nI (a + 1)) (by omega) s4
    rw [show i + 1 + r.length + 1 = i + (r.length + 1) + 1 by omega] at ihm
    rw [← ihm, show n + (r.length + 1) + 1 = (n + r.length + 1) + 1 by omega]
    cases d with
    | zero =>
      generalize n + r.length + 1 = m
      have : a = e := by omega
      subst this
      simp (disch := omega) only [gw, jp_c, decide_eq_true_eq, n_lit, n_add, n_le, n_eq, hca, s1, s2, h4, Option.bind_some, ts, Nat.reduceEqDiff, Nat.reduceAdd, Nat.reduceMul, ite_true, ite_false, if_true, if_false, eq_self_iff_true, ↓reduceIte, and_self, and_true, true_and, and_false, false_and, not_true_eq_false, not_false_eq_true, if_pos, if_neg, reduceCtorEq]
    | succ d =>
      have h0 : ¬ e ≤ a := by omega
      obtain ⟨t1, t2⟩ := ht a (by omega)
      have t3 : (Int32.toInt8 (M 67 a)).toInt32 = bt (t a) := by rw [t2]; rfl
      have t4 := bt_eq (t a) t1 c s3
      by_cases hc : t a = c
      · have ih := gw_word h3 h4 he ht hL hca (j := j) r (i + 1) n (a + 1) d (by omega) (by omega) s4
        rw [show i + 1 + r.length + 1 = i + (r.length + 1) + 1 by omega] at ih
        rw [ihm, ts, hc, if_cons, ← ih]
        generalize n + r.length + 1 = m
        simp (disch := omega) only [gw, jp_c, decide_eq_true_eq, n_lit, n_add, n_le, n_eq, n_in, n_cl, hca, s1, s2, h4, Option.bind_some, h0, t3, t4.2 hc, jg_t, Nat.reduceEqDiff, Nat.reduceAdd, Nat.reduceMul, ite_true, ite_false, if_true, if_false, eq_self_iff_true, ↓reduceIte, and_self, and_true, true_and, and_false, false_and, not_true_eq_false, not_false_eq_true, if_pos, if_neg]
      · have h5 : ¬ bt (t a) = nI c := fun h => hc (t4.1 h)
        generalize n + r.length + 1 = m
        have h6 : ¬ t a :: ts t (a + 1) d = c :: r := fun h => hc (List.cons.inj h).1
        rw [ts, if_neg h6]
        simp (disch := omega) only [gw, jp_c, decide_eq_true_eq, n_lit, n_add, n_le, n_eq, n_in, n_cl, hca, s1, s2, h4, Option.bind_some, h0, t3, h5, jg_t, Nat.reduceEqDiff, Nat.reduceAdd, Nat.reduceMul, ite_true, ite_false, if_true, if_false, eq_self_iff_true, ↓reduceIte, and_self, and_true, true_and, and_false, false_and, not_true_eq_false, not_false_eq_true, if_pos, if_neg]
theorem gw_all (h3 : M 68 3 = nI q) (h4 : M 68 4 = nI e) (hq : q ≤ e) (he : e ≤ 400) (ht : ∀ j, j < 400 → t j < 256 ∧ M 67 j = (nI (t j)).toInt8.toInt32) (hL : L < 1000) (hca : ∀ i, i < L → CA (nI i) = some (ca i)) :
    ∀ (W : List (List Nat)) (i j n : Nat), i ≤ L → L < n + i → layb ca L i W = true →
    gw (nI L) CA n (nI j) (nI q) (nI 1) (nI i) M = some (fres (fnd (ts t q (e - q)) W j))
  | [], i, j, n, hi, hn, hl => by
    rw [layb, decide_eq_true_eq] at hl
    subst hl
    obtain ⟨n, rfl⟩ : ∃ k, n = k + 1 := ⟨n - 1, by omega⟩
    simp (disch := omega) only [gw, jp_c, decide_eq_true_eq, n_lit, n_neg1, n_le, fnd, fres, Nat.reduceEqDiff, Nat.reduceAdd, Nat.reduceMul, ite_true, ite_false, if_true, if_false, eq_self_iff_true, ↓reduceIte, and_self, and_true, true_and, and_false, false_and, not_true_eq_false, not_false_eq_true, if_pos, if_neg]
  | w :: W, i, j, n, hi, hn, hl => by
    rw [layb, Bool.and_eq_true, Bool.and_eq_true, decide_eq_true_eq] at hl
    obtain ⟨⟨l1, l2⟩, l3⟩ := hl
    obtain ⟨m, rfl⟩ : ∃ m, n = m + w.length + 1 := ⟨n - w.length - 1, by omega⟩
    rw [gw_word h3 h4 he ht hL hca w i m q (e - q) (by omega) l1 l2, fnd]
    by_cases hs : ts t q (e - q) = w
    · rw [if_pos hs, if_pos hs]; rfl
    · rw [if_neg hs, if_neg hs]
      exact gw_all h3 h4 hq he ht hL hca W _ _ _ (by omega) (by omega) l3
theorem wn_cls {c : Nat} (hc : c < 4) (h3 : M 68 3 = nI q) (h4 : M 68 4 = nI e) (hq : q ≤ e) (he : e ≤ 400) (ht : ∀ j, j < 400 → t j < 256 ∧ M 67 j = (nI (t j)).toInt8.toInt32) :
    f_R_wn (1000 + c) M = some (fres (fnd (ts t q (e - q)) (jWk c) 0)) := by
  have : c = 0 ∨ c = 1 ∨ c = 2 ∨ c = 3 := by omega
  rcases this with rfl | rfl | rfl | rfl
  · show f_R_wordNumber M = _
    rw [f_R_wordNumber, gw_0, ln_0, h3]
    exact gw_all h3 h4 hq he ht (by omega) ca_0 jW0 0 0 jFu (by omega) (show 85 < 100000 + 0 by omega) ly_0
  · show f_R_wordNumber_1 M = _
    rw [f_R_wordNumber_1, gw_1, ln_1, h3]
    exact gw_all h3 h4 hq he ht (by omega) ca_1 jW1 0 0 jFu (by omega) (show 57 < 100000 + 0 by omega) ly_1
  · show f_R_wordNumber_2 M = _
    rw [f_R_wordNumber_2, gw_2, ln_2, h3]
    exact gw_all h3 h4 hq he ht (by omega) ca_2 jW2 0 0 jFu (by omega) (show 8 < 100000 + 0 by omega) ly_2
  · show f_R_wordNumber_3 M = _
    rw [f_R_wordNumber_3, gw_3, ln_3, h3]
    exact gw_all h3 h4 hq he ht (by omega) ca_3 jW3 0 0 jFu (by omega) (show 13 < 100000 + 0 by omega) ly_3
theorem w94 {c4 : Int32 → Int32 → Int32 → Int32 → jp_M → Option (Int32)} {l1 l2 l3 : Int32} : ∀ (r : List Nat) (i n : Nat), r.length < n → i + r.length < 164 → sgb (M 113) i r = true → f_M_wordAt_94 n c4 l1 l2 l3 (nI i) M = c4 l1 l2 l3 (nI (i + r.length)) M
  | [], i, n, hn, hi, hs => by
    simp only [List.length_nil, Nat.add_zero] at hi hn ⊢
    rw [sgb, decide_eq_true_eq] at hs
    obtain ⟨n, rfl⟩ : ∃ k, n = k + 1 := ⟨n - 1, by omega⟩
    simp (disch := omega) only [f_M_wordAt_94, jp_c, decide_eq_true_eq, n_lit, n_in, n_cl, hs, jg_t, Nat.reduceEqDiff, Nat.reduceAdd, Nat.reduceMul, ite_true, ite_false, if_true, if_false, eq_self_iff_true, ↓reduceIte, and_self, and_true, true_and, and_false, false_and, not_true_eq_false, not_false_eq_true, if_pos, if_neg]
  | c :: r, i, n, hn, hi, hs => by
    simp only [List.length_cons] at hi hn ⊢
    rw [sgb, Bool.and_eq_true, decide_eq_true_eq] at hs
    obtain ⟨⟨s1, s2, s3⟩, s4⟩ := hs
    obtain ⟨n, rfl⟩ : ∃ k, n = k + 1 := ⟨n - 1, by omega⟩
    have ih := w94 (c4 := c4) (l1 := l1) (l2 := l2) (l3 := l3) r (i + 1) n (by omega) (by omega) s4
    rw [show i + (r.length + 1) = i + 1 + r.length by omega, ← ih]
    simp (disch := omega) only [f_M_wordAt_94, jp_c, decide_eq_true_eq, n_lit, n_add, n_eq, n_in, n_cl, s1, s2, jg_t, Nat.reduceEqDiff, Nat.reduceAdd, Nat.reduceMul, ite_true, ite_false, if_true, if_false, eq_self_iff_true, ↓reduceIte, and_self, and_true, true_and, and_false, false_and, not_true_eq_false, not_false_eq_true, if_pos, if_neg]
theorem w20 {c4 : Int32 → Int32 → Int32 → Int32 → jp_M → Option (Int32)} {j k : Nat} (he : e ≤ 400) (ht : ∀ j, j < 400 → t j < 256 ∧ M 112 j = nI (t j)) (hl : ∀ x, q ≤ x → x < e → ¬ t x = 32) :
    ∀ (d : Nat) (r : List Nat) (i n : Nat), q + i + d = e → d < n → k + 1 + i + r.length < 164 → sgb (M 113) (k + 1 + i) r = true →
    f_M_wordAt_20 n c4 (nI q) (nI e) (nI j) (nI k) (nI i) M = if ts t (q + i) d = r then some (nI j) else f_M_wordAt_88 c4 (nI q) (nI e) (nI j) (nI k) M := by
  intro d
  induction d with
  | zero =>
    intro r i n hd hn hk hs
    obtain ⟨n, rfl⟩ : ∃ k, n = k + 1 := ⟨n - 1, by omega⟩
    have h0 : q + i = e := by omega
    cases r with
    | nil =>
      simp only [List.length_nil, Nat.add_zero] at hk
      rw [sgb, decide_eq_true_eq] at hs
      simp (disch := omega) only [f_M_wordAt_20, f_M_wordAt_61, jp_c, decide_eq_true_eq, n_lit, n_add, n_le, n_eq, n_in, n_cl, h0, hs, jg_t, ts, Nat.reduceEqDiff, Nat.reduceAdd, Nat.reduceMul, ite_true, ite_false, if_true, if_false, eq_self_iff_true, ↓reduceIte, and_self, and_true, true_and, and_false, false_and, not_true_eq_false, not_false_eq_true, if_pos, if_neg]
    | cons c r =>
      simp only [List.length_cons] at hk
      rw [sgb, Bool.and_eq_true, decide_eq_true_eq] at hs
      obtain ⟨⟨s1, s2, s3⟩, s4⟩ := hs
      simp (disch := omega) only [f_M_wordAt_20, f_M_wordAt_61, jp_c, decide_eq_true_eq, n_lit, n_add, n_le, n_eq, n_in, n_cl, h0, s1, s2, jg_t, ts, Nat.reduceEqDiff, Nat.reduceAdd, Nat.reduceMul, ite_true, ite_false, if_true, if_false, eq_self_iff_true, ↓reduceIte, and_self, and_true, true_and, and_false, false_and, not_true_eq_false, not_false_eq_true, if_pos, if_neg, reduceCtorEq]
  | succ d ih =>
    intro r i n hd hn hk hs
    obtain ⟨n, rfl⟩ : ∃ k, n = k + 1 := ⟨n - 1, by omega⟩
    have h0 : ¬ q + i = e := by omega
    have h1 : ¬ e ≤ q + i := by omega
    obtain ⟨t1, t2⟩ := ht (q + i) (by omega)
    have t3 := hl (q + i) (by omega) (by omega)
    cases r with
    | nil =>
      simp only [List.length_nil, Nat.add_zero] at hk
      rw [sgb, decide_eq_true_eq] at hs
      have t4 : ¬ 32 = t (q + i) := fun h => t3 h.symm
      simp (disch := omega) only [f_M_wordAt_20, f_M_wordAt_61, jp_c, decide_eq_true_eq, n_lit, n_add, n_le, n_eq, n_in, n_cl, h0, h1, hs, t2, t4, jg_t, ts, Nat.reduceEqDiff, Nat.reduceAdd, Nat.reduceMul, ite_true, ite_false, if_true, if_false, eq_self_iff_true, ↓reduceIte, and_self, and_true, true_and, and_false, false_and, not_true_eq_false, not_false_eq_true, if_pos, if_neg, reduceCtorEq]
    | cons c r =>
      simp only [List.length_cons] at hk
      rw [sgb, Bool.and_eq_true, decide_eq_true_eq] at hs
      obtain ⟨⟨s1, s2, s3⟩, s4⟩ := hs
      by_cases hc : c = t (q + i)
      · have ih1 := ih r (i + 1) n (by omega) (by omega) (by omega) s4
        rw [ts, ← hc, if_cons, show q + i + 1 = q + (i + 1) by omega, ← ih1]
        simp (disch := omega) only [f_M_wordAt_20, jp_c, decide_eq_true_eq, n_lit, n_add, n_le, n_eq, n_in, n_cl, h0, h1, s1, t2, ← hc, jg_t, Nat.reduceEqDiff, Nat.reduceAdd, Nat.reduceMul, ite_true, ite_false, if_true, if_false, eq_self_iff_true, ↓reduceIte, and_self, and_true, true_and, and_false, false_and, not_true_eq_false, not_false_eq_true, if_pos, if_neg]
      · have h6 : ¬ t (q + i) :: ts t (q + i + 1) d = c :: r := fun h => hc (List.cons.inj h).1.symm
        rw [ts, if_neg h6]
        simp (disch := omega) only [f_M_wordAt_20, f_M_wordAt_61, jp_c, decide_eq_true_eq, n_lit, n_add, n_le, n_eq, n_in, n_cl, h0, h1, s1, t2, hc, jg_t, Nat.reduceEqDiff, Nat.reduceAdd, Nat.reduceMul, ite_true, ite_false, if_true, if_false, eq_self_iff_true, ↓reduceIte, and_self, and_true, true_and, and_false, false_and, not_true_eq_false, not_false_eq_true, if_pos, if_neg]
theorem w5 (hq : q ≤ e) (he : e ≤ 400) (ht : ∀ j, j < 400 → t j < 256 ∧ M 112 j = nI (t j)) (hl : ∀ x, q ≤ x → x < e → ¬ t x = 32) :
    ∀ (W : List (List Nat)) (k j n : Nat) (l3 : Int32), k ≤ 163 → 164 < n + k → l3 + 1 = nI j → layb (M 113) 164 (k + 1) W = true →
    f_M_wordAt_5 n (nI q) (nI e) l3 (nI k) M = some (fres (fnd (ts t q (e - q)) W j))
  | [], k, j, n, l3, hk, hn, h3, hl' => by
    rw [layb, decide_eq_true_eq] at hl'
    obtain ⟨n, rfl⟩ : ∃ k, n = k + 1 := ⟨n - 1, by omega⟩
    simp (disch := omega) only [f_M_wordAt_5, jp_c, decide_eq_true_eq, n_lit, n_neg1, n_le, fnd, fres, Nat.reduceEqDiff, Nat.reduceAdd, Nat.reduceMul, ite_true, ite_false, if_true, if_false, eq_self_iff_true, ↓reduceIte, and_self, and_true, true_and, and_false, false_and, not_true_eq_false, not_false_eq_true, if_pos, if_neg]
  | w :: W, k, j, n, l3, hk, hn, h3, hl' => by
    rw [layb, Bool.and_eq_true, Bool.and_eq_true, decide_eq_true_eq] at hl'
    obtain ⟨⟨l1, l2⟩, l4⟩ := hl'
    obtain ⟨n, rfl⟩ : ∃ k, n = k + 1 := ⟨n - 1, by omega⟩
    have hk' : ¬ 163 ≤ k := by omega
    have e1 := w20 (M := M) (q := q) (c4 := f_M_wordAt_5 n) (j := j) (k := k) he ht hl (e - q) w 0 jFu (by omega) (show e - q < 100000 by omega) (by omega) l2
    have e2 : f_M_wordAt_5 (n + 1) (nI q) (nI e) l3 (nI k) M = f_M_wordAt_20 jFu (f_M_wordAt_5 n) (nI q) (nI e) (nI j) (nI k) (nI 0) M := by
      simp (disch := omega) only [f_M_wordAt_5, jp_c, decide_eq_true_eq, n_le, h3, show (163 : Int32) = nI 163 from rfl, hk', Nat.reduceEqDiff, Nat.reduceAdd, Nat.reduceMul, ite_true, ite_false, if_true, if_false, eq_self_iff_true, ↓reduceIte, and_self, and_true, true_and, and_false, false_and, not_true_eq_false, not_false_eq_true, if_pos, if_neg]
      rfl
    rw [e2, e1, fnd, Nat.add_zero]
    by_cases hs : ts t q (e - q) = w
    · rw [if_pos hs, if_pos hs]; rfl
    · rw [if_neg hs, if_neg hs, f_M_wordAt_88, show nI k + 1 = nI (k + 1) from n_add k 1, w94 w (k + 1) jFu (show w.length < 100000 by omega) l1 l2]
      exact w5 hq he ht hl W _ _ _ _ (by omega) (by omega) (n_add j 1) l4
theorem wn_ref (hq : q ≤ e) (he : e ≤ 400) (ht : ∀ j, j < 400 → t j < 256 ∧ M 112 j = nI (t j)) (hl : ∀ x, q ≤ x → x < e → ¬ t x = 32) (hw : rWords (M 113)) : f_M_wordAt (nI q) (nI e) M = some (fres (fnd (ts t q (e - q)) jWW 0)) := by
  rw [f_M_wordAt]
  exact w5 hq he ht hl jWW 0 0 jFu _ (by omega) (show 164 < 100000 + 0 by omega) (by decide) (layb_cg hw jWW 1 ly_M)
end
