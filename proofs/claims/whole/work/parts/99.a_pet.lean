def pcD (a1 : Int32) (M : jp_M) : Option (Int32 × jp_M) :=
  (f_M_readTold (26 : Int32) (1 : Int32) (30 : Int32) M).bind fun q14 => (
  jg (jp_in (a1 + (6 : Int32)) 224) (
  let M15 := jp_set q14.2 122 (upd (q14.2 122) (Int32.toNatClampNeg (a1 + (6 : Int32))) q14.1)
  jg (jp_in (a1 + (6 : Int32)) 224) (
  if jp_c .ne (M15 122 (Int32.toNatClampNeg (a1 + (6 : Int32)))) (-1 : Int32) = true then (
  (f_M_readMark (59 : Int32) M15).bind fun q18 => (
  some (q18.1, q18.2))) else (
  some ((-1 : Int32), M15)))))
def pcC (a1 : Int32) (M6 : jp_M) : Option (Int32 × jp_M) :=
  if jp_c .ne (M6 104 16) (2 : Int32) = true then (
  f_M_readPetition_86 M6) else (
  if jp_c .ne (f_M_isIn (M6 104 17) (19 : Int32) (24 : Int32)) 0 = true then (
  jg (jp_in (a1 + (2 : Int32)) 224) (
  let M10 := jp_set M6 122 (upd (M6 122) (Int32.toNatClampNeg (a1 + (2 : Int32))) ((M6 104 17) - (19 : Int32)))
  (f_M_reads M10).bind fun q12 => (
  (f_M_readAir a1 q12).bind fun q13 => (
  if jp_c .ne q13.1 (-1 : Int32) = true then (
  pcD a1 (q13.2)) else (
  some ((-1 : Int32), q13.2)))))) else (
  f_M_readPetition_86 M6))
def pcB (a1 : Int32) (M2 : jp_M) : Option (Int32 × jp_M) :=
  (f_M_readTold (18 : Int32) (0 : Int32) ((M2 104 6) - (1 : Int32)) M2).bind fun q5 => (
  jg (jp_in (a1 + (1 : Int32)) 224) (
  let M6 := jp_set q5.2 122 (upd (q5.2 122) (Int32.toNatClampNeg (a1 + (1 : Int32))) q5.1)
  jg (jp_in (a1 + (1 : Int32)) 224) (
  if jp_c .ne (M6 122 (Int32.toNatClampNeg (a1 + (1 : Int32)))) (-1 : Int32) = true then (
  pcC a1 M6) else (
  some ((-1 : Int32), M6)))))
theorem pc_eq (a1 : Int32) (M : jp_M) : f_M_readPetition a1 M = (f_M_readTold (17 : Int32) (0 : Int32) (9999 : Int32) M).bind fun q1 => (
  jg (jp_in a1 224) (
  let M2 := jp_set q1.2 122 (upd (q1.2 122) (Int32.toNatClampNeg a1) q1.1)
  jg (jp_in a1 224) (
  if jp_c .ne (M2 122 (Int32.toNatClampNeg a1)) (-1 : Int32) = true then (
  pcB a1 M2) else (
  some ((-1 : Int32), M2))))) := rfl
def arC (a1 : Int32) (M6 : jp_M) : Option (Int32 × jp_M) :=
  jg (jp_in (a1 + (4 : Int32)) 224) (
  (f_M_readNumber (M6 122 (Int32.toNatClampNeg (a1 + (4 : Int32)))) (7 : Int32) M6).bind fun q10 => (
  jg (jp_in (a1 + (5 : Int32)) 224) (
  let M11 := jp_set q10.2 122 (upd (q10.2 122) (Int32.toNatClampNeg (a1 + (5 : Int32))) q10.1)
  jg (jp_in (a1 + (5 : Int32)) 224) (
  some ((M11 122 (Int32.toNatClampNeg (a1 + (5 : Int32)))), M11)))))
def arB (a1 : Int32) (M2 : jp_M) : Option (Int32 × jp_M) :=
  (f_M_readNumber (0 : Int32) (7 : Int32) M2).bind fun q5 => (
  jg (jp_in (a1 + (4 : Int32)) 224) (
  let M6 := jp_set q5.2 122 (upd (q5.2 122) (Int32.toNatClampNeg (a1 + (4 : Int32))) q5.1)
  jg (jp_in (a1 + (4 : Int32)) 224) (
  if jp_c .ne (M6 122 (Int32.toNatClampNeg (a1 + (4 : Int32)))) (-1 : Int32) = true then (
  arC a1 M6) else (
  some ((-1 : Int32), M6)))))
theorem ar_eq (a1 : Int32) (M : jp_M) : f_M_readAir a1 M = (f_M_readTold (25 : Int32) (0 : Int32) (9 : Int32) M).bind fun q1 => (
  jg (jp_in (a1 + (3 : Int32)) 224) (
  let M2 := jp_set q1.2 122 (upd (q1.2 122) (Int32.toNatClampNeg (a1 + (3 : Int32))) q1.1)
  jg (jp_in (a1 + (3 : Int32)) 224) (
  if jp_c .ne (M2 122 (Int32.toNatClampNeg (a1 + (3 : Int32)))) (-1 : Int32) = true then (
  arB a1 M2) else (
  some ((-1 : Int32), M2))))) := rfl
/-- an answer is laid down, and it goes on if it isn't NONE -/
def sF (o : Option (Int32 × jp_M)) (i : Nat) (K : jp_M → Option (Int32 × jp_M)) : Option (Int32 × jp_M) := o.bind fun q => (if jp_c .ne q.1 (nI 4294967295) = true then K (jp_set q.2 122 (upd (q.2 122) i q.1)) else some (nI 4294967295, jp_set q.2 122 (upd (q.2 122) i q.1)))
theorem sF_no {o : Option (Int32 × jp_M)} {M : jp_M} {i : Nat} {K : jp_M → Option (Int32 × jp_M)} (h : o = some (nI 4294967295, M)) : sF o i K = some (nI 4294967295, jp_set M 122 (upd (M 122) i (nI 4294967295))) := by
  simp only [sF, h, Option.bind_some, jp_c, decide_eq_true_eq, Nat.reduceEqDiff, Nat.reduceAdd, Nat.reduceMul, ite_true, ite_false, if_true, if_false, eq_self_iff_true, ↓reduceIte, and_self, and_true, true_and, and_false, false_and, not_true_eq_false, not_false_eq_true, if_pos, if_neg]
theorem sF_ok {o : Option (Int32 × jp_M)} {M : jp_M} {i v : Nat} {K : jp_M → Option (Int32 × jp_M)} (h : o = some (nI v, M)) (hv : v < 10000) : sF o i K = K (jp_set M 122 (upd (M 122) i (nI v))) := by
  have : ¬ v = 4294967295 := by omega
  simp (disch := omega) only [sF, h, Option.bind_some, jp_c, decide_eq_true_eq, n_eq, this, Nat.reduceEqDiff, Nat.reduceAdd, Nat.reduceMul, ite_true, ite_false, if_true, if_false, eq_self_iff_true, ↓reduceIte, and_self, and_true, true_and, and_false, false_and, not_true_eq_false, not_false_eq_true, if_pos, if_neg]
theorem pc0 {a : Nat} (ha : a + 7 ≤ 224) (M : jp_M) : f_M_readPetition (nI a) M = sF (f_M_readTold (nI 17) (nI 0) (nI 9999) M) a (pcB (nI a)) := by
  simp (disch := omega) only [pc_eq, sF, n_lit, n_neg1, n_in, n_cl, st_ap, ud_ap, jg_t, Nat.reduceEqDiff, Nat.reduceAdd, Nat.reduceMul, ite_true, ite_false, if_true, if_false, eq_self_iff_true, ↓reduceIte, and_self, and_true, true_and, and_false, false_and, not_true_eq_false, not_false_eq_true, if_pos, if_neg]
theorem pc1 {a : Nat} (ha : a + 7 ≤ 224) (M : jp_M) : pcB (nI a) M = sF (f_M_readTold (nI 18) (nI 0) (M 104 6 - nI 1) M) (a + 1) (pcC (nI a)) := by
  simp (disch := omega) only [pcB, sF, n_lit, n_neg1, n_add, n_in, n_cl, st_ap, ud_ap, jg_t, Nat.reduceEqDiff, Nat.reduceAdd, Nat.reduceMul, ite_true, ite_false, if_true, if_false, eq_self_iff_true, ↓reduceIte, and_self, and_true, true_and, and_false, false_and, not_true_eq_false, not_false_eq_true, if_pos, if_neg]
theorem pc6 {a : Nat} (ha : a + 7 ≤ 224) (M : jp_M) : pcD (nI a) M = sF (f_M_readTold (nI 26) (nI 1) (nI 30) M) (a + 6) (fun M15 => (f_M_readMark (nI 59) M15).bind fun q18 => some (q18.1, q18.2)) := by
  simp (disch := omega) only [pcD, sF, n_lit, n_neg1, n_add, n_in, n_cl, st_ap, ud_ap, jg_t, Nat.reduceEqDiff, Nat.reduceAdd, Nat.reduceMul, ite_true, ite_false, if_true, if_false, eq_self_iff_true, ↓reduceIte, and_self, and_true, true_and, and_false, false_and, not_true_eq_false, not_false_eq_true, if_pos, if_neg]
theorem ar3 {a : Nat} (ha : a + 7 ≤ 224) (M : jp_M) : f_M_readAir (nI a) M = sF (f_M_readTold (nI 25) (nI 0) (nI 9) M) (a + 3) (arB (nI a)) := by
  simp (disch := omega) only [ar_eq, sF, n_lit, n_neg1, n_add, n_in, n_cl, st_ap, ud_ap, jg_t, Nat.reduceEqDiff, Nat.reduceAdd, Nat.reduceMul, ite_true, ite_false, if_true, if_false, eq_self_iff_true, ↓reduceIte, and_self, and_true, true_and, and_false, false_and, not_true_eq_false, not_false_eq_true, if_pos, if_neg]
theorem ar4 {a : Nat} (ha : a + 7 ≤ 224) (M : jp_M) : arB (nI a) M = sF (f_M_readNumber (nI 0) (nI 7) M) (a + 4) (arC (nI a)) := by
  simp (disch := omega) only [arB, sF, n_lit, n_neg1, n_add, n_in, n_cl, st_ap, ud_ap, jg_t, Nat.reduceEqDiff, Nat.reduceAdd, Nat.reduceMul, ite_true, ite_false, if_true, if_false, eq_self_iff_true, ↓reduceIte, and_self, and_true, true_and, and_false, false_and, not_true_eq_false, not_false_eq_true, if_pos, if_neg]
theorem ar5 {a : Nat} (ha : a + 7 ≤ 224) (M : jp_M) : arC (nI a) M = (f_M_readNumber (M 122 (a + 4)) (nI 7) M).bind fun q => some (q.1, jp_set q.2 122 (upd (q.2 122) (a + 5) q.1)) := by
  simp (disch := omega) only [arC, n_lit, n_add, n_in, n_cl, st_ap, ud_ap, jg_t, Nat.reduceEqDiff, Nat.reduceAdd, Nat.reduceMul, ite_true, ite_false, if_true, if_false, eq_self_iff_true, ↓reduceIte, and_self, and_true, true_and, and_false, false_and, not_true_eq_false, not_false_eq_true, if_pos, if_neg]
theorem told_w {w : Nat} {lo hi : Int32} {M : jp_M} (h : f_M_isWord (nI w) M = nI 0) : f_M_readTold (nI w) lo hi M = some (nI 4294967295, (f_M_errs (nI 1) M).2) := by
  have fe : (f_M_errs (1 : Int32) M).1 = nI 4294967295 := rfl
  simp (disch := omega) only [f_M_readTold, h, fe, jp_c, decide_eq_true_eq, n_lit, Nat.reduceEqDiff, Nat.reduceAdd, Nat.reduceMul, ite_true, ite_false, if_true, if_false, eq_self_iff_true, ↓reduceIte, and_self, and_true, true_and, and_false, false_and, not_true_eq_false, not_false_eq_true, if_pos, if_neg]
  rfl
theorem told_ok {w : Nat} {lo hi : Int32} {M M1 : jp_M} {q : Int32 × jp_M} (h : f_M_isWord (nI w) M = nI 1) (hd : f_M_reads M = some M1) (hn : f_M_readNumber lo hi M1 = some q) : f_M_readTold (nI w) lo hi M = some q := by
  simp (disch := omega) only [f_M_readTold, h, hd, hn, jp_c, decide_eq_true_eq, n_lit, n_eq, Option.bind_some, Nat.reduceEqDiff, Nat.reduceAdd, Nat.reduceMul, ite_true, ite_false, if_true, if_false, eq_self_iff_true, ↓reduceIte, and_self, and_true, true_and, and_false, false_and, not_true_eq_false, not_false_eq_true, if_pos, if_neg]
theorem mark_w {M : jp_M} (h : f_M_isSign (nI 59) M = nI 0) : f_M_readMark (nI 59) M = some (nI 4294967295, (f_M_errs (nI 1) M).2) := by
  simp (disch := omega) only [f_M_readMark, h, jp_c, decide_eq_true_eq, n_lit, Nat.reduceEqDiff, Nat.reduceAdd, Nat.reduceMul, ite_true, ite_false, if_true, if_false, eq_self_iff_true, ↓reduceIte, and_self, and_true, true_and, and_false, false_and, not_true_eq_false, not_false_eq_true, if_pos, if_neg]
  rfl
theorem mark_ok {M M1 : jp_M} (h : f_M_isSign (nI 59) M = nI 1) (hd : f_M_reads M = some M1) : f_M_readMark (nI 59) M = some (nI 0, M1) := by
  simp (disch := omega) only [f_M_readMark, h, hd, jp_c, decide_eq_true_eq, n_lit, n_eq, Option.bind_some, Nat.reduceEqDiff, Nat.reduceAdd, Nat.reduceMul, ite_true, ite_false, if_true, if_false, eq_self_iff_true, ↓reduceIte, and_self, and_true, true_and, and_false, false_and, not_true_eq_false, not_false_eq_true, if_pos, if_neg]
theorem pi_st {B B' : jp_M} {F : List Nat} {L j v : Nat} (h : ∀ i, i < F.length → B 122 (112 + i) = nI (F.getD i 0)) (kb : B' 122 = B 122) (hj : F.length = 7 * L + j) : ∀ i, i < (F ++ [v]).length → (jp_set B' 122 (upd (B' 122) (112 + 7 * L + j) (nI v))) 122 (112 + i) = nI ((F ++ [v]).getD i 0) := by
  intro i hi
  rw [ln_s] at hi
  rw [st_same]
  by_cases he : i = F.length
  · rw [ud_eq (by omega), gd_r he]
  · rw [ud_ne (by omega), gd_l (by omega), kb]; exact h i (by omega)
theorem l_pet {N : Nat} {t : Nat → Nat} {A0 B0 A B : jp_M} {p n k x : Nat} {F : List Nat} {L P : Nat} (h : YS 1 N t A0 B0 A B p n k x F L) (hF : F.length = 7 * L) (hL : L < 16) (pi0 : ∀ i, i < F.length → B 122 (112 + i) = nI (F.getD i 0)) (hPA : A0 77 4 = nI P) (hPB : B0 104 6 = nI P) (hP : P ≤ 10) :
    (∃ A' B', f_IR_line (nI 1) 1001 A = some (nI 0, A') ∧ f_M_readPetition (nI (112 + 7 * L)) B = some (nI 4294967295, B') ∧ Fl2 A0 B0 A' B') ∨
    (∃ A' B' p' n' k' x' v0 v1 v2 v3 v4 v5 v6, f_IR_line (nI 1) 1001 A = some (nI 1, A') ∧ f_M_readPetition (nI (112 + 7 * L)) B = some (nI 0, B') ∧ YS 1 N t A0 B0 A' B' p' n' k' x' (F ++ [v0] ++ [v1] ++ [v2] ++ [v3] ++ [v4] ++ [v5] ++ [v6]) L ∧
      (∀ i, i < (F ++ [v0] ++ [v1] ++ [v2] ++ [v3] ++ [v4] ++ [v5] ++ [v6]).length → B' 122 (112 + i) = nI ((F ++ [v0] ++ [v1] ++ [v2] ++ [v3] ++ [v4] ++ [v5] ++ [v6]).getD i 0)) ∧ v1 < P ∧ v3 ≤ 9 ∧ v4 ≤ v5 ∧ v5 ≤ 7) := by
  have ha : 112 + 7 * L + 7 ≤ 224 := by omega
  rcases y_w h (w := 0) (by decide) (by omega) with ⟨Af, fc, fr, ff⟩ | ⟨A1, B1, p1, n1, k1, x1, c1, i1, d1, h1, b1, m1⟩
  · rw [show jlo 1 + 0 = 17 from rfl] at fr
    refine Or.inl ⟨Af, jp_set (f_M_errs (nI 1) B).2 122 (upd ((f_M_errs (nI 1) B).2 122) (112 + 7 * L + 0) (nI 4294967295)), ?_, ?_, fl2_st ff (Or.inl ⟨rfl, by omega⟩) _⟩
    · simp (disch := omega) only [fc, f_IR_line, f_IR_line_61, f_IR_petition, jp_c, decide_eq_true_eq, n_lit, n_eq, Option.bind_some, Nat.reduceEqDiff, Nat.reduceAdd, Nat.reduceMul, ite_true, ite_false, if_true, if_false, eq_self_iff_true, ↓reduceIte, and_self, and_true, true_and, and_false, false_and, not_true_eq_false, not_false_eq_true, if_pos, if_neg]
    · rw [pc0 ha]; exact sF_no (told_w fr)
  · rw [show jlo 1 + 0 = 17 from rfl] at i1
    have pi0_1 : ∀ i, i < (F).length → B1 122 (112 + i) = nI ((F).getD i 0) := fun i hi => by rw [b1.1]; exact pi0 i hi
    have ln2 : (F).length = 7 * L + 0 := by simp only [ln_s, hF, Nat.add_zero]
    rcases y_n h1 (by rw [ln2]; omega) (lo := 0) (hi := nI 9999) (by omega) (hi_lit (by omega)) with ⟨Af, Bf, fc, fr, ff⟩ | ⟨A2, Bq2, p2, n2, k2, x2, v0, -, c2, d2, lo2, hi2, ten2, hh2, l2, b2⟩
    · refine Or.inl ⟨Af, jp_set Bf 122 (upd (Bf 122) (112 + 7 * L + 0) (nI 4294967295)), ?_, ?_, fl2_st ff (Or.inl ⟨rfl, by omega⟩) _⟩
      · simp (disch := omega) only [c1, fc, f_IR_line, f_IR_line_61, f_IR_petition, jp_c, decide_eq_true_eq, n_lit, n_eq, Option.bind_some, Nat.reduceEqDiff, Nat.reduceAdd, Nat.reduceMul, ite_true, ite_false, if_true, if_false, eq_self_iff_true, ↓reduceIte, and_self, and_true, true_and, and_false, false_and, not_true_eq_false, not_false_eq_true, if_pos, if_neg]
      · rw [pc0 ha]; exact sF_no (told_ok i1 d1 fr)
    · have h2 := y_st hh2 (q := 122) (j := 112 + 7 * L + 0) (Or.inl ⟨rfl, by omega⟩) (nI v0)
      have pj2 := pi_st (B := B1) (B' := Bq2) (F := F) (L := L) (j := 0) (v := v0) pi0_1 b2.1 ln2
      have r2 : (jp_set Bq2 122 (upd (Bq2 122) (112 + 7 * L + 0) (nI v0))) 122 (112 + 7 * L + 0) = nI v0 := by rw [st_same, ud_eq rfl]
      have E2 : f_M_readPetition (nI (112 + 7 * L)) B = pcB (nI (112 + 7 * L)) (jp_set Bq2 122 (upd (Bq2 122) (112 + 7 * L + 0) (nI v0))) := by rw [pc0 ha]; exact sF_ok (told_ok i1 d1 d2) ten2
      generalize jp_set Bq2 122 (upd (Bq2 122) (112 + 7 * L + 0) (nI v0)) = B2 at h2 pj2 r2 E2
      rcases y_w h2 (w := 1) (by decide) (by omega) with ⟨Af, fc, fr, ff⟩ | ⟨A3, B3, p3, n3, k3, x3, c3, i3, d3, h3, b3, m3⟩
      · rw [show jlo 1 + 1 = 18 from rfl] at fr
        refine Or.inl ⟨Af, jp_set (f_M_errs (nI 1) B2).2 122 (upd ((f_M_errs (nI 1) B2).2 122) (112 + 7 * L + 1) (nI 4294967295)), ?_, ?_, fl2_st ff (Or.inl ⟨rfl, by omega⟩) _⟩
        · simp (disch := omega) only [c1, c2, fc, f_IR_line, f_IR_line_61, f_IR_petition, jp_c, decide_eq_true_eq, n_lit, n_eq, Option.bind_some, Nat.reduceEqDiff, Nat.reduceAdd, Nat.reduceMul, ite_true, ite_false, if_true, if_false, eq_self_iff_true, ↓reduceIte, and_self, and_true, true_and, and_false, false_and, not_true_eq_false, not_false_eq_true, if_pos, if_neg]
        · rw [E2, pc1 ha]; exact sF_no (told_w fr)
      · rw [show jlo 1 + 1 = 18 from rfl] at i3
        have pj2_3 : ∀ i, i < (F ++ [v0]).length → B3 122 (112 + i) = nI ((F ++ [v0]).getD i 0) := fun i hi => by rw [b3.1]; exact pj2 i hi
        have a77 : A3 77 4 = nI P := by rw [h3.2.1.2.2 4 (by decide)]; exact hPA
        have b6 : B2 104 6 = nI P := by rw [h2.2.2.1.2.1 6 (by decide)]; exact hPB
        have ln4 : (F ++ [v0]).length = 7 * L + 1 := by simp only [ln_s, hF, Nat.add_zero]
        rcases y_n h3 (by rw [ln4]; omega) (lo := 0) (hi := nI P - nI 1) (by omega) (hi_sub hP) with ⟨Af, Bf, fc, fr, ff⟩ | ⟨A4, Bq4, p4, n4, k4, x4, v1, -, c4, d4, lo4, hi4, ten4, hh4, l4, b4⟩
        · refine Or.inl ⟨Af, jp_set Bf 122 (upd (Bf 122) (112 + 7 * L + 1) (nI 4294967295)), ?_, ?_, fl2_st ff (Or.inl ⟨rfl, by omega⟩) _⟩
          · simp (disch := omega) only [c1, c2, c3, a77, fc, f_IR_line, f_IR_line_61, f_IR_petition, jp_c, decide_eq_true_eq, n_lit, n_eq, Option.bind_some, Nat.reduceEqDiff, Nat.reduceAdd, Nat.reduceMul, ite_true, ite_false, if_true, if_false, eq_self_iff_true, ↓reduceIte, and_self, and_true, true_and, and_false, false_and, not_true_eq_false, not_false_eq_true, if_pos, if_neg]
          · rw [E2, pc1 ha, b6]; exact sF_no (told_ok i3 d3 fr)
        · have h4 := y_st hh4 (q := 122) (j := 112 + 7 * L + 1) (Or.inl ⟨rfl, by omega⟩) (nI v1)
          have pj4 := pi_st (B := B3) (B' := Bq4) (F := F ++ [v0]) (L := L) (j := 1) (v := v1) pj2_3 b4.1 ln4
          have r4 : (jp_set Bq4 122 (upd (Bq4 122) (112 + 7 * L + 1) (nI v1))) 122 (112 + 7 * L + 1) = nI v1 := by rw [st_same, ud_eq rfl]
          have E4 : f_M_readPetition (nI (112 + 7 * L)) B = pcC (nI (112 + 7 * L)) (jp_set Bq4 122 (upd (Bq4 122) (112 + 7 * L + 1) (nI v1))) := by rw [E2, pc1 ha, b6]; exact sF_ok (told_ok i3 d3 d4) ten4
          generalize jp_set Bq4 122 (upd (Bq4 122) (112 + 7 * L + 1) (nI v1)) = B4 at h4 pj4 r4 E4
          have ln5 : (F ++ [v0] ++ [v1]).length = 7 * L + 2 := by simp only [ln_s, hF, Nat.add_zero]
          rcases y_k h4 (by rw [ln5]; omega) with ⟨Af, fc, fr, ff⟩ | ⟨Ak, v2, v26, kc, tk, tz, tv, hk⟩
          · refine Or.inl ⟨Af, (f_M_errs (nI 1) B4).2, ?_, ?_, ff⟩
            · simp (disch := omega) only [c1, c2, c3, a77, c4, fc, f_IR_line, f_IR_line_61, f_IR_petition, jp_c, decide_eq_true_eq, n_lit, n_eq, Option.bind_some, Nat.reduceEqDiff, Nat.reduceAdd, Nat.reduceMul, ite_true, ite_false, if_true, if_false, eq_self_iff_true, ↓reduceIte, and_self, and_true, true_and, and_false, false_and, not_true_eq_false, not_false_eq_true, if_pos, if_neg]
            · rw [E4]
              rcases fr with fr | ⟨fr, fr2⟩
              · simp (disch := omega) only [pcC, f_M_readPetition_86, fr, jp_c, decide_eq_true_eq, n_lit, Nat.reduceEqDiff, Nat.reduceAdd, Nat.reduceMul, ite_true, ite_false, if_true, if_false, eq_self_iff_true, ↓reduceIte, and_self, and_true, true_and, and_false, false_and, not_true_eq_false, not_false_eq_true, if_pos, if_neg]
                rfl
              · simp (disch := omega) only [pcC, f_M_readPetition_86, fr, fr2, jp_c, decide_eq_true_eq, n_lit, Nat.reduceEqDiff, Nat.reduceAdd, Nat.reduceMul, ite_true, ite_false, if_true, if_false, eq_self_iff_true, ↓reduceIte, and_self, and_true, true_and, and_false, false_and, not_true_eq_false, not_false_eq_true, if_pos, if_neg]
                rfl
          · have hk5 := y_st hk (q := 122) (j := 112 + 7 * L + 2) (Or.inl ⟨rfl, by omega⟩) (nI v2)
            have pj5 := pi_st (B := B4) (B' := B4) (F := F ++ [v0] ++ [v1]) (L := L) (j := 2) (v := v2) pj4 rfl ln5
            obtain ⟨A6, B6, p6, n6, k6, x6, c6, d6, h6, b6', m6⟩ := y_adv hk5
            have E6 : f_M_readPetition (nI (112 + 7 * L)) B = (f_M_readAir (nI (112 + 7 * L)) B6).bind fun q13 => (if jp_c .ne q13.1 (nI 4294967295) = true then pcD (nI (112 + 7 * L)) (q13.2) else some (nI 4294967295, q13.2)) := by
              rw [E4, pcC, n_lit, tk, n_lit, n_lit, tz]
              have n0 : jp_c .ne (nI 2) (nI 2) = false := by decide
              have n1 : jp_c .ne (nI 1) (nI 0) = true := by decide
              simp (disch := omega) only [n_lit, n_neg1, n_add, n_in, n_cl, n0, n1, tv, d6, jg_t, Option.bind_some, Bool.false_eq_true, Nat.reduceEqDiff, Nat.reduceAdd, Nat.reduceMul, ite_true, ite_false, if_true, if_false, eq_self_iff_true, ↓reduceIte, and_self, and_true, true_and, and_false, false_and, not_true_eq_false, not_false_eq_true, if_pos, if_neg]
            generalize jp_set B4 122 (upd (B4 122) (112 + 7 * L + 2) (nI v2)) = B5 at hk5 pj5 d6 b6'
            rw [c6, Option.bind_some] at kc
            have pj6 : ∀ i, i < (F ++ [v0] ++ [v1] ++ [v2]).length → B6 122 (112 + i) = nI ((F ++ [v0] ++ [v1] ++ [v2]).getD i 0) := fun i hi => by rw [b6'.1]; exact pj5 i hi
            rcases y_w h6 (w := 8) (by decide) (by omega) with ⟨Af, fc, fr, ff⟩ | ⟨A7, B7, p7, n7, k7, x7, c7, i7, d7, h7, b7, m7⟩
            · rw [show jlo 1 + 8 = 25 from rfl] at fr
              refine Or.inl ⟨Af, jp_set (f_M_errs (nI 1) B6).2 122 (upd ((f_M_errs (nI 1) B6).2 122) (112 + 7 * L + 3) (nI 4294967295)), ?_, ?_, fl2_st ff (Or.inl ⟨rfl, by omega⟩) _⟩
              · simp (disch := omega) only [c1, c2, c3, a77, c4, kc, fc, f_IR_line, f_IR_line_61, f_IR_petition, jp_c, decide_eq_true_eq, n_lit, n_eq, Option.bind_some, Nat.reduceEqDiff, Nat.reduceAdd, Nat.reduceMul, ite_true, ite_false, if_true, if_false, eq_self_iff_true, ↓reduceIte, and_self, and_true, true_and, and_false, false_and, not_true_eq_false, not_false_eq_true, if_pos, if_neg]
              · rw [E6, ar3 ha, sF_no (told_w fr)]; rfl
            · rw [show jlo 1 + 8 = 25 from rfl] at i7
              have pj6_7 : ∀ i, i < (F ++ [v0] ++ [v1] ++ [v2]).length → B7 122 (112 + i) = nI ((F ++ [v0] ++ [v1] ++ [v2]).getD i 0) := fun i hi => by rw [b7.1]; exact pj6 i hi
              have ln8 : (F ++ [v0] ++ [v1] ++ [v2]).length = 7 * L + 3 := by simp only [ln_s, hF, Nat.add_zero]
              rcases y_n h7 (by rw [ln8]; omega) (lo := 0) (hi := nI 9) (by omega) (hi_lit (by omega)) with ⟨Af, Bf, fc, fr, ff⟩ | ⟨A8, Bq8, p8, n8, k8, x8, v3, -, c8, d8, lo8, hi8, ten8, hh8, l8, b8⟩
              · refine Or.inl ⟨Af, jp_set Bf 122 (upd (Bf 122) (112 + 7 * L + 3) (nI 4294967295)), ?_, ?_, fl2_st ff (Or.inl ⟨rfl, by omega⟩) _⟩
                · simp (disch := omega) only [c1, c2, c3, a77, c4, kc, c7, fc, f_IR_line, f_IR_line_61, f_IR_petition, jp_c, decide_eq_true_eq, n_lit, n_eq, Option.bind_some, Nat.reduceEqDiff, Nat.reduceAdd, Nat.reduceMul, ite_true, ite_false, if_true, if_false, eq_self_iff_true, ↓reduceIte, and_self, and_true, true_and, and_false, false_and, not_true_eq_false, not_false_eq_true, if_pos, if_neg]
                · rw [E6, ar3 ha, sF_no (told_ok i7 d7 fr)]; rfl
              · have h8 := y_st hh8 (q := 122) (j := 112 + 7 * L + 3) (Or.inl ⟨rfl, by omega⟩) (nI v3)
                have pj8 := pi_st (B := B7) (B' := Bq8) (F := F ++ [v0] ++ [v1] ++ [v2]) (L := L) (j := 3) (v := v3) pj6_7 b8.1 ln8
                have r8 : (jp_set Bq8 122 (upd (Bq8 122) (112 + 7 * L + 3) (nI v3))) 122 (112 + 7 * L + 3) = nI v3 := by rw [st_same, ud_eq rfl]
                have E8 : f_M_readAir (nI (112 + 7 * L)) B6 = arB (nI (112 + 7 * L)) (jp_set Bq8 122 (upd (Bq8 122) (112 + 7 * L + 3) (nI v3))) := by rw [ar3 ha]; exact sF_ok (told_ok i7 d7 d8) ten8
                generalize jp_set Bq8 122 (upd (Bq8 122) (112 + 7 * L + 3) (nI v3)) = B8 at h8 pj8 r8 E8
                have ln9 : (F ++ [v0] ++ [v1] ++ [v2] ++ [v3]).length = 7 * L + 4 := by simp only [ln_s, hF, Nat.add_zero]
                rcases y_n h8 (by rw [ln9]; omega) (lo := 0) (hi := nI 7) (by omega) (hi_lit (by omega)) with ⟨Af, Bf, fc, fr, ff⟩ | ⟨A9, Bq9, p9, n9, k9, x9, v4, -, c9, d9, lo9, hi9, ten9, hh9, l9, b9⟩
                · refine Or.inl ⟨Af, jp_set Bf 122 (upd (Bf 122) (112 + 7 * L + 4) (nI 4294967295)), ?_, ?_, fl2_st ff (Or.inl ⟨rfl, by omega⟩) _⟩
                  · simp (disch := omega) only [c1, c2, c3, a77, c4, kc, c7, c8, fc, f_IR_line, f_IR_line_61, f_IR_petition, jp_c, decide_eq_true_eq, n_lit, n_eq, Option.bind_some, Nat.reduceEqDiff, Nat.reduceAdd, Nat.reduceMul, ite_true, ite_false, if_true, if_false, eq_self_iff_true, ↓reduceIte, and_self, and_true, true_and, and_false, false_and, not_true_eq_false, not_false_eq_true, if_pos, if_neg]
                  · rw [E6, E8, ar4 ha, sF_no fr]; rfl
                · have h9 := y_st hh9 (q := 122) (j := 112 + 7 * L + 4) (Or.inl ⟨rfl, by omega⟩) (nI v4)
                  have pj9 := pi_st (B := B8) (B' := Bq9) (F := F ++ [v0] ++ [v1] ++ [v2] ++ [v3]) (L := L) (j := 4) (v := v4) pj8 b9.1 ln9
                  have r9 : (jp_set Bq9 122 (upd (Bq9 122) (112 + 7 * L + 4) (nI v4))) 122 (112 + 7 * L + 4) = nI v4 := by rw [st_same, ud_eq rfl]
                  have E9 : f_M_readAir (nI (112 + 7 * L)) B6 = arC (nI (112 + 7 * L)) (jp_set Bq9 122 (upd (Bq9 122) (112 + 7 * L + 4) (nI v4))) := by rw [E8, ar4 ha]; exact sF_ok d9 ten9
                  generalize jp_set Bq9 122 (upd (Bq9 122) (112 + 7 * L + 4) (nI v4)) = B9 at h9 pj9 r9 E9
                  have l77 : A9 77 3 = nI v4 := l9
                  have ln10 : (F ++ [v0] ++ [v1] ++ [v2] ++ [v3] ++ [v4]).length = 7 * L + 5 := by simp only [ln_s, hF, Nat.add_zero]
                  rcases y_n h9 (by rw [ln10]; omega) (lo := v4) (hi := nI 7) (by omega) (hi_lit (by omega)) with ⟨Af, Bf, fc, fr, ff⟩ | ⟨A10, Bq10, p10, n10, k10, x10, v5, -, c10, d10, lo10, hi10, ten10, hh10, l10, b10⟩
                  · refine Or.inl ⟨Af, jp_set Bf 122 (upd (Bf 122) (112 + 7 * L + 5) (nI 4294967295)), ?_, ?_, fl2_st ff (Or.inl ⟨rfl, by omega⟩) _⟩
                    · simp (disch := omega) only [c1, c2, c3, a77, c4, kc, c7, c8, c9, l77, fc, f_IR_line, f_IR_line_61, f_IR_petition, jp_c, decide_eq_true_eq, n_lit, n_eq, Option.bind_some, Nat.reduceEqDiff, Nat.reduceAdd, Nat.reduceMul, ite_true, ite_false, if_true, if_false, eq_self_iff_true, ↓reduceIte, and_self, and_true, true_and, and_false, false_and, not_true_eq_false, not_false_eq_true, if_pos, if_neg]
                    · rw [E6, E9, ar5 ha, r9, fr]; rfl
                  · have h10 := y_st hh10 (q := 122) (j := 112 + 7 * L + 5) (Or.inl ⟨rfl, by omega⟩) (nI v5)
                    have pj10 := pi_st (B := B9) (B' := Bq10) (F := F ++ [v0] ++ [v1] ++ [v2] ++ [v3] ++ [v4]) (L := L) (j := 5) (v := v5) pj9 b10.1 ln10
                    have r10 : (jp_set Bq10 122 (upd (Bq10 122) (112 + 7 * L + 5) (nI v5))) 122 (112 + 7 * L + 5) = nI v5 := by rw [st_same, ud_eq rfl]
                    have E10 : f_M_readPetition (nI (112 + 7 * L)) B = pcD (nI (112 + 7 * L)) (jp_set Bq10 122 (upd (Bq10 122) (112 + 7 * L + 5) (nI v5))) := by
                      have nv : jp_c .ne (nI v5) (nI 4294967295) = true := by simp only [jp_c, decide_eq_true_eq]; rw [n_eq (by omega) (by omega)]; omega
                      rw [E6, E9, ar5 ha, r9, d10, Option.bind_some, Option.bind_some, if_pos nv]
                    generalize jp_set Bq10 122 (upd (Bq10 122) (112 + 7 * L + 5) (nI v5)) = B10 at h10 pj10 r10 E10
                    rcases y_w h10 (w := 9) (by decide) (by omega) with ⟨Af, fc, fr, ff⟩ | ⟨A11, B11, p11, n11, k11, x11, c11, i11, d11, h11, b11, m11⟩
                    · rw [show jlo 1 + 9 = 26 from rfl] at fr
                      refine Or.inl ⟨Af, jp_set (f_M_errs (nI 1) B10).2 122 (upd ((f_M_errs (nI 1) B10).2 122) (112 + 7 * L + 6) (nI 4294967295)), ?_, ?_, fl2_st ff (Or.inl ⟨rfl, by omega⟩) _⟩
                      · simp (disch := omega) only [c1, c2, c3, a77, c4, kc, c7, c8, c9, l77, c10, fc, f_IR_line, f_IR_line_61, f_IR_petition, jp_c, decide_eq_true_eq, n_lit, n_eq, Option.bind_some, Nat.reduceEqDiff, Nat.reduceAdd, Nat.reduceMul, ite_true, ite_false, if_true, if_false, eq_self_iff_true, ↓reduceIte, and_self, and_true, true_and, and_false, false_and, not_true_eq_false, not_false_eq_true, if_pos, if_neg]
                      · rw [E10, pc6 ha]; exact sF_no (told_w fr)
                    · rw [show jlo 1 + 9 = 26 from rfl] at i11
                      have pj10_11 : ∀ i, i < (F ++ [v0] ++ [v1] ++ [v2] ++ [v3] ++ [v4] ++ [v5]).length → B11 122 (112 + i) = nI ((F ++ [v0] ++ [v1] ++ [v2] ++ [v3] ++ [v4] ++ [v5]).getD i 0) := fun i hi => by rw [b11.1]; exact pj10 i hi
                      have ln12 : (F ++ [v0] ++ [v1] ++ [v2] ++ [v3] ++ [v4] ++ [v5]).length = 7 * L + 6 := by simp only [ln_s, hF, Nat.add_zero]
                      rcases y_n h11 (by rw [ln12]; omega) (lo := 1) (hi := nI 30) (by omega) (hi_lit (by omega)) with ⟨Af, Bf, fc, fr, ff⟩ | ⟨A12, Bq12, p12, n12, k12, x12, v6, -, c12, d12, lo12, hi12, ten12, hh12, l12, b12⟩
                      · refine Or.inl ⟨Af, jp_set Bf 122 (upd (Bf 122) (112 + 7 * L + 6) (nI 4294967295)), ?_, ?_, fl2_st ff (Or.inl ⟨rfl, by omega⟩) _⟩
                        · simp (disch := omega) only [c1, c2, c3, a77, c4, kc, c7, c8, c9, l77, c10, c11, fc, f_IR_line, f_IR_line_61, f_IR_petition, jp_c, decide_eq_true_eq, n_lit, n_eq, Option.bind_some, Nat.reduceEqDiff, Nat.reduceAdd, Nat.reduceMul, ite_true, ite_false, if_true, if_false, eq_self_iff_true, ↓reduceIte, and_self, and_true, true_and, and_false, false_and, not_true_eq_false, not_false_eq_true, if_pos, if_neg]
                        · rw [E10, pc6 ha]; exact sF_no (told_ok i11 d11 fr)
                      · have h12 := y_st hh12 (q := 122) (j := 112 + 7 * L + 6) (Or.inl ⟨rfl, by omega⟩) (nI v6)
                        have pj12 := pi_st (B := B11) (B' := Bq12) (F := F ++ [v0] ++ [v1] ++ [v2] ++ [v3] ++ [v4] ++ [v5]) (L := L) (j := 6) (v := v6) pj10_11 b12.1 ln12
                        have r12 : (jp_set Bq12 122 (upd (Bq12 122) (112 + 7 * L + 6) (nI v6))) 122 (112 + 7 * L + 6) = nI v6 := by rw [st_same, ud_eq rfl]
                        have E12 : f_M_readPetition (nI (112 + 7 * L)) B = (f_M_readMark (nI 59) (jp_set Bq12 122 (upd (Bq12 122) (112 + 7 * L + 6) (nI v6)))).bind fun q18 => some (q18.1, q18.2) := by rw [E10, pc6 ha]; exact sF_ok (told_ok i11 d11 d12) ten12
                        generalize jp_set Bq12 122 (upd (Bq12 122) (112 + 7 * L + 6) (nI v6)) = B12 at h12 pj12 r12 E12
                        rcases y_s h12 with ⟨Af, fc, fr, ff⟩ | ⟨A13, B13, p13, n13, k13, x13, c13, i13, d13, h13, b13⟩
                        · refine Or.inl ⟨Af, (f_M_errs (nI 1) B12).2, ?_, ?_, ff⟩
                          · simp (disch := omega) only [c1, c2, c3, a77, c4, kc, c7, c8, c9, l77, c10, c11, c12, fc, f_IR_line, f_IR_line_61, f_IR_petition, jp_c, decide_eq_true_eq, n_lit, n_eq, Option.bind_some, Nat.reduceEqDiff, Nat.reduceAdd, Nat.reduceMul, ite_true, ite_false, if_true, if_false, eq_self_iff_true, ↓reduceIte, and_self, and_true, true_and, and_false, false_and, not_true_eq_false, not_false_eq_true, if_pos, if_neg]
                          · rw [E12, mark_w fr]; rfl
                        · refine Or.inr ⟨A13, B13, p13, n13, k13, x13, v0, v1, v2, v3, v4, v5, v6, ?_, ?_, h13, fun i hi => by rw [b13.1]; exact pj12 i hi, by omega, by omega, by omega, by omega⟩
                          · simp (disch := omega) only [c1, c2, c3, a77, c4, kc, c7, c8, c9, l77, c10, c11, c12, c13, f_IR_line, f_IR_line_61, f_IR_petition, jp_c, decide_eq_true_eq, n_lit, n_eq, Option.bind_some, Nat.reduceEqDiff, Nat.reduceAdd, Nat.reduceMul, ite_true, ite_false, if_true, if_false, eq_self_iff_true, ↓reduceIte, and_self, and_true, true_and, and_false, false_and, not_true_eq_false, not_false_eq_true, if_pos, if_neg]
                          · rw [E12, mark_ok i13 d13]; rfl
