theorem n104 {q : Nat} {l : List Nat} (hl : l.all (fun y => decide (y < 104)) = true) (hq : 104 ≤ q) : q ∉ l := fun h => by
  have := of_decide_eq_true (List.all_eq_true.mp hl q h)
  omega
theorem nlow {q : Nat} {l : List Nat} (hl : l.all (fun y => decide (104 ≤ y)) = true) (hq : q < 104) : q ∉ l := fun h => by
  have := of_decide_eq_true (List.all_eq_true.mp hl q h)
  omega
/-- the class, then the reference, over one memory -/
theorem step_ok {M : jp_M} {fC : Option (Int32 × jp_M)} {fM : jp_M → Option (Int32 × jp_M)} (hp : ∀ B, Rel M B → pOK fC (fM B)) (wC : ∀ res, fC = some res → ∀ q, 104 ≤ q → res.2 q = M q) (wM : ∀ A res, fM A = some res → ∀ q, q < 104 → res.2 q = A q) (hR : Rel M M) : ∃ r A' B', fC = some (r, A') ∧ fM A' = some (r, B') ∧ Rel B' B' := by
  obtain ⟨r, A', B0, e1, e2, e3⟩ := hp M hR
  have hA := wC _ e1
  obtain ⟨r', A'', B', g1, g2, g3⟩ := hp A' (Rel_cg (fun _ _ => rfl) (fun q hq => hA q hq) hR)
  rw [e1] at g1
  obtain ⟨rfl, rfl⟩ := Prod.mk.inj (Option.some.inj g1)
  have hB := wM _ _ g2
  exact ⟨r, A', B', e1, g2, Rel_cg (fun q hq => hB q hq) (fun _ _ => rfl) g3⟩
theorem map_some {α β : Type} {o : Option α} {f : α → β} {y : β} (h : o.map f = some y) : ∃ x, o = some x ∧ f x = y := by
  cases o with
  | none => cases h
  | some x => exact ⟨x, rfl, Option.some.inj h⟩
theorem jc_rr (r : Int32) : (jp_c .eq r r = true) = True := by simp [jp_c]
/-- the law's loop answers 1 -/
theorem l_law (Ln : Nat) (xs : Nat → Int32) (hL : Ln ≤ 3072) : ∀ d i n w (M : jp_M), Ln ≤ i + d → i ≤ 4000 → d < n → Rel M M → ∃ (w' : Nat) (M' : jp_M), f_LAW_18 Ln xs n (nI i) w M = some (nI 1, w', M') := by
  intro d
  induction d with
  | zero =>
    intro i n w M hd hi hn hR
    obtain ⟨n, rfl⟩ : ∃ k, n = k + 1 := ⟨n - 1, by omega⟩
    refine ⟨w, M, ?_⟩
    have hgt : jp_c .gt (nI i) ((Int32.ofNat Ln) - (6 : Int32)) = true := by
      simp only [jp_c, decide_eq_true_eq]
      show nI Ln - nI 6 < nI i
      by_cases h6 : 6 ≤ Ln
      · rw [n_sub h6, n_lt (by omega) (by omega)]; omega
      · have : Ln = 0 ∨ Ln = 1 ∨ Ln = 2 ∨ Ln = 3 ∨ Ln = 4 ∨ Ln = 5 := by omega
        have hz : nI 0 ≤ nI i := by rw [n_le (by omega) (by omega)]; omega
        refine Int32.lt_of_lt_of_le ?_ hz
        rcases this with rfl | rfl | rfl | rfl | rfl | rfl <;> decide
    rw [f_LAW_18, if_pos hgt]
    rfl
  | succ d ih =>
    intro i n w M hd hi hn hR
    obtain ⟨n, rfl⟩ : ∃ k, n = k + 1 := ⟨n - 1, by omega⟩
    by_cases hgt : jp_c .gt (nI i) ((Int32.ofNat Ln) - (6 : Int32)) = true
    · refine ⟨w, M, ?_⟩
      rw [f_LAW_18, if_pos hgt]
      rfl
    · have hi6 : i + 6 ≤ Ln := by
        apply Classical.byContradiction
        intro hc
        apply hgt
        simp only [jp_c, decide_eq_true_eq]
        show nI Ln - nI 6 < nI i
        by_cases h6 : 6 ≤ Ln
        · rw [n_sub h6, n_lt (by omega) (by omega)]; omega
        · have : Ln = 0 ∨ Ln = 1 ∨ Ln = 2 ∨ Ln = 3 ∨ Ln = 4 ∨ Ln = 5 := by omega
          have hz : nI 0 ≤ nI i := by rw [n_le (by omega) (by omega)]; omega
          refine Int32.lt_of_lt_of_le ?_ hz
          rcases this with rfl | rfl | rfl | rfl | rfl | rfl <;> decide
      have j0 : jp_in (nI i) Ln := by rw [n_in (by omega)]; omega
      have j1 : jp_in (nI i + (1 : Int32)) Ln := by rw [show nI i + (1 : Int32) = nI (i + 1) from n_add i 1, n_in (by omega)]; omega
      have j2 : jp_in (nI i + (2 : Int32)) Ln := by rw [show nI i + (2 : Int32) = nI (i + 2) from n_add i 2, n_in (by omega)]; omega
      have j3 : jp_in (nI i + (3 : Int32)) Ln := by rw [show nI i + (3 : Int32) = nI (i + 3) from n_add i 3, n_in (by omega)]; omega
      have j4 : jp_in (nI i + (4 : Int32)) Ln := by rw [show nI i + (4 : Int32) = nI (i + 4) from n_add i 4, n_in (by omega)]; omega
      have j5 : jp_in (nI i + (5 : Int32)) Ln := by rw [show nI i + (5 : Int32) = nI (i + 5) from n_add i 5, n_in (by omega)]; omega
      have go : ∀ w' M', Rel M' M' → ∃ (w'' : Nat) (M'' : jp_M), f_LAW_1554 Ln xs (f_LAW_18 Ln xs n) (nI i) w' M' = some (nI 1, w'', M'') := by
        intro w' M' hR'
        rw [f_LAW_1554, show nI i + (6 : Int32) = nI (i + 6) from n_add i 6]
        exact ih (i + 6) n w' M' (by omega) (by omega) (by omega) hR'
      rw [f_LAW_18, if_neg hgt, jg_t j0]
      generalize hx1 : xs (Int32.toNatClampNeg (nI i + (1 : Int32))) = x1
      generalize hx2 : xs (Int32.toNatClampNeg (nI i + (2 : Int32))) = x2
      generalize hx3 : xs (Int32.toNatClampNeg (nI i + (3 : Int32))) = x3
      generalize hx4 : xs (Int32.toNatClampNeg (nI i + (4 : Int32))) = x4
      generalize hx5 : xs (Int32.toNatClampNeg (nI i + (5 : Int32))) = x5
      generalize xs (Int32.toNatClampNeg (nI i)) &&& (63 : Int32) = v
      by_cases h0 : v = (0 : Int32)
      · rw [if_pos h0]
        obtain ⟨r, A', B', e1, e2, e3⟩ := step_ok (M := M) (fC := some (f_C_state x1 M)) (fM := fun B => some (f_M_state x1 B)) (fun B hB => p_state x1 hB) (fun res h q hq => w_C_state (Option.some.inj h) q (n104 (by decide) hq)) (fun A res h q hq => w_M_state (Option.some.inj h) q (nlow (by decide) hq)) hR
        have e1 := Option.some.inj e1
        have e2 := Option.some.inj e2
        simp only [jg_t j1, e1, e2, jc_rr, if_true, ↓reduceIte]
        exact go _ _ e3
      rw [if_neg h0]
      by_cases h1 : v = (1 : Int32)
      · rw [if_pos h1]
        obtain ⟨r, A', B', e1, e2, e3⟩ := step_ok (M := M) (fC := f_C_person x1 x2 x3 M) (fM := fun B => f_M_person x1 x2 x3 B) (fun B hB => p_person x1 x2 x3 hB) (fun res h q hq => w_C_person h q (n104 (by decide) hq)) (fun A res h q hq => w_M_person h q (nlow (by decide) hq)) hR
        simp only [jg_t j1, jg_t j2, jg_t j3, e1, e2, Option.bind_some, jc_rr, if_true, ↓reduceIte]
        exact go _ _ e3
      rw [if_neg h1]
      by_cases h2 : v = (2 : Int32)
      · rw [if_pos h2]
        obtain ⟨r, A', B', e1, e2, e3⟩ := step_ok (M := M) (fC := f_C_swallow x1 x2 M) (fM := fun B => f_M_swallow x1 x2 B) (fun B hB => p_swallow x1 x2 hB) (fun res h q hq => w_C_swallow h q (n104 (by decide) hq)) (fun A res h q hq => w_M_swallow h q (nlow (by decide) hq)) hR
        simp only [jg_t j1, jg_t j2, e1, e2, Option.bind_some, jc_rr, if_true, ↓reduceIte]
        exact go _ _ e3
      rw [if_neg h2]
      by_cases h3 : v = (3 : Int32)
      · rw [if_pos h3]
        obtain ⟨r, A', B', e1, e2, e3⟩ := step_ok (M := M) (fC := f_C_set x1 x2 x3 M) (fM := fun B => f_M_set x1 x2 x3 B) (fun B hB => p_set x1 x2 x3 hB) (fun res h q hq => w_C_set h q (n104 (by decide) hq)) (fun A res h q hq => w_M_set h q (nlow (by decide) hq)) hR
        simp only [jg_t j1, jg_t j2, jg_t j3, e1, e2, Option.bind_some, jc_rr, if_true, ↓reduceIte]
        exact go _ _ e3
      rw [if_neg h3]
      by_cases h4 : v = (4 : Int32)
      · rw [if_pos h4]
        obtain ⟨r, A', B', e1, e2, e3⟩ := step_ok (M := M) (fC := f_C_ask x1 x2 x3 x4 x5 M) (fM := fun B => f_M_ask x1 x2 x3 x4 x5 B) (fun B hB => p_ask x1 x2 x3 x4 x5 hB) (fun res h q hq => w_C_ask h q (n104 (by decide) hq)) (fun A res h q hq => w_M_ask h q (nlow (by decide) hq)) hR
        simp only [jg_t j1, jg_t j2, jg_t j3, jg_t j4, jg_t j5, e1, e2, Option.bind_some, jc_rr, if_true, ↓reduceIte]
        exact go _ _ e3
      rw [if_neg h4]
      by_cases h5 : v = (5 : Int32)
      · rw [if_pos h5]
        obtain ⟨r, A', B', e1, e2, e3⟩ := step_ok (M := M) (fC := f_C_take x1 x2 x3 x4 x5 M) (fM := fun B => f_M_take x1 x2 x3 x4 x5 B) (fun B hB => p_take x1 x2 x3 x4 x5 hB) (fun res h q hq => w_C_take h q (n104 (by decide) hq)) (fun A res h q hq => w_M_take h q (nlow (by decide) hq)) hR
        simp only [jg_t j1, jg_t j2, jg_t j3, jg_t j4, jg_t j5, e1, e2, Option.bind_some, jc_rr, if_true, ↓reduceIte]
        exact go _ _ e3
      rw [if_neg h5]
      by_cases h6 : v = (6 : Int32)
      · rw [if_pos h6]
        obtain ⟨r, A', B', e1, e2, e3⟩ := step_ok (M := M) (fC := f_C_ends x1 M) (fM := fun B => f_M_ends x1 B) (fun B hB => p_ends x1 hB) (fun res h q hq => w_C_ends h q (n104 (by decide) hq)) (fun A res h q hq => w_M_ends h q (nlow (by decide) hq)) hR
        simp only [jg_t j1, e1, e2, Option.bind_some, jc_rr, if_true, ↓reduceIte]
        exact go _ _ e3
      rw [if_neg h6]
      by_cases h7 : v = (7 : Int32)
      · rw [if_pos h7]
        obtain ⟨r, A', B', e1, e2, e3⟩ := step_ok (M := M) (fC := f_C_nest x1 x2 M) (fM := fun B => f_M_nest x1 x2 B) (fun B hB => p_nest x1 x2 hB) (fun res h q hq => w_C_nest h q (n104 (by decide) hq)) (fun A res h q hq => w_M_nest h q (nlow (by decide) hq)) hR
        simp only [jg_t j1, jg_t j2, e1, e2, Option.bind_some, jc_rr, if_true, ↓reduceIte]
        exact go _ _ e3
      rw [if_neg h7]
      by_cases h8 : v = (8 : Int32)
      · rw [if_pos h8]
        obtain ⟨r, A', B', e1, e2, e3⟩ := step_ok (M := M) (fC := f_C_days x1 M) (fM := fun B => f_M_days x1 B) (fun B hB => p_days x1 hB) (fun res h q hq => w_C_days h q (n104 (by decide) hq)) (fun A res h q hq => w_M_days h q (nlow (by decide) hq)) hR
        simp only [jg_t j1, e1, e2, Option.bind_some, jc_rr, if_true, ↓reduceIte]
        exact go _ _ e3
      rw [if_neg h8]
      by_cases h9 : v = (9 : Int32)
      · rw [if_pos h9]
        obtain ⟨r, A', B', e1, e2, e3⟩ := step_ok (M := M) (fC := f_C_feed x1 x2 x3 x4 x5 M) (fM := fun B => f_M_feed x1 x2 x3 x4 x5 B) (fun B hB => p_feed x1 x2 x3 x4 x5 hB) (fun res h q hq => w_C_feed h q (n104 (by decide) hq)) (fun A res h q hq => w_M_feed h q (nlow (by decide) hq)) hR
        simp only [jg_t j1, jg_t j2, jg_t j3, jg_t j4, jg_t j5, e1, e2, Option.bind_some, jc_rr, if_true, ↓reduceIte]
        exact go _ _ e3
      rw [if_neg h9]
      by_cases h10 : v = (10 : Int32)
      · rw [if_pos h10]
        obtain ⟨r, A', B', e1, e2, e3⟩ := step_ok (M := M) (fC := some (f_C_end x1 M)) (fM := fun B => some (f_M_end x1 B)) (fun B hB => p_end x1 hB) (fun res h q hq => w_C_end (Option.some.inj h) q (n104 (by decide) hq)) (fun A res h q hq => w_M_end (Option.some.inj h) q (nlow (by decide) hq)) hR
        have e1 := Option.some.inj e1
        have e2 := Option.some.inj e2
        simp only [jg_t j1, e1, e2, jc_rr, if_true, ↓reduceIte]
        exact go _ _ e3
      rw [if_neg h10]
      by_cases h11 : v = (11 : Int32)
      · rw [if_pos h11]
        obtain ⟨r, wt, A', B0, e1, e2, e3, e4⟩ := p_text x1 w hR
        obtain ⟨r', wt', A'', B', g1, g2, g3, g4⟩ := p_text x1 w (Rel_cg (fun _ _ => rfl) (fun q hq => e4 q hq) hR : Rel M A')
        rw [e1] at g1
        obtain ⟨rfl, gg⟩ := Prod.mk.inj (Option.some.inj g1)
        obtain ⟨rfl, rfl⟩ := Prod.mk.inj gg
        have hB := w_M_text g2
        have g5 : Rel B' B' := Rel_cg (fun q hq => hB q (nlow (by decide) hq)) (fun _ _ => rfl) g3
        simp only [jg_t j1, e1, g2, Option.bind_some, jc_rr, if_true, ↓reduceIte]
        exact go _ _ g5
      rw [if_neg h11]
      by_cases h12 : v = (12 : Int32)
      · rw [if_pos h12]
        obtain ⟨r, A', B', e1, e2, e3⟩ := step_ok (M := M) (fC := some (f_C_fault x1 M, M)) (fM := fun B => some (f_M_fault x1 B)) (fun B hB => p_fault x1 hB) (fun res h q hq => by rw [← Option.some.inj h]) (fun A res h q hq => w_M_fault (Option.some.inj h) q (nlow (by decide) hq)) hR
        obtain ⟨f1, rfl⟩ := Prod.mk.inj (Option.some.inj e1)
        have f2 := Option.some.inj e2
        simp only [jg_t j1, f1, f2, jc_rr, if_true, ↓reduceIte]
        exact go _ _ e3
      rw [if_neg h12]
      by_cases h13 : v = (13 : Int32)
      · rw [if_pos h13]
        obtain ⟨r, A', B', e1, e2, e3⟩ := step_ok (M := M) (fC := (f_C_of x1 x2 M).map (fun r => (r, M))) (fM := fun B => f_M_of x1 x2 B) (fun B hB => p_of x1 x2 hB) (fun res h q hq => by obtain ⟨x, h1, h2⟩ := map_some h; rw [← h2]) (fun A res h q hq => w_M_of h q (nlow (by decide) hq)) hR
        obtain ⟨x, h1, h2⟩ := map_some e1
        obtain ⟨rfl, rfl⟩ := Prod.mk.inj h2
        simp only [jg_t j1, jg_t j2, h1, e2, Option.bind_some, jc_rr, if_true, ↓reduceIte]
        exact go _ _ e3
      rw [if_neg h13]
      by_cases h14 : v = (14 : Int32)
      · rw [if_pos h14]
        obtain ⟨r, A', B', e1, e2, e3⟩ := step_ok (M := M) (fC := (f_C_bird x1 x2 M).map (fun r => (r, M))) (fM := fun B => f_M_bird x1 x2 B) (fun B hB => p_bird x1 x2 hB) (fun res h q hq => by obtain ⟨x, h1, h2⟩ := map_some h; rw [← h2]) (fun A res h q hq => w_M_bird h q (nlow (by decide) hq)) hR
        obtain ⟨x, h1, h2⟩ := map_some e1
        obtain ⟨rfl, rfl⟩ := Prod.mk.inj h2
        simp only [jg_t j1, jg_t j2, h1, e2, Option.bind_some, jc_rr, if_true, ↓reduceIte]
        exact go _ _ e3
      rw [if_neg h14]
      by_cases h15 : v = (15 : Int32)
      · rw [if_pos h15]
        obtain ⟨r, A', B', e1, e2, e3⟩ := step_ok (M := M) (fC := f_C_use x1 x2 M) (fM := fun B => f_M_use x1 x2 B) (fun B hB => p_use x1 x2 hB) (fun res h q hq => w_C_use h q (n104 (by decide) hq)) (fun A res h q hq => w_M_use h q (nlow (by decide) hq)) hR
        simp only [jg_t j1, jg_t j2, e1, e2, Option.bind_some, jc_rr, if_true, ↓reduceIte]
        exact go _ _ e3
      rw [if_neg h15]
      by_cases h16 : v = (16 : Int32)
      · rw [if_pos h16]
        obtain ⟨r, A', B', e1, e2, e3⟩ := step_ok (M := M) (fC := (f_C_lease x1 M).map (fun r => (r, M))) (fM := fun B => f_M_lease x1 B) (fun B hB => p_lease x1 hB) (fun res h q hq => by obtain ⟨x, h1, h2⟩ := map_some h; rw [← h2]) (fun A res h q hq => w_M_lease h q (nlow (by decide) hq)) hR
        obtain ⟨x, h1, h2⟩ := map_some e1
        obtain ⟨rfl, rfl⟩ := Prod.mk.inj h2
        simp only [jg_t j1, h1, e2, Option.bind_some, jc_rr, if_true, ↓reduceIte]
        exact go _ _ e3
      rw [if_neg h16]
      by_cases h17 : v = (17 : Int32)
      · rw [if_pos h17]
        obtain ⟨r, A', B', e1, e2, e3⟩ := step_ok (M := M) (fC := (f_C_book x1 x2 M).map (fun r => (r, M))) (fM := fun B => f_M_book x1 x2 B) (fun B hB => p_book x1 x2 hB) (fun res h q hq => by obtain ⟨x, h1, h2⟩ := map_some h; rw [← h2]) (fun A res h q hq => w_M_book h q (nlow (by decide) hq)) hR
        obtain ⟨x, h1, h2⟩ := map_some e1
        obtain ⟨rfl, rfl⟩ := Prod.mk.inj h2
        simp only [jg_t j1, jg_t j2, h1, e2, Option.bind_some, jc_rr, if_true, ↓reduceIte]
        exact go _ _ e3
      rw [if_neg h17]
      by_cases h18 : v = (18 : Int32)
      · rw [if_pos h18]
        obtain ⟨r, A', B', e1, e2, e3⟩ := step_ok (M := M) (fC := f_C_would x1 x2 x3 x4 x5 M) (fM := fun B => f_M_would x1 x2 x3 x4 x5 B) (fun B hB => p_would x1 x2 x3 x4 x5 hB) (fun res h q hq => w_C_would h q (n104 (by decide) hq)) (fun A res h q hq => w_M_would h q (nlow (by decide) hq)) hR
        simp only [jg_t j1, jg_t j2, jg_t j3, jg_t j4, jg_t j5, e1, e2, Option.bind_some, jc_rr, if_true, ↓reduceIte]
        exact go _ _ e3
      rw [if_neg h18]
      by_cases h19 : v = (19 : Int32)
      · rw [if_pos h19]
        obtain ⟨r, A', B', e1, e2, e3⟩ := step_ok (M := M) (fC := f_C_goes x1 x2 M) (fM := fun B => f_M_goes x1 x2 B) (fun B hB => p_goes x1 x2 hB) (fun res h q hq => w_C_goes h q (n104 (by decide) hq)) (fun A res h q hq => w_M_goes h q (nlow (by decide) hq)) hR
        simp only [jg_t j1, jg_t j2, e1, e2, Option.bind_some, jc_rr, if_true, ↓reduceIte]
        exact go _ _ e3
      rw [if_neg h19]
      by_cases h20 : v = (20 : Int32)
      · rw [if_pos h20]
        obtain ⟨r, A', B', e1, e2, e3⟩ := step_ok (M := M) (fC := f_C_through x1 x2 x3 M) (fM := fun B => f_M_through x1 x2 x3 B) (fun B hB => p_through x1 x2 x3 hB) (fun res h q hq => w_C_through h q (n104 (by decide) hq)) (fun A res h q hq => w_M_through h q (nlow (by decide) hq)) hR
        simp only [jg_t j1, jg_t j2, jg_t j3, e1, e2, Option.bind_some, jc_rr, if_true, ↓reduceIte]
        exact go _ _ e3
      rw [if_neg h20]
      by_cases h21 : v = (21 : Int32)
      · rw [if_pos h21]
        obtain ⟨r, A', B', e1, e2, e3⟩ := step_ok (M := M) (fC := f_C_wide x1 M) (fM := fun B => f_M_wide x1 B) (fun B hB => p_wide x1 hB) (fun res h q hq => w_C_wide h q (n104 (by decide) hq)) (fun A res h q hq => w_M_wide h q (nlow (by decide) hq)) hR
        simp only [jg_t j1, e1, e2, Option.bind_some, jc_rr, if_true, ↓reduceIte]
        exact go _ _ e3
      rw [if_neg h21]
      by_cases h22 : v = (22 : Int32)
      · rw [if_pos h22]
        obtain ⟨r, A', B', e1, e2, e3⟩ := step_ok (M := M) (fC := f_C_wish x1 x2 x3 M) (fM := fun B => f_M_wish x1 x2 x3 B) (fun B hB => p_wish x1 x2 x3 hB) (fun res h q hq => w_C_wish h q (n104 (by decide) hq)) (fun A res h q hq => w_M_wish h q (nlow (by decide) hq)) hR
        simp only [jg_t j1, jg_t j2, jg_t j3, e1, e2, Option.bind_some, jc_rr, if_true, ↓reduceIte]
        exact go _ _ e3
      rw [if_neg h22]
      by_cases h23 : v = (23 : Int32)
      · rw [if_pos h23]
        obtain ⟨r, A', B', e1, e2, e3⟩ := step_ok (M := M) (fC := f_C_beside x1 M) (fM := fun B => f_M_beside x1 B) (fun B hB => p_beside x1 hB) (fun res h q hq => w_C_beside h q (n104 (by decide) hq)) (fun A res h q hq => w_M_beside h q (nlow (by decide) hq)) hR
        simp only [jg_t j1, e1, e2, Option.bind_some, jc_rr, if_true, ↓reduceIte]
        exact go _ _ e3
      rw [if_neg h23]
      by_cases h24 : v = (24 : Int32)
      · rw [if_pos h24]
        obtain ⟨r, A', B', e1, e2, e3⟩ := step_ok (M := M) (fC := f_C_kite x1 x2 M) (fM := fun B => f_M_kite x1 x2 B) (fun B hB => p_kite x1 x2 hB) (fun res h q hq => w_C_kite h q (n104 (by decide) hq)) (fun A res h q hq => w_M_kite h q (nlow (by decide) hq)) hR
        simp only [jg_t j1, jg_t j2, e1, e2, Option.bind_some, jc_rr, if_true, ↓reduceIte]
        exact go _ _ e3
      rw [if_neg h24]
      by_cases h25 : v = (25 : Int32)
      · rw [if_pos h25]
        obtain ⟨r, A', B', e1, e2, e3⟩ := step_ok (M := M) (fC := f_C_strings x1 M) (fM := fun B => f_M_strings x1 B) (fun B hB => p_strings x1 hB) (fun res h q hq => w_C_strings h q (n104 (by decide) hq)) (fun A res h q hq => w_M_strings h q (nlow (by decide) hq)) hR
        simp only [jg_t j1, e1, e2, Option.bind_some, jc_rr, if_true, ↓reduceIte]
        exact go _ _ e3
      rw [if_neg h25]
      by_cases h26 : v = (26 : Int32)
      · rw [if_pos h26]
        obtain ⟨r, A', B', e1, e2, e3⟩ := step_ok (M := M) (fC := f_C_way x1 x2 x3 M) (fM := fun B => f_M_way x1 x2 x3 B) (fun B hB => p_way x1 x2 x3 hB) (fun res h q hq => w_C_way h q (n104 (by decide) hq)) (fun A res h q hq => w_M_way h q (nlow (by decide) hq)) hR
        simp only [jg_t j1, jg_t j2, jg_t j3, e1, e2, Option.bind_some, jc_rr, if_true, ↓reduceIte]
        exact go _ _ e3
      rw [if_neg h26]
      by_cases h27 : v = (27 : Int32)
      · rw [if_pos h27]
        obtain ⟨r, A', B', e1, e2, e3⟩ := step_ok (M := M) (fC := f_C_eaves x1 M) (fM := fun B => f_M_eaves x1 B) (fun B hB => p_eaves x1 hB) (fun res h q hq => w_C_eaves h q (n104 (by decide) hq)) (fun A res h q hq => w_M_eaves h q (nlow (by decide) hq)) hR
        simp only [jg_t j1, e1, e2, Option.bind_some, jc_rr, if_true, ↓reduceIte]
        exact go _ _ e3
      rw [if_neg h27]
      by_cases h28 : v = (28 : Int32)
      · rw [if_pos h28]
        obtain ⟨r, A', B', e1, e2, e3⟩ := step_ok (M := M) (fC := f_C_cites x1 x2 M) (fM := fun B => f_M_cites x1 x2 B) (fun B hB => p_cites x1 x2 hB) (fun res h q hq => w_C_cites h q (n104 (by decide) hq)) (fun A res h q hq => w_M_cites h q (nlow (by decide) hq)) hR
        simp only [jg_t j1, jg_t j2, e1, e2, Option.bind_some, jc_rr, if_true, ↓reduceIte]
        exact go _ _ e3
      rw [if_neg h28]
      by_cases h29 : v = (29 : Int32)
      · rw [if_pos h29]
        obtain ⟨r, A', B', e1, e2, e3⟩ := step_ok (M := M) (fC := f_C_voice x1 x2 M) (fM := fun B => f_M_voice x1 x2 B) (fun B hB => p_voice x1 x2 hB) (fun res h q hq => w_C_voice h q (n104 (by decide) hq)) (fun A res h q hq => w_M_voice h q (nlow (by decide) hq)) hR
        simp only [jg_t j1, jg_t j2, e1, e2, Option.bind_some, jc_rr, if_true, ↓reduceIte]
        exact go _ _ e3
      rw [if_neg h29]
      by_cases h30 : v = (30 : Int32)
      · rw [if_pos h30]
        obtain ⟨r, A', B', e1, e2, e3⟩ := step_ok (M := M) (fC := f_C_asked x1 M) (fM := fun B => f_M_asked x1 B) (fun B hB => p_asked x1 hB) (fun res h q hq => w_C_asked h q (n104 (by decide) hq)) (fun A res h q hq => w_M_asked h q (nlow (by decide) hq)) hR
        simp only [jg_t j1, e1, e2, Option.bind_some, jc_rr, if_true, ↓reduceIte]
        exact go _ _ e3
      rw [if_neg h30]
      by_cases h31 : v = (31 : Int32)
      · rw [if_pos h31]
        obtain ⟨r, A', B', e1, e2, e3⟩ := step_ok (M := M) (fC := f_C_upright x1 x2 M) (fM := fun B => f_M_upright x1 x2 B) (fun B hB => p_upright x1 x2 hB) (fun res h q hq => w_C_upright h q (n104 (by decide) hq)) (fun A res h q hq => w_M_upright h q (nlow (by decide) hq)) hR
        simp only [jg_t j1, jg_t j2, e1, e2, Option.bind_some, jc_rr, if_true, ↓reduceIte]
        exact go _ _ e3
      rw [if_neg h31]
      by_cases h32 : v = (32 : Int32)
      · rw [if_pos h32]
        obtain ⟨r, A', B', e1, e2, e3⟩ := step_ok (M := M) (fC := f_C_point x1 x2 x3 x4 M) (fM := fun B => f_M_point x1 x2 x3 x4 B) (fun B hB => p_point x1 x2 x3 x4 hB) (fun res h q hq => w_C_point h q (n104 (by decide) hq)) (fun A res h q hq => w_M_point h q (nlow (by decide) hq)) hR
        simp only [jg_t j1, jg_t j2, jg_t j3, jg_t j4, e1, e2, Option.bind_some, jc_rr, if_true, ↓reduceIte]
        exact go _ _ e3
      rw [if_neg h32]
      by_cases h33 : v = (33 : Int32)
      · rw [if_pos h33]
        obtain ⟨r, A', B', e1, e2, e3⟩ := step_ok (M := M) (fC := f_C_arbiter x1 M) (fM := fun B => f_M_arbiter x1 B) (fun B hB => p_arbiter x1 hB) (fun res h q hq => w_C_arbiter h q (n104 (by decide) hq)) (fun A res h q hq => w_M_arbiter h q (nlow (by decide) hq)) hR
        simp only [jg_t j1, e1, e2, Option.bind_some, jc_rr, if_true, ↓reduceIte]
        exact go _ _ e3
      rw [if_neg h33]
      by_cases h34 : v = (34 : Int32)
      · rw [if_pos h34]
        obtain ⟨r, A', B', e1, e2, e3⟩ := step_ok (M := M) (fC := (f_C_ball x1 x2 x3).map (fun r => (r, M))) (fM := fun B => f_M_ball x1 x2 x3 B) (fun B hB => p_ball x1 x2 x3 hB) (fun res h q hq => by obtain ⟨x, h1, h2⟩ := map_some h; rw [← h2]) (fun A res h q hq => w_M_ball h q (nlow (by decide) hq)) hR
        obtain ⟨x, h1, h2⟩ := map_some e1
        obtain ⟨rfl, rfl⟩ := Prod.mk.inj h2
        simp only [jg_t j1, jg_t j2, jg_t j3, h1, e2, Option.bind_some, jc_rr, if_true, ↓reduceIte]
        exact go _ _ e3
      rw [if_neg h34]
      by_cases h35 : v = (35 : Int32)
      · rw [if_pos h35]
        obtain ⟨r, A', B', e1, e2, e3⟩ := step_ok (M := M) (fC := (f_C_game x1 M).map (fun r => (r, M))) (fM := fun B => f_M_game x1 B) (fun B hB => p_game x1 hB) (fun res h q hq => by obtain ⟨x, h1, h2⟩ := map_some h; rw [← h2]) (fun A res h q hq => w_M_game h q (nlow (by decide) hq)) hR
        obtain ⟨x, h1, h2⟩ := map_some e1
        obtain ⟨rfl, rfl⟩ := Prod.mk.inj h2
        simp only [jg_t j1, h1, e2, Option.bind_some, jc_rr, if_true, ↓reduceIte]
        exact go _ _ e3
      rw [if_neg h35]
      by_cases h36 : v = (36 : Int32)
      · rw [if_pos h36]
        obtain ⟨r, A', B', e1, e2, e3⟩ := step_ok (M := M) (fC := f_C_leaps x1 M) (fM := fun B => f_M_leaps x1 B) (fun B hB => p_leaps x1 hB) (fun res h q hq => w_C_leaps h q (n104 (by decide) hq)) (fun A res h q hq => w_M_leaps h q (nlow (by decide) hq)) hR
        simp only [jg_t j1, e1, e2, Option.bind_some, jc_rr, if_true, ↓reduceIte]
        exact go _ _ e3
      rw [if_neg h36]
      by_cases h37 : v = (37 : Int32)
      · rw [if_pos h37]
        obtain ⟨r, A', B', e1, e2, e3⟩ := step_ok (M := M) (fC := f_C_undo M) (fM := fun B => f_M_undo B) (fun B hB => p_undo hB) (fun res h q hq => w_C_undo h q (n104 (by decide) hq)) (fun A res h q hq => w_M_undo h q (nlow (by decide) hq)) hR
        simp only [e1, e2, Option.bind_some, jc_rr, if_true, ↓reduceIte]
        exact go _ _ e3
      rw [if_neg h37]
      by_cases h38 : v = (38 : Int32)
      · rw [if_pos h38]
        rw [jg_t j1]
        by_cases hz : x1 = (0 : Int32)
        · obtain ⟨r, A', B', e1, e2, e3⟩ := step_ok (M := M) (fC := f_C_image (nI 0) M) (fM := fun B => f_M_image (nI 0) B) (fun B hB => p_image (nI 0) (Or.inl rfl) hB) (fun res h q hq => w_C_image h q (n104 (by decide) hq)) (fun A res h q hq => w_M_image h q (nlow (by decide) hq)) hR
          have e1 : f_C_image (0 : Int32) M = some (r, A') := e1
          have e2 : f_M_image (0 : Int32) A' = some (r, B') := e2
          rw [if_pos (show jp_c .eq x1 0 = true by simp only [jp_c, decide_eq_true_eq]; exact hz), f_LAW_1506, e1, Option.bind_some, jg_t j1, hx1, if_pos (show jp_c .eq x1 0 = true by simp only [jp_c, decide_eq_true_eq]; exact hz), f_LAW_1523, e2, Option.bind_some]
          simp only [jc_rr, if_true, ↓reduceIte]
          exact go _ _ e3
        · obtain ⟨r, A', B', e1, e2, e3⟩ := step_ok (M := M) (fC := f_C_image (nI 1) M) (fM := fun B => f_M_image (nI 1) B) (fun B hB => p_image (nI 1) (Or.inr rfl) hB) (fun res h q hq => w_C_image h q (n104 (by decide) hq)) (fun A res h q hq => w_M_image h q (nlow (by decide) hq)) hR
          have e1 : f_C_image (1 : Int32) M = some (r, A') := e1
          have e2 : f_M_image (1 : Int32) A' = some (r, B') := e2
          rw [if_neg (show ¬ jp_c .eq x1 0 = true by simp only [jp_c, decide_eq_true_eq]; exact hz), f_LAW_1506, e1, Option.bind_some, jg_t j1, hx1, if_neg (show ¬ jp_c .eq x1 0 = true by simp only [jp_c, decide_eq_true_eq]; exact hz), f_LAW_1523, e2, Option.bind_some]
          simp only [jc_rr, if_true, ↓reduceIte]
          exact go _ _ e3
      rw [if_neg h38]
      by_cases h39 : v = (39 : Int32)
      · rw [if_pos h39]
        obtain ⟨r, A', B', e1, e2, e3⟩ := step_ok (M := M) (fC := (f_C_look x1 M).map (fun r => (r, M))) (fM := fun B => f_M_look x1 B) (fun B hB => p_look x1 hB) (fun res h q hq => by obtain ⟨x, h1, h2⟩ := map_some h; rw [← h2]) (fun A res h q hq => w_M_look h q (nlow (by decide) hq)) hR
        obtain ⟨x, h1, h2⟩ := map_some e1
        obtain ⟨rfl, rfl⟩ := Prod.mk.inj h2
        simp only [jg_t j1, h1, e2, Option.bind_some, jc_rr, if_true, ↓reduceIte]
        exact go _ _ e3
      rw [if_neg h39]
      exact go w M hR
theorem jmain_ok : jMain := by
  intro Ln xs hL
  obtain ⟨w, M, h⟩ := l_law Ln xs hL 3072 0 jFu 1000 jM2 (by omega) (by omega) (show 3072 < 100000 by omega) rel0
  exact ⟨w, M, h⟩
