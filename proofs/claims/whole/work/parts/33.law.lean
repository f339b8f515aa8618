/-! SwallowsAir$LawReader.clause(I)Z -/
def f_LR_clause_24 (op : Int32 → Nat → jp_M → Option (Int32 × jp_M))  (l1 : Int32) (w : Nat) (M : jp_M) : Option (Int32 × jp_M) :=
  if jp_c .ge l1 (8 : Int32) = true then (
  let q1 := f_R_fails (3 : Int32) M
  some (q1.1, q1.2)) else (
  (op (l1 + (1 : Int32)) w M).bind fun q2 => (
  some (q2.1, q2.2)))
theorem t_LR_clause_24 {Ln : Nat} {xs : Nat → Int32} {sv : jp_V} {op : Int32 → Nat → jp_M → Option (Int32 × jp_M)} {hh : Nat} (hop : ∀ {a : Int32} {w : Nat} {M : jp_M} {res : Int32 × jp_M}, op a w M = some res → jE (jZ (jK Ln xs sv)) hh 47 [(.inr (some 69)), (.inl a)] (jSH w) M (some (.inl res.1), jSH w, res.2)) (bop : ∀ {a : Int32} {w : Nat} {M : jp_M} {res : Int32 × jp_M}, op a w M = some res → (res.1 = 0 ∨ res.1 = 1)) {d : Nat} (hd : hh + 8 ≤ d)  (l1 : Int32) (o2 : Option jp_V) (w : Nat) (M : jp_M) {res : Int32 × jp_M} (hf : f_LR_clause_24 op  l1 w M = some res) : jR (jZ (jK Ln xs sv)) d 46 24 ([some (.inr (some 69)), some (.inl l1), o2], [], jSH w, M) (some (.inl res.1), jSH w, res.2) := by
  unfold f_LR_clause_24 at hf
  refine jR_in rfl ⟨rfl, rfl, rfl⟩ rfl ?_
  refine js_iload_n rfl ?_
  refine js_bipush (v := (8 : Int32)) rfl ?_
  refine js_icmp (tgt := 40) rfl rfl (fun h => ?_) (fun h => ?_)
  · have hf := jif_t hf h
    refine jR_in rfl ⟨rfl, rfl, rfl⟩ rfl ?_
    refine js_aload_n rfl ?_
    refine js_getr rfl rfl rfl ?_
    refine js_iconst (v := (3 : Int32)) rfl ?_
    refine js_c2i rfl rfl ⟨rfl, rfl⟩ rfl rfl (t_R_fails rfl) (by omega) ?_
    obtain rfl := Option.some.inj hf
    exact js_iret (jbool (b_R_fails rfl)) rfl
  · have hf := jif_f hf h
    refine js_aload_n rfl ?_
    refine js_iload_n rfl ?_
    refine js_iconst (v := (1 : Int32)) rfl ?_
    refine js_iadd ?_
    obtain ⟨q2, hc_2, hf⟩ := jbind hf
    refine js_c2i rfl rfl ⟨rfl, rfl⟩ rfl rfl (hop hc_2) (by omega) ?_
    refine js_goto (tgt := 48) rfl rfl ?_
    refine jR_in rfl ⟨rfl, rfl, rfl⟩ rfl ?_
    obtain rfl := Option.some.inj hf
    exact js_iret (jbool (bop hc_2)) rfl
theorem b_LR_clause_24 {op : Int32 → Nat → jp_M → Option (Int32 × jp_M)} (bop : ∀ {a : Int32} {w : Nat} {M : jp_M} {res : Int32 × jp_M}, op a w M = some res → (res.1 = 0 ∨ res.1 = 1))  (l1 : Int32) (w : Nat) (M : jp_M) {res : Int32 × jp_M} (hf : f_LR_clause_24 op  l1 w M = some res) : res.1 = 0 ∨ res.1 = 1 := by
  unfold f_LR_clause_24 at hf
  rcases jif_d hf with ⟨h, hf⟩ | ⟨h, hf⟩
  · obtain rfl := Option.some.inj hf
    exact (b_R_fails rfl)
  · obtain ⟨q2, hc_2, hf⟩ := jbind hf
    obtain rfl := Option.some.inj hf
    exact (bop hc_2)
def f_LR_clause_111 (op : Int32 → Nat → jp_M → Option (Int32 × jp_M))  (l2 : Int32) (w : Nat) (M : jp_M) : Option (Int32 × jp_M) :=
  (f_R_advances w M).bind fun q1 => (
  (f_LR_sum w q1).bind fun q2 => (
  if jp_c .ne q2.1 0 = true then (
  (f_L_adds ((20000 : Int32) + l2) q2.2).bind fun q3 => (
  some ((1 : Int32), q3))) else (
  some ((0 : Int32), q2.2))))
theorem t_LR_clause_111 {Ln : Nat} {xs : Nat → Int32} {sv : jp_V} {op : Int32 → Nat → jp_M → Option (Int32 × jp_M)} {hh : Nat} (hop : ∀ {a : Int32} {w : Nat} {M : jp_M} {res : Int32 × jp_M}, op a w M = some res → jE (jZ (jK Ln xs sv)) hh 47 [(.inr (some 69)), (.inl a)] (jSH w) M (some (.inl res.1), jSH w, res.2)) (bop : ∀ {a : Int32} {w : Nat} {M : jp_M} {res : Int32 × jp_M}, op a w M = some res → (res.1 = 0 ∨ res.1 = 1)) {d : Nat} (hd : hh + 8 ≤ d)  (l2 : Int32) (o1 : Option jp_V) (w : Nat) (M : jp_M) {res : Int32 × jp_M} (hf : f_LR_clause_111 op  l2 w M = some res) : jR (jZ (jK Ln xs sv)) d 46 111 ([some (.inr (some 69)), o1, some (.inl l2)], [], jSH w, M) (some (.inl res.1), jSH w, res.2) := by
  unfold f_LR_clause_111 at hf
  refine jR_in rfl ⟨rfl, rfl, rfl⟩ rfl ?_
  refine js_aload_n rfl ?_
  refine js_getr rfl rfl rfl ?_
  obtain ⟨q1, hc_1, hf⟩ := jbind hf
  refine js_c1v (w := 0) rfl rfl ⟨rfl, rfl⟩ rfl rfl (t_R_advances hc_1) (by omega) ?_
  refine js_aload_n rfl ?_
  obtain ⟨q2, hc_2, hf⟩ := jbind hf
  refine js_c1i rfl rfl ⟨rfl, rfl⟩ rfl rfl (t_LR_sum hc_2) (by omega) ?_
  refine js_ifc (tgt := 127) rfl rfl (fun h => ?_) (fun h => ?_)
  · have hf := jif_t hf h
    refine jR_in rfl ⟨rfl, rfl, rfl⟩ rfl ?_
    refine js_aload_n rfl ?_
    refine js_getr rfl rfl rfl ?_
    refine js_sipush (v := (20000 : Int32)) rfl ?_
    refine js_iload_n rfl ?_
    refine js_iadd ?_
    obtain ⟨q3, hc_3, hf⟩ := jbind hf
    refine js_c2v (w := 0) rfl rfl ⟨rfl, rfl⟩ rfl rfl (t_L_adds hc_3) (by omega) ?_
    refine js_iconst (v := (1 : Int32)) rfl ?_
    obtain rfl := Option.some.inj hf
    exact js_iret rfl rfl
  · have hf := jif_f hf h
    refine js_iconst (v := (0 : Int32)) rfl ?_
    obtain rfl := Option.some.inj hf
    exact js_iret rfl rfl
theorem b_LR_clause_111 {op : Int32 → Nat → jp_M → Option (Int32 × jp_M)} (bop : ∀ {a : Int32} {w : Nat} {M : jp_M} {res : Int32 × jp_M}, op a w M = some res → (res.1 = 0 ∨ res.1 = 1))  (l2 : Int32) (w : Nat) (M : jp_M) {res : Int32 × jp_M} (hf : f_LR_clause_111 op  l2 w M = some res) : res.1 = 0 ∨ res.1 = 1 := by
  unfold f_LR_clause_111 at hf
  obtain ⟨q1, hc_1, hf⟩ := jbind hf
  obtain ⟨q2, hc_2, hf⟩ := jbind hf
  rcases jif_d hf with ⟨h, hf⟩ | ⟨h, hf⟩
  · obtain ⟨q3, hc_3, hf⟩ := jbind hf
    obtain rfl := Option.some.inj hf
    exact Or.inr rfl
  · obtain rfl := Option.some.inj hf
    exact Or.inl rfl
def f_LR_clause (op : Int32 → Nat → jp_M → Option (Int32 × jp_M)) (a1 : Int32) (w : Nat) (M : jp_M) : Option (Int32 × jp_M) :=
  if jp_c .ne (f_R_isWord (6 : Int32) M) 0 = true then (
  f_LR_clause_24 op a1 w M) else (
  if jp_c .eq (f_R_isSign (40 : Int32) M) 0 = true then (
  (f_LR_sum w M).bind fun q3 => (
  if jp_c .ne q3.1 0 = true then (
  if jp_c .ne (f_R_isSign (60 : Int32) q3.2) 0 = true then (
  f_LR_clause_111 op (q3.2 68 6) w (q3.2)) else (
  if jp_c .ne (f_R_isSign (61 : Int32) q3.2) 0 = true then (
  f_LR_clause_111 op (q3.2 68 6) w (q3.2)) else (
  if jp_c .ne (f_R_isSign (62 : Int32) q3.2) 0 = true then (
  f_LR_clause_111 op (q3.2 68 6) w (q3.2)) else (
  let q7 := f_R_fails (1 : Int32) q3.2
  some (q7.1, q7.2))))) else (
  some ((0 : Int32), q3.2)))) else (
  f_LR_clause_24 op a1 w M))
theorem t_LR_clause {Ln : Nat} {xs : Nat → Int32} {sv : jp_V} {op : Int32 → Nat → jp_M → Option (Int32 × jp_M)} {hh : Nat} (hop : ∀ {a : Int32} {w : Nat} {M : jp_M} {res : Int32 × jp_M}, op a w M = some res → jE (jZ (jK Ln xs sv)) hh 47 [(.inr (some 69)), (.inl a)] (jSH w) M (some (.inl res.1), jSH w, res.2)) (bop : ∀ {a : Int32} {w : Nat} {M : jp_M} {res : Int32 × jp_M}, op a w M = some res → (res.1 = 0 ∨ res.1 = 1)) {a1 : Int32} {w : Nat} {M : jp_M} {res : Int32 × jp_M} (hf : f_LR_clause op a1 w M = some res) : jE (jZ (jK Ln xs sv)) (hh + 8) 46 [(.inr (some 69)), (.inl a1)] (jSH w) M (some (.inl res.1), jSH w, res.2) := by
  unfold f_LR_clause at hf
  refine jE_in (L0 := [some (.inr (some 69)), some (.inl a1), none]) rfl (Nat.le_of_ble_eq_true rfl) rfl (fun d hd => ?_)
  refine jR_in rfl ⟨rfl, rfl, rfl⟩ rfl ?_
  refine js_aload_n rfl ?_
  refine js_getr rfl rfl rfl ?_
  refine js_bipush (v := (6 : Int32)) rfl ?_
  refine js_c2i rfl rfl ⟨rfl, rfl⟩ rfl rfl (t_R_isWord rfl) (by omega) ?_
  refine js_ifc (tgt := 24) rfl rfl (fun h => ?_) (fun h => ?_)
  · have hf := jif_t hf h
    exact t_LR_clause_24 hop bop hd _ _ _ _ hf
  · have hf := jif_f hf h
    refine js_aload_n rfl ?_
    refine js_getr rfl rfl rfl ?_
    refine js_bipush (v := (40 : Int32)) rfl ?_
    refine js_c2i rfl rfl ⟨rfl, rfl⟩ rfl rfl (t_R_isSign rfl) (by omega) ?_
    refine js_ifc (tgt := 49) rfl rfl (fun h => ?_) (fun h => ?_)
    · have hf := jif_t hf h
      refine jR_in rfl ⟨rfl, rfl, rfl⟩ rfl ?_
      refine js_aload_n rfl ?_
      obtain ⟨q3, hc_3, hf⟩ := jbind hf
      refine js_c1i rfl rfl ⟨rfl, rfl⟩ rfl rfl (t_LR_sum hc_3) (by omega) ?_
      refine js_ifc (tgt := 58) rfl rfl (fun h => ?_) (fun h => ?_)
      · have hf := jif_t hf h
        refine jR_in rfl ⟨rfl, rfl, rfl⟩ rfl ?_
        refine js_aload_n rfl ?_
        refine js_getr rfl rfl rfl ?_
        refine js_geti rfl rfl rfl ?_
        refine js_istore_n rfl rfl ?_
        refine js_aload_n rfl ?_
        refine js_getr rfl rfl rfl ?_
        refine js_bipush (v := (60 : Int32)) rfl ?_
        refine js_c2i rfl rfl ⟨rfl, rfl⟩ rfl rfl (t_R_isSign rfl) (by omega) ?_
        refine js_ifc (tgt := 111) rfl rfl (fun h => ?_) (fun h => ?_)
        · have hf := jif_t hf h
          exact t_LR_clause_111 hop bop hd _ _ _ _ hf
        · have hf := jif_f hf h
          refine js_aload_n rfl ?_
          refine js_getr rfl rfl rfl ?_
          refine js_bipush (v := (61 : Int32)) rfl ?_
          refine js_c2i rfl rfl ⟨rfl, rfl⟩ rfl rfl (t_R_isSign rfl) (by omega) ?_
          refine js_ifc (tgt := 111) rfl rfl (fun h => ?_) (fun h => ?_)
          · have hf := jif_t hf h
            exact t_LR_clause_111 hop bop hd _ _ _ _ hf
          · have hf := jif_f hf h
            refine js_aload_n rfl ?_
            refine js_getr rfl rfl rfl ?_
            refine js_bipush (v := (62 : Int32)) rfl ?_
            refine js_c2i rfl rfl ⟨rfl, rfl⟩ rfl rfl (t_R_isSign rfl) (by omega) ?_
            refine js_ifc (tgt := 111) rfl rfl (fun h => ?_) (fun h => ?_)
            · have hf := jif_t hf h
              exact t_LR_clause_111 hop bop hd _ _ _ _ hf
            · have hf := jif_f hf h
              refine js_aload_n rfl ?_
              refine js_getr rfl rfl rfl ?_
              refine js_iconst (v := (1 : Int32)) rfl ?_
              refine js_c2i rfl rfl ⟨rfl, rfl⟩ rfl rfl (t_R_fails rfl) (by omega) ?_
              obtain rfl := Option.some.inj hf
              exact js_iret (jbool (b_R_fails rfl)) rfl
      · have hf := jif_f hf h
        refine js_iconst (v := (0 : Int32)) rfl ?_
        obtain rfl := Option.some.inj hf
        exact js_iret rfl rfl
    · have hf := jif_f hf h
      exact jS_out rfl ⟨rfl, rfl, rfl⟩ rfl (t_LR_clause_24 hop bop hd _ _ _ _ hf)
theorem b_LR_clause {op : Int32 → Nat → jp_M → Option (Int32 × jp_M)} (bop : ∀ {a : Int32} {w : Nat} {M : jp_M} {res : Int32 × jp_M}, op a w M = some res → (res.1 = 0 ∨ res.1 = 1)) {a1 : Int32} {w : Nat} {M : jp_M} {res : Int32 × jp_M} (hf : f_LR_clause op a1 w M = some res) : res.1 = 0 ∨ res.1 = 1 := by
  unfold f_LR_clause at hf
  rcases jif_d hf with ⟨h, hf⟩ | ⟨h, hf⟩
  · exact b_LR_clause_24 bop _ _ _ hf
  · rcases jif_d hf with ⟨h, hf⟩ | ⟨h, hf⟩
    · obtain ⟨q3, hc_3, hf⟩ := jbind hf
      rcases jif_d hf with ⟨h, hf⟩ | ⟨h, hf⟩
      · rcases jif_d hf with ⟨h, hf⟩ | ⟨h, hf⟩
        · exact b_LR_clause_111 bop _ _ _ hf
        · rcases jif_d hf with ⟨h, hf⟩ | ⟨h, hf⟩
          · exact b_LR_clause_111 bop _ _ _ hf
          · rcases jif_d hf with ⟨h, hf⟩ | ⟨h, hf⟩
            · exact b_LR_clause_111 bop _ _ _ hf
            · obtain rfl := Option.some.inj hf
              exact (b_R_fails rfl)
      · obtain rfl := Option.some.inj hf
        exact Or.inl rfl
    · exact b_LR_clause_24 bop _ _ _ hf
/-! SwallowsAir$LawReader.condition(I)Z -/
def f_LR_condition_81 (op : Int32 → Nat → jp_M → Option (Int32 × jp_M)) (c6 : Int32 → Int32 → Int32 → Int32 → Nat → jp_M → Option (Int32 × jp_M)) (l1 : Int32) (l2 : Int32) (l3 : Int32) (l4 : Int32) (w : Nat) (M : jp_M) : Option (Int32 × jp_M) :=
  (f_R_advances w M).bind fun q1 => (
  c6 l1 l2 l3 (l4 + (1 : Int32)) w q1)
theorem t_LR_condition_81 {Ln : Nat} {xs : Nat → Int32} {sv : jp_V} {op : Int32 → Nat → jp_M → Option (Int32 × jp_M)} {hh : Nat} (hop : ∀ {a : Int32} {w : Nat} {M : jp_M} {res : Int32 × jp_M}, op a w M = some res → jE (jZ (jK Ln xs sv)) hh 47 [(.inr (some 69)), (.inl a)] (jSH w) M (some (.inl res.1), jSH w, res.2)) (bop : ∀ {a : Int32} {w : Nat} {M : jp_M} {res : Int32 × jp_M}, op a w M = some res → (res.1 = 0 ∨ res.1 = 1)) {d : Nat} (hd : hh + 9 ≤ d) {c6 : Int32 → Int32 → Int32 → Int32 → Nat → jp_M → Option (Int32 × jp_M)} (hc6 : ∀ (l1 : Int32) (l2 : Int32) (l3 : Int32) (l4 : Int32) (w : Nat) (M : jp_M) (res : Int32 × jp_M), c6 l1 l2 l3 l4 w M = some res → jR (jZ (jK Ln xs sv)) d 45 7 ([some (.inr (some 69)), some (.inl l1), some (.inl l2), some (.inl l3), some (.inl l4)], [], jSH w, M) (some (.inl res.1), jSH w, res.2)) (l1 : Int32) (l2 : Int32) (l3 : Int32) (l4 : Int32) (w : Nat) (M : jp_M) {res : Int32 × jp_M} (hf : f_LR_condition_81 op c6 l1 l2 l3 l4 w M = some res) : jR (jZ (jK Ln xs sv)) d 45 81 ([some (.inr (some 69)), some (.inl l1), some (.inl l2), some (.inl l3), some (.inl l4)], [], jSH w, M) (some (.inl res.1), jSH w, res.2) := by
  unfold f_LR_condition_81 at hf
  refine jR_in rfl ⟨rfl, rfl, rfl⟩ rfl ?_
  refine js_aload_n rfl ?_
  refine js_getr rfl rfl rfl ?_
  obtain ⟨q1, hc_1, hf⟩ := jbind hf
  refine js_c1v (w := 0) rfl rfl ⟨rfl, rfl⟩ rfl rfl (t_R_advances hc_1) (by omega) ?_
  refine js_iinc (v := (1 : Int32)) rfl rfl rfl rfl ?_
  refine js_goto (tgt := 7) rfl rfl ?_
  exact hc6 _ _ _ _ _ _ _ hf
theorem b_LR_condition_81 {op : Int32 → Nat → jp_M → Option (Int32 × jp_M)} (bop : ∀ {a : Int32} {w : Nat} {M : jp_M} {res : Int32 × jp_M}, op a w M = some res → (res.1 = 0 ∨ res.1 = 1)) {c6 : Int32 → Int32 → Int32 → Int32 → Nat → jp_M → Option (Int32 × jp_M)} (hc6 : ∀ (l1 : Int32) (l2 : Int32) (l3 : Int32) (l4 : Int32) (w : Nat) (M : jp_M) (res : Int32 × jp_M), c6 l1 l2 l3 l4 w M = some res → (res.1 = 0 ∨ res.1 = 1)) (l1 : Int32) (l2 : Int32) (l3 : Int32) (l4 : Int32) (w : Nat) (M : jp_M) {res : Int32 × jp_M} (hf : f_LR_condition_81 op c6 l1 l2 l3 l4 w M = some res) : res.1 = 0 ∨ res.1 = 1 := by
  unfold f_LR_condition_81 at hf
  obtain ⟨q1, hc_1, hf⟩ := jbind hf
  exact hc6 _ _ _ _ _ _ _ hf
def f_LR_condition_66 (op : Int32 → Nat → jp_M → Option (Int32 × jp_M)) (c6 : Int32 → Int32 → Int32 → Int32 → Nat → jp_M → Option (Int32 × jp_M)) (l1 : Int32) (l2 : Int32) (l4 : Int32) (w : Nat) (M : jp_M) : Option (Int32 × jp_M) :=
  if jp_c .ne (f_R_isWord (4 : Int32) M) 0 = true then (
  f_LR_condition_81 op c6 l1 l2 (f_R_isWord (4 : Int32) M) l4 w M) else (
  some ((1 : Int32), M))
theorem t_LR_condition_66 {Ln : Nat} {xs : Nat → Int32} {sv : jp_V} {op : Int32 → Nat → jp_M → Option (Int32 × jp_M)} {hh : Nat} (hop : ∀ {a : Int32} {w : Nat} {M : jp_M} {res : Int32 × jp_M}, op a w M = some res → jE (jZ (jK Ln xs sv)) hh 47 [(.inr (some 69)), (.inl a)] (jSH w) M (some (.inl res.1), jSH w, res.2)) (bop : ∀ {a : Int32} {w : Nat} {M : jp_M} {res : Int32 × jp_M}, op a w M = some res → (res.1 = 0 ∨ res.1 = 1)) {d : Nat} (hd : hh + 9 ≤ d) {c6 : Int32 → Int32 → Int32 → Int32 → Nat → jp_M → Option (Int32 × jp_M)} (hc6 : ∀ (l1 : Int32) (l2 : Int32) (l3 : Int32) (l4 : Int32) (w : Nat) (M : jp_M) (res : Int32 × jp_M), c6 l1 l2 l3 l4 w M = some res → jR (jZ (jK Ln xs sv)) d 45 7 ([some (.inr (some 69)), some (.inl l1), some (.inl l2), some (.inl l3), some (.inl l4)], [], jSH w, M) (some (.inl res.1), jSH w, res.2)) (l1 : Int32) (l2 : Int32) (l4 : Int32) (o3 : Option jp_V) (w : Nat) (M : jp_M) {res : Int32 × jp_M} (hf : f_LR_condition_66 op c6 l1 l2 l4 w M = some res) : jR (jZ (jK Ln xs sv)) d 45 66 ([some (.inr (some 69)), some (.inl l1), some (.inl l2), o3, some (.inl l4)], [], jSH w, M) (some (.inl res.1), jSH w, res.2) := by
  unfold f_LR_condition_66 at hf
  refine jR_in rfl ⟨rfl, rfl, rfl⟩ rfl ?_
  refine js_aload_n rfl ?_
  refine js_getr rfl rfl rfl ?_
  refine js_iconst (v := (4 : Int32)) rfl ?_
  refine js_c2i rfl rfl ⟨rfl, rfl⟩ rfl rfl (t_R_isWord rfl) (by omega) ?_
  refine js_istore_n rfl rfl ?_
  refine js_iload_n rfl ?_
  refine js_ifc (tgt := 81) rfl rfl (fun h => ?_) (fun h => ?_)
  · have hf := jif_t hf h
    exact t_LR_condition_81 hop bop hd hc6 _ _ _ _ _ _ hf
  · have hf := jif_f hf h
    refine js_iconst (v := (1 : Int32)) rfl ?_
    obtain rfl := Option.some.inj hf
    exact js_iret rfl rfl
theorem b_LR_condition_66 {op : Int32 → Nat → jp_M → Option (Int32 × jp_M)} (bop : ∀ {a : Int32} {w : Nat} {M : jp_M} {res : Int32 × jp_M}, op a w M = some res → (res.1 = 0 ∨ res.1 = 1)) {c6 : Int32 → Int32 → Int32 → Int32 → Nat → jp_M → Option (Int32 × jp_M)} (hc6 : ∀ (l1 : Int32) (l2 : Int32) (l3 : Int32) (l4 : Int32) (w : Nat) (M : jp_M) (res : Int32 × jp_M), c6 l1 l2 l3 l4 w M = some res → (res.1 = 0 ∨ res.1 = 1)) (l1 : Int32) (l2 : Int32) (l4 : Int32) (w : Nat) (M : jp_M) {res : Int32 × jp_M} (hf : f_LR_condition_66 op c6 l1 l2 l4 w M = some res) : res.1 = 0 ∨ res.1 = 1 := by
  unfold f_LR_condition_66 at hf
  rcases jif_d hf with ⟨h, hf⟩ | ⟨h, hf⟩
  · exact b_LR_condition_81 bop hc6 _ _ _ _ _ _ hf
  · obtain rfl := Option.some.inj hf
    exact Or.inr rfl
def f_LR_condition_39 (op : Int32 → Nat → jp_M → Option (Int32 × jp_M)) (c6 : Int32 → Int32 → Int32 → Int32 → Nat → jp_M → Option (Int32 × jp_M)) (l1 : Int32) (l3 : Int32) (l4 : Int32) (w : Nat) (M : jp_M) : Option (Int32 × jp_M) :=
  if jp_c .ne (f_R_isWord (5 : Int32) M) 0 = true then (
  f_LR_condition_81 op c6 l1 (f_R_isWord (5 : Int32) M) l3 l4 w M) else (
  if jp_c .eq l3 0 = true then (
  f_LR_condition_66 op c6 l1 (f_R_isWord (5 : Int32) M) l4 w M) else (
  (f_L_adds (20124 : Int32) M).bind fun q2 => (
  f_LR_condition_66 op c6 l1 (f_R_isWord (5 : Int32) M) l4 w q2)))
theorem t_LR_condition_39 {Ln : Nat} {xs : Nat → Int32} {sv : jp_V} {op : Int32 → Nat → jp_M → Option (Int32 × jp_M)} {hh : Nat} (hop : ∀ {a : Int32} {w : Nat} {M : jp_M} {res : Int32 × jp_M}, op a w M = some res → jE (jZ (jK Ln xs sv)) hh 47 [(.inr (some 69)), (.inl a)] (jSH w) M (some (.inl res.1), jSH w, res.2)) (bop : ∀ {a : Int32} {w : Nat} {M : jp_M} {res : Int32 × jp_M}, op a w M = some res → (res.1 = 0 ∨ res.1 = 1)) {d : Nat} (hd : hh + 9 ≤ d) {c6 : Int32 → Int32 → Int32 → Int32 → Nat → jp_M → Option (Int32 × jp_M)} (hc6 : ∀ (l1 : Int32) (l2 : Int32) (l3 : Int32) (l4 : Int32) (w : Nat) (M : jp_M) (res : Int32 × jp_M), c6 l1 l2 l3 l4 w M = some res → jR (jZ (jK Ln xs sv)) d 45 7 ([some (.inr (some 69)), some (.inl l1), some (.inl l2), some (.inl l3), some (.inl l4)], [], jSH w, M) (some (.inl res.1), jSH w, res.2)) (l1 : Int32) (l3 : Int32) (l4 : Int32) (o2 : Option jp_V) (w : Nat) (M : jp_M) {res : Int32 × jp_M} (hf : f_LR_condition_39 op c6 l1 l3 l4 w M = some res) : jR (jZ (jK Ln xs sv)) d 45 39 ([some (.inr (some 69)), some (.inl l1), o2, some (.inl l3), some (.inl l4)], [], jSH w, M) (some (.inl res.1), jSH w, res.2) := by
  unfold f_LR_condition_39 at hf
  refine jR_in rfl ⟨rfl, rfl, rfl⟩ rfl ?_
  refine js_aload_n rfl ?_
  refine js_getr rfl rfl rfl ?_
  refine js_iconst (v := (5 : Int32)) rfl ?_
  refine js_c2i rfl rfl ⟨rfl, rfl⟩ rfl rfl (t_R_isWord rfl) (by omega) ?_
  refine js_istore_n rfl rfl ?_
  refine js_iload_n rfl ?_
  refine js_ifc (tgt := 81) rfl rfl (fun h => ?_) (fun h => ?_)
  · have hf := jif_t hf h
    exact t_LR_condition_81 hop bop hd hc6 _ _ _ _ _ _ hf
  · have hf := jif_f hf h
    refine js_iload_n rfl ?_
    refine js_ifc (tgt := 66) rfl rfl (fun h => ?_) (fun h => ?_)
    · have hf := jif_t hf h
      exact t_LR_condition_66 hop bop hd hc6 _ _ _ _ _ _ hf
    · have hf := jif_f hf h
      refine js_aload_n rfl ?_
      refine js_getr rfl rfl rfl ?_
      refine js_sipush (v := (20124 : Int32)) rfl ?_
      obtain ⟨q2, hc_2, hf⟩ := jbind hf
      refine js_c2v (w := 0) rfl rfl ⟨rfl, rfl⟩ rfl rfl (t_L_adds hc_2) (by omega) ?_
      exact jS_out rfl ⟨rfl, rfl, rfl⟩ rfl (t_LR_condition_66 hop bop hd hc6 _ _ _ _ _ _ hf)
theorem b_LR_condition_39 {op : Int32 → Nat → jp_M → Option (Int32 × jp_M)} (bop : ∀ {a : Int32} {w : Nat} {M : jp_M} {res : Int32 × jp_M}, op a w M = some res → (res.1 = 0 ∨ res.1 = 1)) {c6 : Int32 → Int32 → Int32 → Int32 → Nat → jp_M → Option (Int32 × jp_M)} (hc6 : ∀ (l1 : Int32) (l2 : Int32) (l3 : Int32) (l4 : Int32) (w : Nat) (M : jp_M) (res : Int32 × jp_M), c6 l1 l2 l3 l4 w M = some res → (res.1 = 0 ∨ res.1 = 1)) (l1 : Int32) (l3 : Int32) (l4 : Int32) (w : Nat) (M : jp_M) {res : Int32 × jp_M} (hf : f_LR_condition_39 op c6 l1 l3 l4 w M = some res) : res.1 = 0 ∨ res.1 = 1 := by
  unfold f_LR_condition_39 at hf
  rcases jif_d hf with ⟨h, hf⟩ | ⟨h, hf⟩
  · exact b_LR_condition_81 bop hc6 _ _ _ _ _ _ hf
  · rcases jif_d hf with ⟨h, hf⟩ | ⟨h, hf⟩
    · exact b_LR_condition_66 bop hc6 _ _ _ _ _ hf
    · obtain ⟨q2, hc_2, hf⟩ := jbind hf
      exact b_LR_condition_66 bop hc6 _ _ _ _ _ hf
def f_LR_condition_7 (op : Int32 → Nat → jp_M → Option (Int32 × jp_M))  : Nat → Int32 → Int32 → Int32 → Int32 → Nat → jp_M → Option (Int32 × jp_M)
  | 0, _, _, _, _, _, _ => none
  | n + 1, l1, l2, l3, l4, w, M =>
    if jp_c .ge l4 (400 : Int32) = true then (
    let q1 := f_R_fails (1 : Int32) M
    some (q1.1, q1.2)) else (
    (f_LR_clause op l1 w M).bind fun q2 => (
    if jp_c .ne q2.1 0 = true then (
    if jp_c .eq l2 0 = true then (
    f_LR_condition_39 op (f_LR_condition_7 op n ) l1 l3 l4 w (q2.2)) else (
    (f_L_adds (20038 : Int32) q2.2).bind fun q3 => (
    f_LR_condition_39 op (f_LR_condition_7 op n ) l1 l3 l4 w q3))) else (
    some ((0 : Int32), q2.2))))
theorem t_LR_condition_7 {Ln : Nat} {xs : Nat → Int32} {sv : jp_V} {op : Int32 → Nat → jp_M → Option (Int32 × jp_M)} {hh : Nat} (hop : ∀ {a : Int32} {w : Nat} {M : jp_M} {res : Int32 × jp_M}, op a w M = some res → jE (jZ (jK Ln xs sv)) hh 47 [(.inr (some 69)), (.inl a)] (jSH w) M (some (.inl res.1), jSH w, res.2)) (bop : ∀ {a : Int32} {w : Nat} {M : jp_M} {res : Int32 × jp_M}, op a w M = some res → (res.1 = 0 ∨ res.1 = 1)) {d : Nat} (hd : hh + 9 ≤ d)  : ∀ (n : Nat) (l1 : Int32) (l2 : Int32) (l3 : Int32) (l4 : Int32) (w : Nat) (M : jp_M) {res : Int32 × jp_M}, f_LR_condition_7 op n  l1 l2 l3 l4 w M = some res → jR (jZ (jK Ln xs sv)) d 45 7 ([some (.inr (some 69)), some (.inl l1), some (.inl l2), some (.inl l3), some (.inl l4)], [], jSH w, M) (some (.inl res.1), jSH w, res.2) := by
  intro n
  induction n with
  | zero =>
    intro l1 l2 l3 l4 w M res hf
    cases hf
  | succ n ih =>
    intro l1 l2 l3 l4 w M res hf
    rw [f_LR_condition_7] at hf
    refine jR_in rfl ⟨rfl, rfl, rfl⟩ rfl ?_
    refine js_iload rfl ?_
    refine js_sipush (v := (400 : Int32)) rfl ?_
    refine js_icmp (tgt := 94) rfl rfl (fun h => ?_) (fun h => ?_)
    · have hf := jif_t hf h
      refine jR_in rfl ⟨rfl, rfl, rfl⟩ rfl ?_
      refine js_aload_n rfl ?_
      refine js_getr rfl rfl rfl ?_
      refine js_iconst (v := (1 : Int32)) rfl ?_
      refine js_c2i rfl rfl ⟨rfl, rfl⟩ rfl rfl (t_R_fails rfl) (by omega) ?_
      obtain rfl := Option.some.inj hf
      exact js_iret (jbool (b_R_fails rfl)) rfl
    · have hf := jif_f hf h
      refine js_aload_n rfl ?_
      refine js_iload_n rfl ?_
      obtain ⟨q2, hc_2, hf⟩ := jbind hf
      refine js_c2i rfl rfl ⟨rfl, rfl⟩ rfl rfl (t_LR_clause hop bop hc_2) (by omega) ?_
      refine js_ifc (tgt := 25) rfl rfl (fun h => ?_) (fun h => ?_)
      · have hf := jif_t hf h
        refine jR_in rfl ⟨rfl, rfl, rfl⟩ rfl ?_
        refine js_iload_n rfl ?_
        refine js_ifc (tgt := 39) rfl rfl (fun h => ?_) (fun h => ?_)
        · have hf := jif_t hf h
          exact t_LR_condition_39 hop bop hd (fun l1 l2 l3 l4 w M res hf => ih l1 l2 l3 l4 w M hf) _ _ _ _ _ _ hf
        · have hf := jif_f hf h
          refine js_aload_n rfl ?_
          refine js_getr rfl rfl rfl ?_
          refine js_sipush (v := (20038 : Int32)) rfl ?_
          obtain ⟨q3, hc_3, hf⟩ := jbind hf
          refine js_c2v (w := 0) rfl rfl ⟨rfl, rfl⟩ rfl rfl (t_L_adds hc_3) (by omega) ?_
          exact jS_out rfl ⟨rfl, rfl, rfl⟩ rfl (t_LR_condition_39 hop bop hd (fun l1 l2 l3 l4 w M res hf => ih l1 l2 l3 l4 w M hf) _ _ _ _ _ _ hf)
      · have hf := jif_f hf h
        refine js_iconst (v := (0 : Int32)) rfl ?_
        obtain rfl := Option.some.inj hf
        exact js_iret rfl rfl
theorem b_LR_condition_7 {op : Int32 → Nat → jp_M → Option (Int32 × jp_M)} (bop : ∀ {a : Int32} {w : Nat} {M : jp_M} {res : Int32 × jp_M}, op a w M = some res → (res.1 = 0 ∨ res.1 = 1))  : ∀ (n : Nat) (l1 : Int32) (l2 : Int32) (l3 : Int32) (l4 : Int32) (w : Nat) (M : jp_M) {res : Int32 × jp_M}, f_LR_condition_7 op n  l1 l2 l3 l4 w M = some res → (res.1 = 0 ∨ res.1 = 1) := by
  intro n
  induction n with
  | zero =>
    intro l1 l2 l3 l4 w M res hf
    cases hf
  | succ n ih =>
    intro l1 l2 l3 l4 w M res hf
    rw [f_LR_condition_7] at hf
    rcases jif_d hf with ⟨h, hf⟩ | ⟨h, hf⟩
    · obtain rfl := Option.some.inj hf
      exact (b_R_fails rfl)
    · obtain ⟨q2, hc_2, hf⟩ := jbind hf
      rcases jif_d hf with ⟨h, hf⟩ | ⟨h, hf⟩
      · rcases jif_d hf with ⟨h, hf⟩ | ⟨h, hf⟩
        · exact b_LR_condition_39 bop (fun l1 l2 l3 l4 w M res hf => ih l1 l2 l3 l4 w M hf) _ _ _ _ _ hf
        · obtain ⟨q3, hc_3, hf⟩ := jbind hf
          exact b_LR_condition_39 bop (fun l1 l2 l3 l4 w M res hf => ih l1 l2 l3 l4 w M hf) _ _ _ _ _ hf
      · obtain rfl := Option.some.inj hf
        exact Or.inl rfl
def f_LR_condition (op : Int32 → Nat → jp_M → Option (Int32 × jp_M)) (a1 : Int32) (w : Nat) (M : jp_M) : Option (Int32 × jp_M) :=
  f_LR_condition_7 op jFu a1 (0 : Int32) (0 : Int32) (0 : Int32) w M
theorem t_LR_condition {Ln : Nat} {xs : Nat → Int32} {sv : jp_V} {op : Int32 → Nat → jp_M → Option (Int32 × jp_M)} {hh : Nat} (hop : ∀ {a : Int32} {w : Nat} {M : jp_M} {res : Int32 × jp_M}, op a w M = some res → jE (jZ (jK Ln xs sv)) hh 47 [(.inr (some 69)), (.inl a)] (jSH w) M (some (.inl res.1), jSH w, res.2)) (bop : ∀ {a : Int32} {w : Nat} {M : jp_M} {res : Int32 × jp_M}, op a w M = some res → (res.1 = 0 ∨ res.1 = 1)) {a1 : Int32} {w : Nat} {M : jp_M} {res : Int32 × jp_M} (hf : f_LR_condition op a1 w M = some res) : jE (jZ (jK Ln xs sv)) (hh + 9) 45 [(.inr (some 69)), (.inl a1)] (jSH w) M (some (.inl res.1), jSH w, res.2) := by
  unfold f_LR_condition at hf
  refine jE_in (L0 := [some (.inr (some 69)), some (.inl a1), none, none, none]) rfl (Nat.le_of_ble_eq_true rfl) rfl (fun d hd => ?_)
  refine jR_in rfl ⟨rfl, rfl, rfl⟩ rfl ?_
  refine js_iconst (v := (0 : Int32)) rfl ?_
  refine js_istore_n rfl rfl ?_
  refine js_iconst (v := (0 : Int32)) rfl ?_
  refine js_istore_n rfl rfl ?_
  refine js_iconst (v := (0 : Int32)) rfl ?_
  refine js_istore rfl rfl ?_
  exact jS_out rfl ⟨rfl, rfl, rfl⟩ rfl (t_LR_condition_7 hop bop hd jFu _ _ _ _ _ _ hf)
theorem b_LR_condition {op : Int32 → Nat → jp_M → Option (Int32 × jp_M)} (bop : ∀ {a : Int32} {w : Nat} {M : jp_M} {res : Int32 × jp_M}, op a w M = some res → (res.1 = 0 ∨ res.1 = 1)) {a1 : Int32} {w : Nat} {M : jp_M} {res : Int32 × jp_M} (hf : f_LR_condition op a1 w M = some res) : res.1 = 0 ∨ res.1 = 1 := by
  unfold f_LR_condition at hf
  exact b_LR_condition_7 bop jFu _ _ _ _ _ _ hf
def f_LR_opened : Nat → Int32 → Nat → jp_M → Option (Int32 × jp_M)
  | 0, _, _, _ => none
  | n + 1, a1, w, M =>
    (f_R_advances w M).bind fun q2 => (
    if jp_c .ne (f_R_isWord (6 : Int32) M) 0 = true then (
    (f_LR_clause (f_LR_opened n) a1 w q2).bind fun q3 => (
    if jp_c .ne q3.1 0 = true then (
    (f_L_adds (0 : Int32) q3.2).bind fun q4 => (
    (f_L_adds (20061 : Int32) q4).bind fun q5 => (
    some ((1 : Int32), q5)))) else (
    some ((0 : Int32), q3.2)))) else (
    (f_LR_condition (f_LR_opened n) a1 w q2).bind fun q6 => (
    if jp_c .eq q6.1 0 = true then (
    some ((0 : Int32), q6.2)) else (
    (f_R_passesSign (41 : Int32) w q6.2).bind fun q7 => (
    if jp_c .eq q7.1 0 = true then (
    some ((0 : Int32), q7.2)) else (
    some ((1 : Int32), q7.2)))))))
theorem b_LR_opened : ∀ (n : Nat) {a1 : Int32} {w : Nat} {M : jp_M} {res : Int32 × jp_M}, f_LR_opened n a1 w M = some res → (res.1 = 0 ∨ res.1 = 1)
  | 0, _, _, _, _, hf => by cases hf
  | n + 1, a1, w, M, res, hf => by
    rw [f_LR_opened] at hf
    obtain ⟨q2, hc_2, hf⟩ := jbind hf
    rcases jif_d hf with ⟨h, hf⟩ | ⟨h, hf⟩
    · obtain ⟨q3, hc_3, hf⟩ := jbind hf
      rcases jif_d hf with ⟨h, hf⟩ | ⟨h, hf⟩
      · obtain ⟨q4, hc_4, hf⟩ := jbind hf
        obtain ⟨q5, hc_5, hf⟩ := jbind hf
        obtain rfl := Option.some.inj hf
        exact Or.inr rfl
      · obtain rfl := Option.some.inj hf
        exact Or.inl rfl
    · obtain ⟨q6, hc_6, hf⟩ := jbind hf
      rcases jif_d hf with ⟨h, hf⟩ | ⟨h, hf⟩
      · obtain rfl := Option.some.inj hf
        exact Or.inl rfl
      · obtain ⟨q7, hc_7, hf⟩ := jbind hf
        rcases jif_d hf with ⟨h, hf⟩ | ⟨h, hf⟩
        · obtain rfl := Option.some.inj hf
          exact Or.inl rfl
        · obtain rfl := Option.some.inj hf
          exact Or.inr rfl
theorem t_LR_opened {Ln : Nat} {xs : Nat → Int32} {sv : jp_V} : ∀ (n : Nat) {a1 : Int32} {w : Nat} {M : jp_M} {res : Int32 × jp_M}, f_LR_opened n a1 w M = some res → jE (jZ (jK Ln xs sv)) (10 * n) 47 [(.inr (some 69)), (.inl a1)] (jSH w) M (some (.inl res.1), jSH w, res.2) := by
  intro n
  induction n with
  | zero => intro a1 w M res hf; cases hf
  | succ n ih =>
    intro a1 w M res hf
    rw [f_LR_opened] at hf
    refine jE_in (L0 := [some (.inr (some 69)), some (.inl a1), none]) rfl (Nat.le_of_ble_eq_true rfl) rfl (fun d hd => ?_)
    refine jR_in rfl ⟨rfl, rfl, rfl⟩ rfl ?_
    refine js_aload_n rfl ?_
    refine js_getr rfl rfl rfl ?_
    refine js_bipush (v := (6 : Int32)) rfl ?_
    refine js_c2i rfl rfl ⟨rfl, rfl⟩ rfl rfl (t_R_isWord rfl) (by omega) ?_
    refine js_istore_n rfl rfl ?_
    refine js_aload_n rfl ?_
    refine js_getr rfl rfl rfl ?_
    obtain ⟨q2, hc_2, hf⟩ := jbind hf
    refine js_c1v (w := 0) rfl rfl ⟨rfl, rfl⟩ rfl rfl (t_R_advances hc_2) (by omega) ?_
    refine js_iload_n rfl ?_
    refine js_ifc (tgt := 47) rfl rfl (fun h => ?_) (fun h => ?_)
    · have hf := jif_t hf h
      refine jR_in rfl ⟨rfl, rfl, rfl⟩ rfl ?_
      refine js_aload_n rfl ?_
      refine js_iload_n rfl ?_
      obtain ⟨q3, hc_3, hf⟩ := jbind hf
      refine js_c2i rfl rfl ⟨rfl, rfl⟩ rfl rfl (t_LR_clause ih (b_LR_opened n) hc_3) (by omega) ?_
      refine js_ifc (tgt := 57) rfl rfl (fun h => ?_) (fun h => ?_)
      · have hf := jif_t hf h
        refine jR_in rfl ⟨rfl, rfl, rfl⟩ rfl ?_
        refine js_aload_n rfl ?_
        refine js_getr rfl rfl rfl ?_
        refine js_iconst (v := (0 : Int32)) rfl ?_
        obtain ⟨q4, hc_4, hf⟩ := jbind hf
        refine js_c2v (w := 0) rfl rfl ⟨rfl, rfl⟩ rfl rfl (t_L_adds hc_4) (by omega) ?_
        refine js_aload_n rfl ?_
        refine js_getr rfl rfl rfl ?_
        refine js_sipush (v := (20061 : Int32)) rfl ?_
        obtain ⟨q5, hc_5, hf⟩ := jbind hf
        refine js_c2v (w := 0) rfl rfl ⟨rfl, rfl⟩ rfl rfl (t_L_adds hc_5) (by omega) ?_
        refine js_iconst (v := (1 : Int32)) rfl ?_
        obtain rfl := Option.some.inj hf
        exact js_iret rfl rfl
      · have hf := jif_f hf h
        refine js_iconst (v := (0 : Int32)) rfl ?_
        obtain rfl := Option.some.inj hf
        exact js_iret rfl rfl
    · have hf := jif_f hf h
      refine js_aload_n rfl ?_
      refine js_iload_n rfl ?_
      obtain ⟨q6, hc_6, hf⟩ := jbind hf
      refine js_c2i rfl rfl ⟨rfl, rfl⟩ rfl rfl (t_LR_condition ih (b_LR_opened n) hc_6) (by omega) ?_
      refine js_ifc (tgt := 45) rfl rfl (fun h => ?_) (fun h => ?_)
      · have hf := jif_t hf h
        refine jR_in rfl ⟨rfl, rfl, rfl⟩ rfl ?_
        refine js_iconst (v := (0 : Int32)) rfl ?_
        obtain rfl := Option.some.inj hf
        exact js_iret rfl rfl
      · have hf := jif_f hf h
        refine js_aload_n rfl ?_
        refine js_getr rfl rfl rfl ?_
        refine js_bipush (v := (41 : Int32)) rfl ?_
        obtain ⟨q7, hc_7, hf⟩ := jbind hf
        refine js_c2i rfl rfl ⟨rfl, rfl⟩ rfl rfl (t_R_passesSign hc_7) (by omega) ?_
        refine js_ifc (tgt := 45) rfl rfl (fun h => ?_) (fun h => ?_)
        · have hf := jif_t hf h
          refine jR_in rfl ⟨rfl, rfl, rfl⟩ rfl ?_
          refine js_iconst (v := (0 : Int32)) rfl ?_
          obtain rfl := Option.some.inj hf
          exact js_iret rfl rfl
        · have hf := jif_f hf h
          refine js_iconst (v := (1 : Int32)) rfl ?_
          refine js_goto (tgt := 46) rfl rfl ?_
          refine jR_in rfl ⟨rfl, rfl, rfl⟩ rfl ?_
          obtain rfl := Option.some.inj hf
          exact js_iret rfl rfl
/-! SwallowsAir$LawReader.line()Z -/
def f_LR_line_22  (w : Nat) (M : jp_M) : Option (Int32 × jp_M) :=
  let q1 := f_R_fails (1 : Int32) M
  some (q1.1, q1.2)
theorem t_LR_line_22 {Ln : Nat} {xs : Nat → Int32} {sv : jp_V} {d : Nat} (hd : 110 ≤ d)  (o1 : Option jp_V) (w : Nat) (M : jp_M) {res : Int32 × jp_M} (hf : f_LR_line_22  w M = some res) : jR (jZ (jK Ln xs sv)) d 44 22 ([some (.inr (some 69)), o1], [], jSH w, M) (some (.inl res.1), jSH w, res.2) := by
  unfold f_LR_line_22 at hf
  refine jR_in rfl ⟨rfl, rfl, rfl⟩ rfl ?_
  refine js_aload_n rfl ?_
  refine js_getr rfl rfl rfl ?_
  refine js_iconst (v := (1 : Int32)) rfl ?_
  refine js_c2i rfl rfl ⟨rfl, rfl⟩ rfl rfl (t_R_fails rfl) (by omega) ?_
  obtain rfl := Option.some.inj hf
  exact js_iret (jbool (b_R_fails rfl)) rfl
theorem b_LR_line_22  (w : Nat) (M : jp_M) {res : Int32 × jp_M} (hf : f_LR_line_22  w M = some res) : res.1 = 0 ∨ res.1 = 1 := by
  unfold f_LR_line_22 at hf
  obtain rfl := Option.some.inj hf
  exact (b_R_fails rfl)
def f_LR_line_130  (l1 : Int32) (w : Nat) (M : jp_M) : Option (Int32 × jp_M) :=
  jg (jp_in l1 16) (
  let M1 := jp_set M 73 (upd (M 73) (Int32.toNatClampNeg l1) (M 70 1))
  let M3 := jp_set M1 70 (upd (M1 70) 0 ((M1 70 0) + (1 : Int32)))
  (f_R_passesSign (59 : Int32) w M3).bind fun q4 => (
  some (q4.1, q4.2)))
theorem t_LR_line_130 {Ln : Nat} {xs : Nat → Int32} {sv : jp_V} {d : Nat} (hd : 110 ≤ d)  (l1 : Int32) (w : Nat) (M : jp_M) {res : Int32 × jp_M} (hf : f_LR_line_130  l1 w M = some res) : jR (jZ (jK Ln xs sv)) d 44 130 ([some (.inr (some 69)), some (.inl l1)], [], jSH w, M) (some (.inl res.1), jSH w, res.2) := by
  unfold f_LR_line_130 at hf
  refine jR_in rfl ⟨rfl, rfl, rfl⟩ rfl ?_
  refine js_aload_n rfl ?_
  refine js_getr rfl rfl rfl ?_
  refine js_getr rfl rfl rfl ?_
  refine js_iload_n rfl ?_
  refine js_aload_n rfl ?_
  refine js_getr rfl rfl rfl ?_
  refine js_geti rfl rfl rfl ?_
  obtain ⟨hb2, hf⟩ := jg_some hf
  refine js_iast rfl hb2 ?_
  refine js_aload_n rfl ?_
  refine js_getr rfl rfl rfl ?_
  refine js_dup ?_
  refine js_geti rfl rfl rfl ?_
  refine js_iconst (v := (1 : Int32)) rfl ?_
  refine js_iadd ?_
  refine js_puti rfl rfl (Or.inl rfl) ?_
  refine js_aload_n rfl ?_
  refine js_getr rfl rfl rfl ?_
  refine js_bipush (v := (59 : Int32)) rfl ?_
  obtain ⟨q4, hc_4, hf⟩ := jbind hf
  refine js_c2i rfl rfl ⟨rfl, rfl⟩ rfl rfl (t_R_passesSign hc_4) (by omega) ?_
  obtain rfl := Option.some.inj hf
  exact js_iret (jbool (b_R_passesSign hc_4)) rfl
theorem b_LR_line_130  (l1 : Int32) (w : Nat) (M : jp_M) {res : Int32 × jp_M} (hf : f_LR_line_130  l1 w M = some res) : res.1 = 0 ∨ res.1 = 1 := by
  unfold f_LR_line_130 at hf
  obtain ⟨hb2, hf⟩ := jg_some hf
  obtain ⟨q4, hc_4, hf⟩ := jbind hf
  obtain rfl := Option.some.inj hf
  exact (b_R_passesSign hc_4)
def f_LR_line (w : Nat) (M : jp_M) : Option (Int32 × jp_M) :=
  if jp_c .ne (M 68 5) (1 : Int32) = true then (
  f_LR_line_22 w M) else (
  if jp_c .le (M 68 6) (2 : Int32) = true then (
  if jp_c .lt (M 70 0) (16 : Int32) = true then (
  jg (jp_in (M 70 0) 16) (
  let M1 := jp_set M 71 (upd (M 71) (Int32.toNatClampNeg (M 70 0)) (M 68 6))
  (f_R_advances w M1).bind fun q3 => (
  (f_LR_sum w q3).bind fun q4 => (
  if jp_c .ne q4.1 0 = true then (
  jg (jp_in (M 70 0) 16) (
  let M5 := jp_set q4.2 72 (upd (q4.2 72) (Int32.toNatClampNeg (M 70 0)) (q4.2 70 1))
  if jp_c .eq (f_R_isWord (3 : Int32) M5) 0 = true then (
  f_LR_line_130 (M 70 0) w M5) else (
  (f_R_advances w M5).bind fun q8 => (
  (f_LR_condition (f_LR_opened 10) (0 : Int32) w q8).bind fun q9 => (
  if jp_c .ne q9.1 0 = true then (
  f_LR_line_130 (M 70 0) w (q9.2)) else (
  some ((0 : Int32), q9.2))))))) else (
  some ((0 : Int32), q4.2)))))) else (
  let q10 := f_R_fails (3 : Int32) M
  some (q10.1, q10.2))) else (
  f_LR_line_22 w M))
theorem t_LR_line {Ln : Nat} {xs : Nat → Int32} {sv : jp_V} {w : Nat} {M : jp_M} {res : Int32 × jp_M} (hf : f_LR_line w M = some res) : jE (jZ (jK Ln xs sv)) 110 44 [(.inr (some 69))] (jSH w) M (some (.inl res.1), jSH w, res.2) := by
  unfold f_LR_line at hf
  refine jE_in (L0 := [some (.inr (some 69)), none]) rfl (Nat.le_of_ble_eq_true rfl) rfl (fun d hd => ?_)
  refine jR_in rfl ⟨rfl, rfl, rfl⟩ rfl ?_
  refine js_aload_n rfl ?_
  refine js_getr rfl rfl rfl ?_
  refine js_geti rfl rfl rfl ?_
  refine js_iconst (v := (1 : Int32)) rfl ?_
  refine js_icmp (tgt := 22) rfl rfl (fun h => ?_) (fun h => ?_)
  · have hf := jif_t hf h
    exact t_LR_line_22 hd _ _ _ hf
  · have hf := jif_f hf h
    refine js_aload_n rfl ?_
    refine js_getr rfl rfl rfl ?_
    refine js_geti rfl rfl rfl ?_
    refine js_iconst (v := (2 : Int32)) rfl ?_
    refine js_icmp (tgt := 31) rfl rfl (fun h => ?_) (fun h => ?_)
    · have hf := jif_t hf h
      refine jR_in rfl ⟨rfl, rfl, rfl⟩ rfl ?_
      refine js_aload_n rfl ?_
      refine js_getr rfl rfl rfl ?_
      refine js_geti rfl rfl rfl ?_
      refine js_istore_n rfl rfl ?_
      refine js_iload_n rfl ?_
      refine js_bipush (v := (16 : Int32)) rfl ?_
      refine js_icmp (tgt := 54) rfl rfl (fun h => ?_) (fun h => ?_)
      · have hf := jif_t hf h
        refine jR_in rfl ⟨rfl, rfl, rfl⟩ rfl ?_
        refine js_aload_n rfl ?_
        refine js_getr rfl rfl rfl ?_
        refine js_getr rfl rfl rfl ?_
        refine js_iload_n rfl ?_
        refine js_aload_n rfl ?_
        refine js_getr rfl rfl rfl ?_
        refine js_geti rfl rfl rfl ?_
        obtain ⟨hb2, hf⟩ := jg_some hf
        refine js_iast rfl hb2 ?_
        refine js_aload_n rfl ?_
        refine js_getr rfl rfl rfl ?_
        obtain ⟨q3, hc_3, hf⟩ := jbind hf
        refine js_c1v (w := 0) rfl rfl ⟨rfl, rfl⟩ rfl rfl (t_R_advances hc_3) (by omega) ?_
        refine js_aload_n rfl ?_
        obtain ⟨q4, hc_4, hf⟩ := jbind hf
        refine js_c1i rfl rfl ⟨rfl, rfl⟩ rfl rfl (t_LR_sum hc_4) (by omega) ?_
        refine js_ifc (tgt := 86) rfl rfl (fun h => ?_) (fun h => ?_)
        · have hf := jif_t hf h
          refine jR_in rfl ⟨rfl, rfl, rfl⟩ rfl ?_
          refine js_aload_n rfl ?_
          refine js_getr rfl rfl rfl ?_
          refine js_getr rfl rfl rfl ?_
          refine js_iload_n rfl ?_
          refine js_aload_n rfl ?_
          refine js_getr rfl rfl rfl ?_
          refine js_geti rfl rfl rfl ?_
          obtain ⟨hb6, hf⟩ := jg_some hf
          refine js_iast rfl hb6 ?_
          refine js_aload_n rfl ?_
          refine js_getr rfl rfl rfl ?_
          refine js_iconst (v := (3 : Int32)) rfl ?_
          refine js_c2i rfl rfl ⟨rfl, rfl⟩ rfl rfl (t_R_isWord rfl) (by omega) ?_
          refine js_ifc (tgt := 130) rfl rfl (fun h => ?_) (fun h => ?_)
          · have hf := jif_t hf h
            exact t_LR_line_130 hd _ _ _ hf
          · have hf := jif_f hf h
            refine js_aload_n rfl ?_
            refine js_getr rfl rfl rfl ?_
            obtain ⟨q8, hc_8, hf⟩ := jbind hf
            refine js_c1v (w := 0) rfl rfl ⟨rfl, rfl⟩ rfl rfl (t_R_advances hc_8) (by omega) ?_
            refine js_aload_n rfl ?_
            refine js_iconst (v := (0 : Int32)) rfl ?_
            obtain ⟨q9, hc_9, hf⟩ := jbind hf
            refine js_c2i rfl rfl ⟨rfl, rfl⟩ rfl rfl (t_LR_condition (hh := 100) (t_LR_opened 10) (b_LR_opened 10) hc_9) (by omega) ?_
            refine js_ifc (tgt := 130) rfl rfl (fun h => ?_) (fun h => ?_)
            · have hf := jif_t hf h
              exact t_LR_line_130 hd _ _ _ hf
            · have hf := jif_f hf h
              refine js_iconst (v := (0 : Int32)) rfl ?_
              obtain rfl := Option.some.inj hf
              exact js_iret rfl rfl
        · have hf := jif_f hf h
          refine js_iconst (v := (0 : Int32)) rfl ?_
          obtain rfl := Option.some.inj hf
          exact js_iret rfl rfl
      · have hf := jif_f hf h
        refine js_aload_n rfl ?_
        refine js_getr rfl rfl rfl ?_
        refine js_iconst (v := (3 : Int32)) rfl ?_
        refine js_c2i rfl rfl ⟨rfl, rfl⟩ rfl rfl (t_R_fails rfl) (by omega) ?_
        obtain rfl := Option.some.inj hf
        exact js_iret (jbool (b_R_fails rfl)) rfl
    · have hf := jif_f hf h
      exact jS_out rfl ⟨rfl, rfl, rfl⟩ rfl (t_LR_line_22 hd _ _ _ hf)
theorem b_LR_line {w : Nat} {M : jp_M} {res : Int32 × jp_M} (hf : f_LR_line w M = some res) : res.1 = 0 ∨ res.1 = 1 := by
  unfold f_LR_line at hf
  rcases jif_d hf with ⟨h, hf⟩ | ⟨h, hf⟩
  · exact b_LR_line_22 _ _ hf
  · rcases jif_d hf with ⟨h, hf⟩ | ⟨h, hf⟩
    · rcases jif_d hf with ⟨h, hf⟩ | ⟨h, hf⟩
      · obtain ⟨hb2, hf⟩ := jg_some hf
        obtain ⟨q3, hc_3, hf⟩ := jbind hf
        obtain ⟨q4, hc_4, hf⟩ := jbind hf
        rcases jif_d hf with ⟨h, hf⟩ | ⟨h, hf⟩
        · obtain ⟨hb6, hf⟩ := jg_some hf
          rcases jif_d hf with ⟨h, hf⟩ | ⟨h, hf⟩
          · exact b_LR_line_130 _ _ _ hf
          · obtain ⟨q8, hc_8, hf⟩ := jbind hf
            obtain ⟨q9, hc_9, hf⟩ := jbind hf
            rcases jif_d hf with ⟨h, hf⟩ | ⟨h, hf⟩
            · exact b_LR_line_130 _ _ _ hf
            · obtain rfl := Option.some.inj hf
              exact Or.inl rfl
        · obtain rfl := Option.some.inj hf
          exact Or.inl rfl
      · obtain rfl := Option.some.inj hf
        exact (b_R_fails rfl)
    · exact b_LR_line_22 _ _ hf
/-! SwallowsAir$LawReader.reads()Z -/
def f_LR_reads_9  : Nat → Int32 → Nat → jp_M → Option (Int32 × jp_M)
  | 0, _, _, _ => none
  | n + 1, l1, w, M =>
    if jp_c .gt l1 (16 : Int32) = true then (
    some ((0 : Int32), M)) else (
    if jp_c .ne (M 68 5) 0 = true then (
    (f_LR_line w M).bind fun q1 => (
    if jp_c .ne q1.1 0 = true then (
    f_LR_reads_9 n (l1 + (1 : Int32)) w (q1.2)) else (
    some ((0 : Int32), q1.2)))) else (
    some ((1 : Int32), M)))
theorem t_LR_reads_9 {Ln : Nat} {xs : Nat → Int32} {sv : jp_V} {d : Nat} (hd : 111 ≤ d)  : ∀ (n : Nat) (l1 : Int32) (w : Nat) (M : jp_M) {res : Int32 × jp_M}, f_LR_reads_9 n  l1 w M = some res → jR (jZ (jK Ln xs sv)) d 43 9 ([some (.inr (some 69)), some (.inl l1)], [], jSH w, M) (some (.inl res.1), jSH w, res.2) := by
  intro n
  induction n with
  | zero =>
    intro l1 w M res hf
    cases hf
  | succ n ih =>
    intro l1 w M res hf
    rw [f_LR_reads_9] at hf
    refine jR_in rfl ⟨rfl, rfl, rfl⟩ rfl ?_
    refine js_iload_n rfl ?_
    refine js_bipush (v := (16 : Int32)) rfl ?_
    refine js_icmp (tgt := 42) rfl rfl (fun h => ?_) (fun h => ?_)
    · have hf := jif_t hf h
      refine jR_in rfl ⟨rfl, rfl, rfl⟩ rfl ?_
      refine js_iconst (v := (0 : Int32)) rfl ?_
      obtain rfl := Option.some.inj hf
      exact js_iret rfl rfl
    · have hf := jif_f hf h
      refine js_aload_n rfl ?_
      refine js_getr rfl rfl rfl ?_
      refine js_geti rfl rfl rfl ?_
      refine js_ifc (tgt := 27) rfl rfl (fun h => ?_) (fun h => ?_)
      · have hf := jif_t hf h
        refine jR_in rfl ⟨rfl, rfl, rfl⟩ rfl ?_
        refine js_aload_n rfl ?_
        obtain ⟨q1, hc_1, hf⟩ := jbind hf
        refine js_c1i rfl rfl ⟨rfl, rfl⟩ rfl rfl (t_LR_line hc_1) (by omega) ?_
        refine js_ifc (tgt := 36) rfl rfl (fun h => ?_) (fun h => ?_)
        · have hf := jif_t hf h
          refine jR_in rfl ⟨rfl, rfl, rfl⟩ rfl ?_
          refine js_iinc (v := (1 : Int32)) rfl rfl rfl rfl ?_
          refine js_goto (tgt := 9) rfl rfl ?_
          exact ih _ _ _ hf
        · have hf := jif_f hf h
          refine js_iconst (v := (0 : Int32)) rfl ?_
          obtain rfl := Option.some.inj hf
          exact js_iret rfl rfl
      · have hf := jif_f hf h
        refine js_iconst (v := (1 : Int32)) rfl ?_
        obtain rfl := Option.some.inj hf
        exact js_iret rfl rfl
theorem b_LR_reads_9  : ∀ (n : Nat) (l1 : Int32) (w : Nat) (M : jp_M) {res : Int32 × jp_M}, f_LR_reads_9 n  l1 w M = some res → (res.1 = 0 ∨ res.1 = 1) := by
  intro n
  induction n with
  | zero =>
    intro l1 w M res hf
    cases hf
  | succ n ih =>
    intro l1 w M res hf
    rw [f_LR_reads_9] at hf
    rcases jif_d hf with ⟨h, hf⟩ | ⟨h, hf⟩
    · obtain rfl := Option.some.inj hf
      exact Or.inl rfl
    · rcases jif_d hf with ⟨h, hf⟩ | ⟨h, hf⟩
      · obtain ⟨q1, hc_1, hf⟩ := jbind hf
        rcases jif_d hf with ⟨h, hf⟩ | ⟨h, hf⟩
        · exact ih _ _ _ hf
        · obtain rfl := Option.some.inj hf
          exact Or.inl rfl
      · obtain rfl := Option.some.inj hf
        exact Or.inr rfl
def f_LR_reads (w : Nat) (M : jp_M) : Option (Int32 × jp_M) :=
  let q1 := f_L_clears M
  f_LR_reads_9 jFu (0 : Int32) w q1
theorem t_LR_reads {Ln : Nat} {xs : Nat → Int32} {sv : jp_V} {w : Nat} {M : jp_M} {res : Int32 × jp_M} (hf : f_LR_reads w M = some res) : jE (jZ (jK Ln xs sv)) 111 43 [(.inr (some 69))] (jSH w) M (some (.inl res.1), jSH w, res.2) := by
  unfold f_LR_reads at hf
  refine jE_in (L0 := [some (.inr (some 69)), none]) rfl (Nat.le_of_ble_eq_true rfl) rfl (fun d hd => ?_)
  refine jR_in rfl ⟨rfl, rfl, rfl⟩ rfl ?_
  refine js_aload_n rfl ?_
  refine js_getr rfl rfl rfl ?_
  refine js_c1v (w := 0) rfl rfl ⟨rfl, rfl⟩ rfl rfl (t_L_clears rfl) (by omega) ?_
  refine js_iconst (v := (0 : Int32)) rfl ?_
  refine js_istore_n rfl rfl ?_
  exact jS_out rfl ⟨rfl, rfl, rfl⟩ rfl (t_LR_reads_9 hd jFu _ _ _ hf)
theorem b_LR_reads {w : Nat} {M : jp_M} {res : Int32 × jp_M} (hf : f_LR_reads w M = some res) : res.1 = 0 ∨ res.1 = 1 := by
  unfold f_LR_reads at hf
  exact b_LR_reads_9 jFu _ _ _ hf
/-! SwallowsAir.text(I)I -/
def f_C_text (a1 : Int32) (w : Nat) (M : jp_M) : Option (Int32 × Nat × jp_M) :=
  (f_R_opens (M 0 11) a1 w M).bind fun q1 => (
  let M2 := jp_set q1.2 0 (upd (q1.2 0) 11 (0 : Int32))
  if jp_c .ne a1 0 = true then (
  if jp_c .eq (f_C_within a1 (3 : Int32)) 0 = true then (
  some ((-1 : Int32), q1.1, M2)) else (
  (f_IR_reads a1 (M2 2 4) (M2 2 5) q1.1 M2).bind fun q4 => (
  if jp_c .ne q4.1 0 = true then (
  (f_A_isTold a1 q4.2).bind fun q5 => (
  if jp_c .eq a1 (3 : Int32) = true then (
  some ((q5 78 0), q1.1, q5)) else (
  let q6 := f_C_forgetKept q5
  some ((q6 78 0), q1.1, q6)))) else (
  some ((-1 : Int32), q1.1, q4.2))))) else (
  (f_LR_reads q1.1 M2).bind fun q7 => (
  if jp_c .ne q7.1 0 = true then (
  (f_L_becomes q7.2).bind fun q8 => (
  some ((q8 7 0), q1.1, q8))) else (
  some ((-1 : Int32), q1.1, q7.2)))))
theorem t_C_text {Ln : Nat} {xs : Nat → Int32} {sv : jp_V} {a1 : Int32} {w : Nat} {M : jp_M} {res : Int32 × Nat × jp_M} (hf : f_C_text a1 w M = some res) : jE (jZ (jK Ln xs sv)) 112 123 [(.inr (some 0)), (.inl a1)] (jSH w) M (some (.inl res.1), jSH res.2.1, res.2.2) := by
  unfold f_C_text at hf
  refine jE_in (L0 := [some (.inr (some 0)), some (.inl a1)]) rfl (Nat.le_of_ble_eq_true rfl) rfl (fun d hd => ?_)
  refine jR_in rfl ⟨rfl, rfl, rfl⟩ rfl ?_
  refine js_aload_n rfl ?_
  refine js_getr rfl rfl rfl ?_
  refine js_aload_n rfl ?_
  refine js_geti rfl rfl rfl ?_
  refine js_iload_n rfl ?_
  obtain ⟨q1, hc_1, hf⟩ := jbind hf
  refine js_c3v (w := 0) rfl rfl ⟨rfl, rfl⟩ rfl rfl (t_R_opens hc_1) (by omega) ?_
  refine js_aload_n rfl ?_
  refine js_iconst (v := (0 : Int32)) rfl ?_
  refine js_puti rfl rfl (Or.inl rfl) ?_
  refine js_iload_n rfl ?_
  refine js_ifc (tgt := 61) rfl rfl (fun h => ?_) (fun h => ?_)
  · have hf := jif_t hf h
    refine jR_in rfl ⟨rfl, rfl, rfl⟩ rfl ?_
    refine js_iload_n rfl ?_
    refine js_iconst (v := (3 : Int32)) rfl ?_
    refine js_c2i rfl rfl ⟨rfl, rfl⟩ rfl rfl (t_C_within rfl) (by omega) ?_
    refine js_ifc (tgt := 100) rfl rfl (fun h => ?_) (fun h => ?_)
    · have hf := jif_t hf h
      refine jR_in rfl ⟨rfl, rfl, rfl⟩ rfl ?_
      refine js_iconst (v := (-1 : Int32)) rfl ?_
      obtain rfl := Option.some.inj hf
      exact js_iret rfl rfl
    · have hf := jif_f hf h
      refine js_aload_n rfl ?_
      refine js_getr rfl rfl rfl ?_
      refine js_iload_n rfl ?_
      refine js_aload_n rfl ?_
      refine js_getr rfl rfl rfl ?_
      refine js_getr rfl rfl rfl ?_
      refine js_geti rfl rfl rfl ?_
      refine js_aload_n rfl ?_
      refine js_getr rfl rfl rfl ?_
      refine js_getr rfl rfl rfl ?_
      refine js_geti rfl rfl rfl ?_
      obtain ⟨q4, hc_4, hf⟩ := jbind hf
      refine js_c4i rfl rfl ⟨rfl, rfl⟩ rfl rfl (t_IR_reads hc_4) (by omega) ?_
      refine js_ifc (tgt := 102) rfl rfl (fun h => ?_) (fun h => ?_)
      · have hf := jif_t hf h
        refine jR_in rfl ⟨rfl, rfl, rfl⟩ rfl ?_
        refine js_aload_n rfl ?_
        refine js_getr rfl rfl rfl ?_
        refine js_iload_n rfl ?_
        refine js_aload_n rfl ?_
        refine js_getr rfl rfl rfl ?_
        refine js_getr rfl rfl rfl ?_
        obtain ⟨q5, hc_5, hf⟩ := jbind hf
        refine js_c3v (w := 0) rfl rfl ⟨rfl, rfl⟩ rfl rfl (t_A_isTold hc_5) (by omega) ?_
        refine js_iload_n rfl ?_
        refine js_iconst (v := (3 : Int32)) rfl ?_
        refine js_icmp (tgt := 126) rfl rfl (fun h => ?_) (fun h => ?_)
        · have hf := jif_t hf h
          refine jR_in rfl ⟨rfl, rfl, rfl⟩ rfl ?_
          refine js_aload_n rfl ?_
          refine js_getr rfl rfl rfl ?_
          refine js_getr rfl rfl rfl ?_
          refine js_geti rfl rfl rfl ?_
          obtain rfl := Option.some.inj hf
          exact js_iret rfl rfl
        · have hf := jif_f hf h
          refine js_aload_n rfl ?_
          refine js_c1v (w := 0) rfl rfl ⟨rfl, rfl⟩ rfl rfl (t_C_forgetKept rfl) (by omega) ?_
          refine js_aload_n rfl ?_
          refine js_getr rfl rfl rfl ?_
          refine js_getr rfl rfl rfl ?_
          refine js_geti rfl rfl rfl ?_
          obtain rfl := Option.some.inj hf
          exact js_iret rfl rfl
      · have hf := jif_f hf h
        refine js_iconst (v := (-1 : Int32)) rfl ?_
        obtain rfl := Option.some.inj hf
        exact js_iret rfl rfl
  · have hf := jif_f hf h
    refine js_aload_n rfl ?_
    refine js_getr rfl rfl rfl ?_
    obtain ⟨q7, hc_7, hf⟩ := jbind hf
    refine js_c1i rfl rfl ⟨rfl, rfl⟩ rfl rfl (t_LR_reads hc_7) (by omega) ?_
    refine js_ifc (tgt := 33) rfl rfl (fun h => ?_) (fun h => ?_)
    · have hf := jif_t hf h
      refine jR_in rfl ⟨rfl, rfl, rfl⟩ rfl ?_
      refine js_aload_n rfl ?_
      refine js_getr rfl rfl rfl ?_
      refine js_getr rfl rfl rfl ?_
      refine js_aload_n rfl ?_
      refine js_getr rfl rfl rfl ?_
      refine js_getr rfl rfl rfl ?_
      obtain ⟨q8, hc_8, hf⟩ := jbind hf
      refine js_c2v (w := 0) rfl rfl ⟨rfl, rfl⟩ rfl rfl (t_L_becomes hc_8) (by omega) ?_
      refine js_aload_n rfl ?_
      refine js_getr rfl rfl rfl ?_
      refine js_getr rfl rfl rfl ?_
      refine js_geti rfl rfl rfl ?_
      obtain rfl := Option.some.inj hf
      exact js_iret rfl rfl
    · have hf := jif_f hf h
      refine js_iconst (v := (-1 : Int32)) rfl ?_
      obtain rfl := Option.some.inj hf
      exact js_iret rfl rfl
