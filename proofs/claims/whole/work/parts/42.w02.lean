theorem w_M_isOver {a1 : Int32} {M : jp_M} {res : jp_M} (hf : f_M_isOver a1 M = some res) : ∀ p, p ∉ ([105] : List Nat) → res p = M p := by
  intro p hp
  unfold f_M_isOver at hf
  exact (w_M_isOver_20 jFu _ _ hf _ hp).trans ((jp_set_ne (jne hp (by decide : 105 ∈ ([105] : List Nat)))).trans rfl)
theorem w_M_ends_7  : ∀ (n : Nat) (l1 : Int32) (l2 : Int32) (M : jp_M) {res : Int32 × jp_M}, f_M_ends_7 n  l1 l2 M = some res → ∀ p, p ∉ ([104, 105, 106, 111] : List Nat) → res.2 p = M p := by
  intro n
  induction n with
  | zero =>
    intro l1 l2 M res hf
    cases hf
  | succ n ih =>
    intro l1 l2 M res hf p hp
    rw [f_M_ends_7] at hf
    rcases jif_d hf with ⟨h, hf⟩ | ⟨h, hf⟩
    · obtain rfl := Option.some.inj hf
      exact rfl
    · obtain ⟨hb2, hf⟩ := jg_some hf
      rcases jif_d hf with ⟨h, hf⟩ | ⟨h, hf⟩
      · obtain ⟨q3, hc_3, hf⟩ := jbind hf
        obtain ⟨q4, hc_4, hf⟩ := jbind hf
        obtain ⟨q5, hc_5, hf⟩ := jbind hf
        obtain rfl := Option.some.inj hf
        exact ((w_M_isOver hc_5 _ (jout hp (by decide : (([105] : List Nat)).all (fun x => (([104, 105, 106, 111] : List Nat)).contains x) = true))).trans ((w_M_notes hc_4 _ (jout hp (by decide : (([105, 111] : List Nat)).all (fun x => (([104, 105, 106, 111] : List Nat)).contains x) = true))).trans ((w_M_keepsAhead hc_3 _ (jout hp (by decide : (([104, 106] : List Nat)).all (fun x => (([104, 105, 106, 111] : List Nat)).contains x) = true))).trans rfl)))
      · exact (ih _ _ _ hf _ hp).trans rfl
theorem w_M_ends {a1 : Int32} {M : jp_M} {res : Int32 × jp_M} (hf : f_M_ends a1 M = some res) : ∀ p, p ∉ ([104, 105, 106, 111] : List Nat) → res.2 p = M p := by
  intro p hp
  unfold f_M_ends at hf
  exact (w_M_ends_7 jFu _ _ _ hf _ hp).trans ((jp_set_ne (jne hp (by decide : 104 ∈ ([104, 105, 106, 111] : List Nat)))).trans rfl)
theorem w_M_nest {a1 : Int32} {a2 : Int32} {M : jp_M} {res : Int32 × jp_M} (hf : f_M_nest a1 a2 M = some res) : ∀ p, p ∉ ([104, 105, 106] : List Nat) → res.2 p = M p := by
  intro p hp
  unfold f_M_nest at hf
  rcases jif_d hf with ⟨h, hf⟩ | ⟨h, hf⟩
  · obtain rfl := Option.some.inj hf
    exact ((jp_set_ne (jne hp (by decide : 104 ∈ ([104, 105, 106] : List Nat)))).trans rfl)
  · rcases jif_d hf with ⟨h, hf⟩ | ⟨h, hf⟩
    · obtain rfl := Option.some.inj hf
      exact ((jp_set_ne (jne hp (by decide : 104 ∈ ([104, 105, 106] : List Nat)))).trans rfl)
    · obtain ⟨hb4, hf⟩ := jg_some hf
      rcases jif_d hf with ⟨h, hf⟩ | ⟨h, hf⟩
      · obtain ⟨q5, hc_5, hf⟩ := jbind hf
        obtain ⟨hb7, hf⟩ := jg_some hf
        obtain rfl := Option.some.inj hf
        exact ((jp_set_ne (jne hp (by decide : 105 ∈ ([104, 105, 106] : List Nat)))).trans ((w_M_keepsAhead hc_5 _ (jout hp (by decide : (([104, 106] : List Nat)).all (fun x => (([104, 105, 106] : List Nat)).contains x) = true))).trans ((jp_set_ne (jne hp (by decide : 104 ∈ ([104, 105, 106] : List Nat)))).trans rfl)))
      · obtain rfl := Option.some.inj hf
        exact ((jp_set_ne (jne hp (by decide : 104 ∈ ([104, 105, 106] : List Nat)))).trans rfl)
theorem w_M_petitionsOf_116 {c2 : Int32 → jp_M → Option (jp_M)} (hc2 : ∀ (l1 : Int32) (M : jp_M) (res : jp_M), c2 l1 M = some res → ∀ p, p ∉ ([105, 111, 125, 126] : List Nat) → res p = M p) (l1 : Int32) (M : jp_M) {res : jp_M} (hf : f_M_petitionsOf_116 c2 l1 M = some res) : ∀ p, p ∉ ([105, 111, 125, 126] : List Nat) → res p = M p := by
  intro p hp
  unfold f_M_petitionsOf_116 at hf
  exact (hc2 _ _ _ hf _ hp).trans rfl
theorem w_M_petitionsOf_2  : ∀ (n : Nat) (l1 : Int32) (M : jp_M) {res : jp_M}, f_M_petitionsOf_2 n  l1 M = some res → ∀ p, p ∉ ([105, 111, 125, 126] : List Nat) → res p = M p := by
  intro n
  induction n with
  | zero =>
    intro l1 M res hf
    cases hf
  | succ n ih =>
    intro l1 M res hf p hp
    rw [f_M_petitionsOf_2] at hf
    rcases jif_d hf with ⟨h, hf⟩ | ⟨h, hf⟩
    · obtain rfl := Option.some.inj hf
      exact rfl
    · obtain ⟨hb1, hf⟩ := jg_some hf
      rcases jif_d hf with ⟨h, hf⟩ | ⟨h, hf⟩
      · exact (w_M_petitionsOf_116 (fun l1 M res hf => ih l1 M hf) _ _ hf _ hp).trans rfl
      · obtain ⟨hb2, hf⟩ := jg_some hf
        obtain ⟨hb3, hf⟩ := jg_some hf
        obtain ⟨hb4, hf⟩ := jg_some hf
        obtain ⟨q5, hc_5, hf⟩ := jbind hf
        rcases jif_d hf with ⟨h, hf⟩ | ⟨h, hf⟩
        · obtain ⟨hb6, hf⟩ := jg_some hf
          obtain ⟨hb7, hf⟩ := jg_some hf
          obtain ⟨hb8, hf⟩ := jg_some hf
          obtain ⟨hb9, hf⟩ := jg_some hf
          obtain ⟨hb10, hf⟩ := jg_some hf
          obtain ⟨hb11, hf⟩ := jg_some hf
          obtain ⟨q12, hc_12, hf⟩ := jbind hf
          exact (w_M_petitionsOf_116 (fun l1 M res hf => ih l1 M hf) _ _ hf _ hp).trans ((w_M_asksFor hc_12 _ (jout hp (by decide : (([105, 111, 125, 126] : List Nat)).all (fun x => (([105, 111, 125, 126] : List Nat)).contains x) = true))).trans rfl)
        · exact (w_M_petitionsOf_116 (fun l1 M res hf => ih l1 M hf) _ _ hf _ hp).trans rfl
theorem w_M_petitionsOf {M : jp_M} {res : jp_M} (hf : f_M_petitionsOf M = some res) : ∀ p, p ∉ ([105, 111, 125, 126] : List Nat) → res p = M p := by
  intro p hp
  unfold f_M_petitionsOf at hf
  exact (w_M_petitionsOf_2 jFu _ _ hf _ hp).trans rfl
theorem w_M_asksOf {a1 : Int32} {M : jp_M} {res : jp_M} (hf : f_M_asksOf a1 M = some res) : ∀ p, p ∉ ([125] : List Nat) → res p = M p := by
  intro p hp
  unfold f_M_asksOf at hf
  obtain ⟨hb2, hf⟩ := jg_some hf
  obtain ⟨hb3, hf⟩ := jg_some hf
  obtain ⟨hb4, hf⟩ := jg_some hf
  obtain ⟨hb5, hf⟩ := jg_some hf
  obtain ⟨hb6, hf⟩ := jg_some hf
  obtain ⟨q7, hc_7, hf⟩ := jbind hf
  obtain rfl := Option.some.inj hf
  exact ((w_M_asks hc_7 _ (jout hp (by decide : (([125] : List Nat)).all (fun x => (([125] : List Nat)).contains x) = true))).trans rfl)
theorem w_M_fineNow {M : jp_M} {res : Int32 × jp_M} (hf : f_M_fineNow M = some res) : ∀ p, p ∉ ([126] : List Nat) → res.2 p = M p := by
  intro p hp
  unfold f_M_fineNow at hf
  obtain ⟨q1, hc_1, hf⟩ := jbind hf
  obtain rfl := Option.some.inj hf
  exact ((w_M_lawTells hc_1 _ (jout hp (by decide : (([126] : List Nat)).all (fun x => (([126] : List Nat)).contains x) = true))).trans rfl)
theorem w_M_isFined_35  (l1 : Int32) (l2 : Int32) (s0 : Int32) (M : jp_M) {res : Int32 × jp_M} (hf : f_M_isFined_35  l1 l2 s0 M = some res) : ∀ p, p ∉ ([105, 111, 125, 126] : List Nat) → res.2 p = M p := by
  intro p hp
  unfold f_M_isFined_35 at hf
  rcases jif_d hf with ⟨h, hf⟩ | ⟨h, hf⟩
  · obtain ⟨hb1, hf⟩ := jg_some hf
    obtain ⟨hb2, hf⟩ := jg_some hf
    obtain ⟨hb4, hf⟩ := jg_some hf
    obtain ⟨q5, hc_5, hf⟩ := jbind hf
    obtain ⟨q6, hc_6, hf⟩ := jbind hf
    obtain ⟨q7, hc_7, hf⟩ := jbind hf
    obtain ⟨hb8, hf⟩ := jg_some hf
    obtain ⟨hb10, hf⟩ := jg_some hf
    obtain ⟨hb11, hf⟩ := jg_some hf
    obtain ⟨hb14, hf⟩ := jg_some hf
    obtain ⟨hb15, hf⟩ := jg_some hf
    obtain ⟨q16, hc_16, hf⟩ := jbind hf
    obtain ⟨q17, hc_17, hf⟩ := jbind hf
    obtain rfl := Option.some.inj hf
    exact ((w_M_isOver hc_17 _ (jout hp (by decide : (([105] : List Nat)).all (fun x => (([105, 111, 125, 126] : List Nat)).contains x) = true))).trans ((w_M_notes hc_16 _ (jout hp (by decide : (([105, 111] : List Nat)).all (fun x => (([105, 111, 125, 126] : List Nat)).contains x) = true))).trans ((jp_set_ne (jne hp (by decide : 105 ∈ ([105, 111, 125, 126] : List Nat)))).trans ((jp_set_ne (jne hp (by decide : 105 ∈ ([105, 111, 125, 126] : List Nat)))).trans ((w_M_pays hc_7 _ (jout hp (by decide : (([105] : List Nat)).all (fun x => (([105, 111, 125, 126] : List Nat)).contains x) = true))).trans ((w_M_fineNow hc_6 _ (jout hp (by decide : (([126] : List Nat)).all (fun x => (([105, 111, 125, 126] : List Nat)).contains x) = true))).trans ((w_M_asksOf hc_5 _ (jout hp (by decide : (([125] : List Nat)).all (fun x => (([105, 111, 125, 126] : List Nat)).contains x) = true))).trans ((jp_set_ne (jne hp (by decide : 105 ∈ ([105, 111, 125, 126] : List Nat)))).trans rfl))))))))
  · obtain rfl := Option.some.inj hf
    exact rfl
theorem w_M_isFined {a1 : Int32} {M : jp_M} {res : Int32 × jp_M} (hf : f_M_isFined a1 M = some res) : ∀ p, p ∉ ([105, 111, 125, 126] : List Nat) → res.2 p = M p := by
  intro p hp
  unfold f_M_isFined at hf
  obtain ⟨hb2, hf⟩ := jg_some hf
  rcases jif_d hf with ⟨h, hf⟩ | ⟨h, hf⟩
  · obtain ⟨hb3, hf⟩ := jg_some hf
    obtain ⟨q4, hc_4, hf⟩ := jbind hf
    exact (w_M_isFined_35 _ _ _ _ hf _ hp).trans rfl
  · exact (w_M_isFined_35 _ _ _ _ hf _ hp).trans rfl
theorem w_M_passes_74 {c2 : Int32 → jp_M → Option (jp_M)} (hc2 : ∀ (l1 : Int32) (M : jp_M) (res : jp_M), c2 l1 M = some res → ∀ p, p ∉ ([105, 111] : List Nat) → res p = M p) (l1 : Int32) (M : jp_M) {res : jp_M} (hf : f_M_passes_74 c2 l1 M = some res) : ∀ p, p ∉ ([105, 111] : List Nat) → res p = M p := by
  intro p hp
  unfold f_M_passes_74 at hf
  exact (hc2 _ _ _ hf _ hp).trans rfl
theorem w_M_passes_2  : ∀ (n : Nat) (l1 : Int32) (M : jp_M) {res : jp_M}, f_M_passes_2 n  l1 M = some res → ∀ p, p ∉ ([105, 111] : List Nat) → res p = M p := by
  intro n
  induction n with
  | zero =>
    intro l1 M res hf
    cases hf
  | succ n ih =>
    intro l1 M res hf p hp
    rw [f_M_passes_2] at hf
    rcases jif_d hf with ⟨h, hf⟩ | ⟨h, hf⟩
    · obtain rfl := Option.some.inj hf
      exact rfl
    · obtain ⟨hb2, hf⟩ := jg_some hf
      obtain ⟨hb4, hf⟩ := jg_some hf
      obtain ⟨hb5, hf⟩ := jg_some hf
      rcases jif_d hf with ⟨h, hf⟩ | ⟨h, hf⟩
      · obtain ⟨hb6, hf⟩ := jg_some hf
        obtain ⟨q7, hc_7, hf⟩ := jbind hf
        obtain ⟨q8, hc_8, hf⟩ := jbind hf
        exact (w_M_passes_74 (fun l1 M res hf => ih l1 M hf) _ _ hf _ hp).trans ((w_M_isOver hc_8 _ (jout hp (by decide : (([105] : List Nat)).all (fun x => (([105, 111] : List Nat)).contains x) = true))).trans ((w_M_notes hc_7 _ (jout hp (by decide : (([105, 111] : List Nat)).all (fun x => (([105, 111] : List Nat)).contains x) = true))).trans ((jp_set_ne (jne hp (by decide : 105 ∈ ([105, 111] : List Nat)))).trans rfl)))
      · exact (w_M_passes_74 (fun l1 M res hf => ih l1 M hf) _ _ hf _ hp).trans ((jp_set_ne (jne hp (by decide : 105 ∈ ([105, 111] : List Nat)))).trans rfl)
theorem w_M_passes {M : jp_M} {res : jp_M} (hf : f_M_passes M = some res) : ∀ p, p ∉ ([105, 111] : List Nat) → res p = M p := by
  intro p hp
  unfold f_M_passes at hf
  exact (w_M_passes_2 jFu _ _ hf _ hp).trans rfl
theorem w_M_goesBy_119  (l1 : Int32) (M : jp_M) {res : Int32 × jp_M} (hf : f_M_goesBy_119  l1 M = some res) : ∀ p, p ∉ ([105, 111, 125, 126] : List Nat) → res.2 p = M p := by
  intro p hp
  unfold f_M_goesBy_119 at hf
  obtain rfl := Option.some.inj hf
  exact ((jp_set_ne (jne hp (by decide : 105 ∈ ([105, 111, 125, 126] : List Nat)))).trans rfl)
theorem w_M_goesBy_95  : ∀ (n : Nat) (l1 : Int32) (l3 : Int32) (M : jp_M) {res : Int32 × jp_M}, f_M_goesBy_95 n  l1 l3 M = some res → ∀ p, p ∉ ([105, 111, 125, 126] : List Nat) → res.2 p = M p := by
  intro n
  induction n with
  | zero =>
    intro l1 l3 M res hf
    cases hf
  | succ n ih =>
    intro l1 l3 M res hf p hp
    rw [f_M_goesBy_95] at hf
    rcases jif_d hf with ⟨h, hf⟩ | ⟨h, hf⟩
    · exact (w_M_goesBy_119 _ _ hf _ hp).trans rfl
    · obtain ⟨hb2, hf⟩ := jg_some hf
      exact (ih _ _ _ hf _ hp).trans ((jp_set_ne (jne hp (by decide : 105 ∈ ([105, 111, 125, 126] : List Nat)))).trans rfl)
theorem w_M_goesBy_69  : ∀ (n : Nat) (l1 : Int32) (l3 : Int32) (M : jp_M) {res : Int32 × jp_M}, f_M_goesBy_69 n  l1 l3 M = some res → ∀ p, p ∉ ([105, 111, 125, 126] : List Nat) → res.2 p = M p := by
  intro n
  induction n with
  | zero =>
    intro l1 l3 M res hf
    cases hf
  | succ n ih =>
    intro l1 l3 M res hf p hp
    rw [f_M_goesBy_69] at hf
    rcases jif_d hf with ⟨h, hf⟩ | ⟨h, hf⟩
    · exact (w_M_goesBy_95 jFu _ _ _ hf _ hp).trans rfl
    · obtain ⟨hb2, hf⟩ := jg_some hf
      exact (ih _ _ _ hf _ hp).trans ((jp_set_ne (jne hp (by decide : 105 ∈ ([105, 111, 125, 126] : List Nat)))).trans rfl)
theorem w_M_goesBy_47  (l1 : Int32) (M : jp_M) {res : Int32 × jp_M} (hf : f_M_goesBy_47  l1 M = some res) : ∀ p, p ∉ ([105, 111, 125, 126] : List Nat) → res.2 p = M p := by
  intro p hp
  unfold f_M_goesBy_47 at hf
  obtain ⟨q1, hc_1, hf⟩ := jbind hf
  rcases jif_d hf with ⟨h, hf⟩ | ⟨h, hf⟩
  · exact (w_M_goesBy_119 _ _ hf _ hp).trans ((w_M_passes hc_1 _ (jout hp (by decide : (([105, 111] : List Nat)).all (fun x => (([105, 111, 125, 126] : List Nat)).contains x) = true))).trans rfl)
  · exact (w_M_goesBy_69 jFu _ _ _ hf _ hp).trans ((w_M_passes hc_1 _ (jout hp (by decide : (([105, 111] : List Nat)).all (fun x => (([105, 111, 125, 126] : List Nat)).contains x) = true))).trans rfl)
theorem w_M_goesBy_8  : ∀ (n : Nat) (l1 : Int32) (l2 : Int32) (M : jp_M) {res : Int32 × jp_M}, f_M_goesBy_8 n  l1 l2 M = some res → ∀ p, p ∉ ([105, 111, 125, 126] : List Nat) → res.2 p = M p := by
  intro n
  induction n with
  | zero =>
    intro l1 l2 M res hf
    cases hf
  | succ n ih =>
    intro l1 l2 M res hf p hp
    rw [f_M_goesBy_8] at hf
    rcases jif_d hf with ⟨h, hf⟩ | ⟨h, hf⟩
    · exact (w_M_goesBy_47 _ _ hf _ hp).trans rfl
    · rcases jif_d hf with ⟨h, hf⟩ | ⟨h, hf⟩
      · exact (w_M_goesBy_47 _ _ hf _ hp).trans rfl
      · obtain ⟨q2, hc_2, hf⟩ := jbind hf
        rcases jif_d hf with ⟨h, hf⟩ | ⟨h, hf⟩
        · exact (ih _ _ _ hf _ hp).trans ((w_M_isFined hc_2 _ (jout hp (by decide : (([105, 111, 125, 126] : List Nat)).all (fun x => (([105, 111, 125, 126] : List Nat)).contains x) = true))).trans rfl)
        · exact (ih _ _ _ hf _ hp).trans ((w_M_isFined hc_2 _ (jout hp (by decide : (([105, 111, 125, 126] : List Nat)).all (fun x => (([105, 111, 125, 126] : List Nat)).contains x) = true))).trans rfl)
theorem w_M_goesBy {M : jp_M} {res : Int32 × jp_M} (hf : f_M_goesBy M = some res) : ∀ p, p ∉ ([105, 111, 125, 126] : List Nat) → res.2 p = M p := by
  intro p hp
  unfold f_M_goesBy at hf
  obtain ⟨q1, hc_1, hf⟩ := jbind hf
  exact (w_M_goesBy_8 jFu _ _ _ hf _ hp).trans ((w_M_petitionsOf hc_1 _ (jout hp (by decide : (([105, 111, 125, 126] : List Nat)).all (fun x => (([105, 111, 125, 126] : List Nat)).contains x) = true))).trans rfl)
theorem w_M_days_36  : ∀ (n : Nat) (l1 : Int32) (l2 : Int32) (l3 : Int32) (M : jp_M) {res : Int32 × jp_M}, f_M_days_36 n  l1 l2 l3 M = some res → ∀ p, p ∉ ([104, 105, 106, 111, 125, 126] : List Nat) → res.2 p = M p := by
  intro n
  induction n with
  | zero =>
    intro l1 l2 l3 M res hf
    cases hf
  | succ n ih =>
    intro l1 l2 l3 M res hf p hp
    rw [f_M_days_36] at hf
    rcases jif_d hf with ⟨h, hf⟩ | ⟨h, hf⟩
    · obtain rfl := Option.some.inj hf
      exact rfl
    · obtain ⟨q1, hc_1, hf⟩ := jbind hf
      obtain ⟨q2, hc_2, hf⟩ := jbind hf
      exact (ih _ _ _ _ hf _ hp).trans ((w_M_goesBy hc_2 _ (jout hp (by decide : (([105, 111, 125, 126] : List Nat)).all (fun x => (([104, 105, 106, 111, 125, 126] : List Nat)).contains x) = true))).trans ((w_M_keepsAhead hc_1 _ (jout hp (by decide : (([104, 106] : List Nat)).all (fun x => (([104, 105, 106, 111, 125, 126] : List Nat)).contains x) = true))).trans rfl))
theorem w_M_days {a1 : Int32} {M : jp_M} {res : Int32 × jp_M} (hf : f_M_days a1 M = some res) : ∀ p, p ∉ ([104, 105, 106, 111, 125, 126] : List Nat) → res.2 p = M p := by
  intro p hp
  unfold f_M_days at hf
  rcases jif_d hf with ⟨h, hf⟩ | ⟨h, hf⟩
  · obtain rfl := Option.some.inj hf
    exact ((jp_set_ne (jne hp (by decide : 104 ∈ ([104, 105, 106, 111, 125, 126] : List Nat)))).trans rfl)
  · rcases jif_d hf with ⟨h, hf⟩ | ⟨h, hf⟩
    · exact (w_M_days_36 jFu _ _ _ _ hf _ hp).trans ((jp_set_ne (jne hp (by decide : 104 ∈ ([104, 105, 106, 111, 125, 126] : List Nat)))).trans rfl)
    · obtain rfl := Option.some.inj hf
      exact ((jp_set_ne (jne hp (by decide : 104 ∈ ([104, 105, 106, 111, 125, 126] : List Nat)))).trans rfl)
theorem w_M_of {a1 : Int32} {a2 : Int32} {M : jp_M} {res : Int32 × jp_M} (hf : f_M_of a1 a2 M = some res) : ∀ p, p ∉ ([104] : List Nat) → res.2 p = M p := by
  intro p hp
  unfold f_M_of at hf
  rcases jif_d hf with ⟨h, hf⟩ | ⟨h, hf⟩
  · rcases jif_d hf with ⟨h, hf⟩ | ⟨h, hf⟩
    · rcases jif_d hf with ⟨h, hf⟩ | ⟨h, hf⟩
      · rcases jif_d hf with ⟨h, hf⟩ | ⟨h, hf⟩
        · rcases jif_d hf with ⟨h, hf⟩ | ⟨h, hf⟩
          · rcases jif_d hf with ⟨h, hf⟩ | ⟨h, hf⟩
            · obtain rfl := Option.some.inj hf
              exact ((jp_set_ne (jne hp (by decide : 104 ∈ ([104] : List Nat)))).trans rfl)
            · obtain ⟨hb3, hf⟩ := jg_some hf
              obtain rfl := Option.some.inj hf
              exact ((jp_set_ne (jne hp (by decide : 104 ∈ ([104] : List Nat)))).trans rfl)
          · obtain ⟨hb4, hf⟩ := jg_some hf
            obtain rfl := Option.some.inj hf
            exact ((jp_set_ne (jne hp (by decide : 104 ∈ ([104] : List Nat)))).trans rfl)
        · obtain ⟨hb5, hf⟩ := jg_some hf
          obtain rfl := Option.some.inj hf
          exact ((jp_set_ne (jne hp (by decide : 104 ∈ ([104] : List Nat)))).trans rfl)
      · obtain ⟨hb6, hf⟩ := jg_some hf
        obtain rfl := Option.some.inj hf
        exact ((jp_set_ne (jne hp (by decide : 104 ∈ ([104] : List Nat)))).trans rfl)
    · obtain ⟨hb7, hf⟩ := jg_some hf
      obtain rfl := Option.some.inj hf
      exact ((jp_set_ne (jne hp (by decide : 104 ∈ ([104] : List Nat)))).trans rfl)
  · obtain rfl := Option.some.inj hf
    exact ((jp_set_ne (jne hp (by decide : 104 ∈ ([104] : List Nat)))).trans rfl)
theorem w_M_bird {a1 : Int32} {a2 : Int32} {M : jp_M} {res : Int32 × jp_M} (hf : f_M_bird a1 a2 M = some res) : ∀ p, p ∉ ([104] : List Nat) → res.2 p = M p := by
  intro p hp
  unfold f_M_bird at hf
  rcases jif_d hf with ⟨h, hf⟩ | ⟨h, hf⟩
  · rcases jif_d hf with ⟨h, hf⟩ | ⟨h, hf⟩
    · rcases jif_d hf with ⟨h, hf⟩ | ⟨h, hf⟩
      · rcases jif_d hf with ⟨h, hf⟩ | ⟨h, hf⟩
        · rcases jif_d hf with ⟨h, hf⟩ | ⟨h, hf⟩
          · obtain rfl := Option.some.inj hf
            exact ((jp_set_ne (jne hp (by decide : 104 ∈ ([104] : List Nat)))).trans rfl)
          · obtain ⟨hb4, hf⟩ := jg_some hf
            obtain rfl := Option.some.inj hf
            exact ((jp_set_ne (jne hp (by decide : 104 ∈ ([104] : List Nat)))).trans rfl)
        · obtain ⟨hb5, hf⟩ := jg_some hf
          obtain rfl := Option.some.inj hf
          exact ((jp_set_ne (jne hp (by decide : 104 ∈ ([104] : List Nat)))).trans rfl)
      · obtain ⟨hb6, hf⟩ := jg_some hf
        obtain rfl := Option.some.inj hf
        exact ((jp_set_ne (jne hp (by decide : 104 ∈ ([104] : List Nat)))).trans rfl)
    · obtain ⟨q7, hc_7, hf⟩ := jbind hf
      rcases jif_d hf with ⟨h, hf⟩ | ⟨h, hf⟩
      · obtain rfl := Option.some.inj hf
        exact ((jp_set_ne (jne hp (by decide : 104 ∈ ([104] : List Nat)))).trans rfl)
      · obtain rfl := Option.some.inj hf
        exact ((jp_set_ne (jne hp (by decide : 104 ∈ ([104] : List Nat)))).trans rfl)
  · obtain rfl := Option.some.inj hf
    exact ((jp_set_ne (jne hp (by decide : 104 ∈ ([104] : List Nat)))).trans rfl)
theorem w_M_use {a1 : Int32} {a2 : Int32} {M : jp_M} {res : Int32 × jp_M} (hf : f_M_use a1 a2 M = some res) : ∀ p, p ∉ ([104, 125, 126] : List Nat) → res.2 p = M p := by
  intro p hp
  unfold f_M_use at hf
  rcases jif_d hf with ⟨h, hf⟩ | ⟨h, hf⟩
  · obtain rfl := Option.some.inj hf
    exact ((jp_set_ne (jne hp (by decide : 104 ∈ ([104, 125, 126] : List Nat)))).trans rfl)
  · rcases jif_d hf with ⟨h, hf⟩ | ⟨h, hf⟩
    · rcases jif_d hf with ⟨h, hf⟩ | ⟨h, hf⟩
      · obtain ⟨q4, hc_4, hf⟩ := jbind hf
        rcases jif_d hf with ⟨h, hf⟩ | ⟨h, hf⟩
        · rcases jif_d hf with ⟨h, hf⟩ | ⟨h, hf⟩
          · obtain ⟨q5, hc_5, hf⟩ := jbind hf
            obtain rfl := Option.some.inj hf
            exact ((w_M_fineNow hc_5 _ (jout hp (by decide : (([126] : List Nat)).all (fun x => (([104, 125, 126] : List Nat)).contains x) = true))).trans ((w_M_asksOf hc_4 _ (jout hp (by decide : (([125] : List Nat)).all (fun x => (([104, 125, 126] : List Nat)).contains x) = true))).trans ((jp_set_ne (jne hp (by decide : 104 ∈ ([104, 125, 126] : List Nat)))).trans rfl)))
          · obtain ⟨q6, hc_6, hf⟩ := jbind hf
            obtain rfl := Option.some.inj hf
            exact ((w_M_rentNow hc_6 _ (jout hp (by decide : (([126] : List Nat)).all (fun x => (([104, 125, 126] : List Nat)).contains x) = true))).trans ((w_M_asksOf hc_4 _ (jout hp (by decide : (([125] : List Nat)).all (fun x => (([104, 125, 126] : List Nat)).contains x) = true))).trans ((jp_set_ne (jne hp (by decide : 104 ∈ ([104, 125, 126] : List Nat)))).trans rfl)))
        · obtain ⟨q7, hc_7, hf⟩ := jbind hf
          obtain rfl := Option.some.inj hf
          exact ((w_M_leaveNow hc_7 _ (jout hp (by decide : (([126] : List Nat)).all (fun x => (([104, 125, 126] : List Nat)).contains x) = true))).trans ((w_M_asksOf hc_4 _ (jout hp (by decide : (([125] : List Nat)).all (fun x => (([104, 125, 126] : List Nat)).contains x) = true))).trans ((jp_set_ne (jne hp (by decide : 104 ∈ ([104, 125, 126] : List Nat)))).trans rfl)))
      · obtain ⟨hb9, hf⟩ := jg_some hf
        obtain rfl := Option.some.inj hf
        exact ((jp_set_ne (jne hp (by decide : 104 ∈ ([104, 125, 126] : List Nat)))).trans rfl)
    · obtain rfl := Option.some.inj hf
      exact ((jp_set_ne (jne hp (by decide : 104 ∈ ([104, 125, 126] : List Nat)))).trans rfl)
theorem w_M_lease {a1 : Int32} {M : jp_M} {res : Int32 × jp_M} (hf : f_M_lease a1 M = some res) : ∀ p, p ∉ ([104] : List Nat) → res.2 p = M p := by
  intro p hp
  unfold f_M_lease at hf
  rcases jif_d hf with ⟨h, hf⟩ | ⟨h, hf⟩
  · obtain rfl := Option.some.inj hf
    exact ((jp_set_ne (jne hp (by decide : 104 ∈ ([104] : List Nat)))).trans rfl)
  · obtain ⟨hb3, hf⟩ := jg_some hf
    obtain rfl := Option.some.inj hf
    exact ((jp_set_ne (jne hp (by decide : 104 ∈ ([104] : List Nat)))).trans rfl)
theorem w_M_book {a1 : Int32} {a2 : Int32} {M : jp_M} {res : Int32 × jp_M} (hf : f_M_book a1 a2 M = some res) : ∀ p, p ∉ ([104] : List Nat) → res.2 p = M p := by
  intro p hp
  unfold f_M_book at hf
  rcases jif_d hf with ⟨h, hf⟩ | ⟨h, hf⟩
  · obtain rfl := Option.some.inj hf
    exact ((jp_set_ne (jne hp (by decide : 104 ∈ ([104] : List Nat)))).trans rfl)
  · rcases jif_d hf with ⟨h, hf⟩ | ⟨h, hf⟩
    · obtain rfl := Option.some.inj hf
      exact ((jp_set_ne (jne hp (by decide : 104 ∈ ([104] : List Nat)))).trans rfl)
    · obtain ⟨hb4, hf⟩ := jg_some hf
      obtain rfl := Option.some.inj hf
      exact ((jp_set_ne (jne hp (by decide : 104 ∈ ([104] : List Nat)))).trans rfl)
theorem w_M_would {a1 : Int32} {a2 : Int32} {a3 : Int32} {a4 : Int32} {a5 : Int32} {M : jp_M} {res : Int32 × jp_M} (hf : f_M_would a1 a2 a3 a4 a5 M = some res) : ∀ p, p ∉ ([104, 125, 126] : List Nat) → res.2 p = M p := by
  intro p hp
  unfold f_M_would at hf
  rcases jif_d hf with ⟨h, hf⟩ | ⟨h, hf⟩
  · obtain rfl := Option.some.inj hf
    exact ((jp_set_ne (jne hp (by decide : 104 ∈ ([104, 125, 126] : List Nat)))).trans rfl)
  · rcases jif_d hf with ⟨h, hf⟩ | ⟨h, hf⟩
    · obtain ⟨q3, hc_3, hf⟩ := jbind hf
      obtain ⟨q4, hc_4, hf⟩ := jbind hf
      obtain ⟨q5, hc_5, hf⟩ := jbind hf
      rcases jif_d hf with ⟨h, hf⟩ | ⟨h, hf⟩
      · obtain rfl := Option.some.inj hf
        exact ((w_M_leaveNow hc_4 _ (jout hp (by decide : (([126] : List Nat)).all (fun x => (([104, 125, 126] : List Nat)).contains x) = true))).trans ((w_M_asks hc_3 _ (jout hp (by decide : (([125] : List Nat)).all (fun x => (([104, 125, 126] : List Nat)).contains x) = true))).trans ((jp_set_ne (jne hp (by decide : 104 ∈ ([104, 125, 126] : List Nat)))).trans rfl)))
      · obtain rfl := Option.some.inj hf
        exact ((w_M_leaveNow hc_4 _ (jout hp (by decide : (([126] : List Nat)).all (fun x => (([104, 125, 126] : List Nat)).contains x) = true))).trans ((w_M_asks hc_3 _ (jout hp (by decide : (([125] : List Nat)).all (fun x => (([104, 125, 126] : List Nat)).contains x) = true))).trans ((jp_set_ne (jne hp (by decide : 104 ∈ ([104, 125, 126] : List Nat)))).trans rfl)))
    · obtain rfl := Option.some.inj hf
      exact ((jp_set_ne (jne hp (by decide : 104 ∈ ([104, 125, 126] : List Nat)))).trans rfl)
theorem w_M_thinks_2  : ∀ (n : Nat) (l1 : Int32) (M : jp_M) {res : jp_M}, f_M_thinks_2 n  l1 M = some res → ∀ p, p ∉ ([104, 107] : List Nat) → res p = M p := by
  intro n
  induction n with
  | zero =>
    intro l1 M res hf
    cases hf
  | succ n ih =>
    intro l1 M res hf p hp
    rw [f_M_thinks_2] at hf
    rcases jif_d hf with ⟨h, hf⟩ | ⟨h, hf⟩
    · obtain rfl := Option.some.inj hf
      exact ((jp_set_ne (jne hp (by decide : 104 ∈ ([104, 107] : List Nat)))).trans rfl)
    · obtain ⟨hb2, hf⟩ := jg_some hf
      obtain ⟨hb4, hf⟩ := jg_some hf
      exact (ih _ _ hf _ hp).trans ((jp_set_ne (jne hp (by decide : 107 ∈ ([104, 107] : List Nat)))).trans rfl)
theorem w_M_thinks {M : jp_M} {res : jp_M} (hf : f_M_thinks M = some res) : ∀ p, p ∉ ([104, 107] : List Nat) → res p = M p := by
  intro p hp
  unfold f_M_thinks at hf
  exact (w_M_thinks_2 jFu _ _ hf _ hp).trans rfl
theorem w_M_endsThought_2  : ∀ (n : Nat) (l1 : Int32) (M : jp_M) {res : jp_M}, f_M_endsThought_2 n  l1 M = some res → ∀ p, p ∉ ([104, 105] : List Nat) → res p = M p := by
  intro n
  induction n with
  | zero =>
    intro l1 M res hf
    cases hf
  | succ n ih =>
    intro l1 M res hf p hp
    rw [f_M_endsThought_2] at hf
    rcases jif_d hf with ⟨h, hf⟩ | ⟨h, hf⟩
    · obtain rfl := Option.some.inj hf
      exact ((jp_set_ne (jne hp (by decide : 104 ∈ ([104, 105] : List Nat)))).trans rfl)
    · obtain ⟨hb2, hf⟩ := jg_some hf
      obtain ⟨hb4, hf⟩ := jg_some hf
      exact (ih _ _ hf _ hp).trans ((jp_set_ne (jne hp (by decide : 105 ∈ ([104, 105] : List Nat)))).trans rfl)
theorem w_M_endsThought {M : jp_M} {res : jp_M} (hf : f_M_endsThought M = some res) : ∀ p, p ∉ ([104, 105] : List Nat) → res p = M p := by
  intro p hp
  unfold f_M_endsThought at hf
  exact (w_M_endsThought_2 jFu _ _ hf _ hp).trans rfl
theorem w_M_goes_157  (s0 : Int32) (M : jp_M) {res : Int32 × jp_M} (hf : f_M_goes_157  s0 M = some res) : ∀ p, p ∉ ([104, 105, 107, 111, 125, 126] : List Nat) → res.2 p = M p := by
  intro p hp
  unfold f_M_goes_157 at hf
  obtain ⟨q1, hc_1, hf⟩ := jbind hf
  obtain rfl := Option.some.inj hf
  exact ((w_M_endsThought hc_1 _ (jout hp (by decide : (([104, 105] : List Nat)).all (fun x => (([104, 105, 107, 111, 125, 126] : List Nat)).contains x) = true))).trans rfl)
theorem w_M_goes_89  : ∀ (n : Nat) (l2 : Int32) (l3 : Int32) (l4 : Int32) (l5 : Int32) (M : jp_M) {res : Int32 × jp_M}, f_M_goes_89 n  l2 l3 l4 l5 M = some res → ∀ p, p ∉ ([104, 105, 107, 111, 125, 126] : List Nat) → res.2 p = M p := by
  intro n
  induction n with
  | zero =>
    intro l2 l3 l4 l5 M res hf
    cases hf
  | succ n ih =>
    intro l2 l3 l4 l5 M res hf p hp
    rw [f_M_goes_89] at hf
    rcases jif_d hf with ⟨h, hf⟩ | ⟨h, hf⟩
    · rcases jif_d hf with ⟨h, hf⟩ | ⟨h, hf⟩
      · rcases jif_d hf with ⟨h, hf⟩ | ⟨h, hf⟩
        · rcases jif_d hf with ⟨h, hf⟩ | ⟨h, hf⟩
          · exact (w_M_goes_157 _ _ hf _ hp).trans rfl
          · exact (w_M_goes_157 _ _ hf _ hp).trans rfl
        · exact (w_M_goes_157 _ _ hf _ hp).trans rfl
      · exact (w_M_goes_157 _ _ hf _ hp).trans rfl
    · obtain ⟨hb1, hf⟩ := jg_some hf
      exact (ih _ _ _ _ _ hf _ hp).trans rfl
theorem w_M_goes_58  : ∀ (n : Nat) (l2 : Int32) (l3 : Int32) (l4 : Int32) (l5 : Int32) (M : jp_M) {res : Int32 × jp_M}, f_M_goes_58 n  l2 l3 l4 l5 M = some res → ∀ p, p ∉ ([104, 105, 107, 111, 125, 126] : List Nat) → res.2 p = M p := by
  intro n
  induction n with
  | zero =>
    intro l2 l3 l4 l5 M res hf
    cases hf
  | succ n ih =>
    intro l2 l3 l4 l5 M res hf p hp
    rw [f_M_goes_58] at hf
    rcases jif_d hf with ⟨h, hf⟩ | ⟨h, hf⟩
    · exact (w_M_goes_89 jFu _ _ _ _ _ hf _ hp).trans rfl
    · obtain ⟨hb1, hf⟩ := jg_some hf
      exact (ih _ _ _ _ _ hf _ hp).trans rfl
theorem w_M_goes_34  : ∀ (n : Nat) (l1 : Int32) (l2 : Int32) (l3 : Int32) (M : jp_M) {res : Int32 × jp_M}, f_M_goes_34 n  l1 l2 l3 M = some res → ∀ p, p ∉ ([104, 105, 107, 111, 125, 126] : List Nat) → res.2 p = M p := by
  intro n
  induction n with
  | zero =>
    intro l1 l2 l3 M res hf
    cases hf
  | succ n ih =>
    intro l1 l2 l3 M res hf p hp
    rw [f_M_goes_34] at hf
    rcases jif_d hf with ⟨h, hf⟩ | ⟨h, hf⟩
    · exact (w_M_goes_58 jFu _ _ _ _ _ hf _ hp).trans rfl
    · obtain ⟨q1, hc_1, hf⟩ := jbind hf
      exact (ih _ _ _ _ hf _ hp).trans ((w_M_goesBy hc_1 _ (jout hp (by decide : (([105, 111, 125, 126] : List Nat)).all (fun x => (([104, 105, 107, 111, 125, 126] : List Nat)).contains x) = true))).trans rfl)
theorem w_M_goes {a1 : Int32} {a2 : Int32} {M : jp_M} {res : Int32 × jp_M} (hf : f_M_goes a1 a2 M = some res) : ∀ p, p ∉ ([104, 105, 107, 111, 125, 126] : List Nat) → res.2 p = M p := by
  intro p hp
  unfold f_M_goes at hf
  rcases jif_d hf with ⟨h, hf⟩ | ⟨h, hf⟩
  · obtain rfl := Option.some.inj hf
    exact ((jp_set_ne (jne hp (by decide : 104 ∈ ([104, 105, 107, 111, 125, 126] : List Nat)))).trans rfl)
  · rcases jif_d hf with ⟨h, hf⟩ | ⟨h, hf⟩
    · obtain ⟨q4, hc_4, hf⟩ := jbind hf
      exact (w_M_goes_34 jFu _ _ _ _ hf _ hp).trans ((w_M_thinks hc_4 _ (jout hp (by decide : (([104, 107] : List Nat)).all (fun x => (([104, 105, 107, 111, 125, 126] : List Nat)).contains x) = true))).trans ((jp_set_ne (jne hp (by decide : 104 ∈ ([104, 105, 107, 111, 125, 126] : List Nat)))).trans rfl))
    · obtain rfl := Option.some.inj hf
      exact ((jp_set_ne (jne hp (by decide : 104 ∈ ([104, 105, 107, 111, 125, 126] : List Nat)))).trans rfl)
theorem w_M_goesFrom_83 {c2 : Int32 → Int32 → Int32 → jp_M → Option (jp_M)} (hc2 : ∀ (l1 : Int32) (l2 : Int32) (l3 : Int32) (M : jp_M) (res : jp_M), c2 l1 l2 l3 M = some res → ∀ p, p ∉ ([127, 128] : List Nat) → res p = M p) (l1 : Int32) (l2 : Int32) (l3 : Int32) (M : jp_M) {res : jp_M} (hf : f_M_goesFrom_83 c2 l1 l2 l3 M = some res) : ∀ p, p ∉ ([127, 128] : List Nat) → res p = M p := by
  intro p hp
  unfold f_M_goesFrom_83 at hf
  exact (hc2 _ _ _ _ _ hf _ hp).trans rfl
theorem w_M_goesFrom_49 {c2 : Int32 → Int32 → Int32 → jp_M → Option (jp_M)} (hc2 : ∀ (l1 : Int32) (l2 : Int32) (l3 : Int32) (M : jp_M) (res : jp_M), c2 l1 l2 l3 M = some res → ∀ p, p ∉ ([127, 128] : List Nat) → res p = M p) (l1 : Int32) (l2 : Int32) (l3 : Int32) (M : jp_M) {res : jp_M} (hf : f_M_goesFrom_49 c2 l1 l2 l3 M = some res) : ∀ p, p ∉ ([127, 128] : List Nat) → res p = M p := by
  intro p hp
  unfold f_M_goesFrom_49 at hf
  obtain ⟨hb1, hf⟩ := jg_some hf
  rcases jif_d hf with ⟨h, hf⟩ | ⟨h, hf⟩
  · exact (w_M_goesFrom_83 hc2 _ _ _ _ hf _ hp).trans rfl
  · obtain ⟨hb2, hf⟩ := jg_some hf
    obtain ⟨hb3, hf⟩ := jg_some hf
    obtain ⟨hb6, hf⟩ := jg_some hf
    exact (w_M_goesFrom_83 hc2 _ _ _ _ hf _ hp).trans ((jp_set_ne (jne hp (by decide : 127 ∈ ([127, 128] : List Nat)))).trans rfl)
theorem w_M_goesFrom_2  : ∀ (n : Nat) (l1 : Int32) (l2 : Int32) (l3 : Int32) (M : jp_M) {res : jp_M}, f_M_goesFrom_2 n  l1 l2 l3 M = some res → ∀ p, p ∉ ([127, 128] : List Nat) → res p = M p := by
  intro n
  induction n with
  | zero =>
    intro l1 l2 l3 M res hf
    cases hf
  | succ n ih =>
    intro l1 l2 l3 M res hf p hp
    rw [f_M_goesFrom_2] at hf
    rcases jif_d hf with ⟨h, hf⟩ | ⟨h, hf⟩
    · obtain rfl := Option.some.inj hf
      exact rfl
    · rcases jif_d hf with ⟨h, hf⟩ | ⟨h, hf⟩
      · exact (w_M_goesFrom_83 (fun l1 l2 l3 M res hf => ih l1 l2 l3 M hf) _ _ _ _ hf _ hp).trans rfl
      · obtain ⟨q2, hc_2, hf⟩ := jbind hf
        rcases jif_d hf with ⟨h, hf⟩ | ⟨h, hf⟩
        · obtain ⟨hb3, hf⟩ := jg_some hf
          rcases jif_d hf with ⟨h, hf⟩ | ⟨h, hf⟩
          · exact (w_M_goesFrom_49 (fun l1 l2 l3 M res hf => ih l1 l2 l3 M hf) _ _ _ _ hf _ hp).trans rfl
          · obtain ⟨hb5, hf⟩ := jg_some hf
            exact (w_M_goesFrom_49 (fun l1 l2 l3 M res hf => ih l1 l2 l3 M hf) _ _ _ _ hf _ hp).trans ((jp_set_ne (jne hp (by decide : 128 ∈ ([127, 128] : List Nat)))).trans rfl)
        · exact (w_M_goesFrom_83 (fun l1 l2 l3 M res hf => ih l1 l2 l3 M hf) _ _ _ _ hf _ hp).trans rfl
theorem w_M_goesFrom {a1 : Int32} {a2 : Int32} {M : jp_M} {res : jp_M} (hf : f_M_goesFrom a1 a2 M = some res) : ∀ p, p ∉ ([127, 128] : List Nat) → res p = M p := by
  intro p hp
  unfold f_M_goesFrom at hf
  exact (w_M_goesFrom_2 jFu _ _ _ _ hf _ hp).trans rfl
theorem w_M_findsSteps_41 {c2 : Int32 → Int32 → jp_M → Option (jp_M)} (hc2 : ∀ (l1 : Int32) (l2 : Int32) (M : jp_M) (res : jp_M), c2 l1 l2 M = some res → ∀ p, p ∉ ([127, 128] : List Nat) → res p = M p) (l1 : Int32) (l2 : Int32) (s1 : Int32) (s2 : Int32) (M : jp_M) {res : jp_M} (hf : f_M_findsSteps_41 c2 l1 l2 s1 s2 M = some res) : ∀ p, p ∉ ([127, 128] : List Nat) → res p = M p := by
  intro p hp
  unfold f_M_findsSteps_41 at hf
  obtain ⟨hb2, hf⟩ := jg_some hf
  exact (hc2 _ _ _ _ hf _ hp).trans ((jp_set_ne (jne hp (by decide : 127 ∈ ([127, 128] : List Nat)))).trans rfl)
theorem w_M_findsSteps_25 {c2 : Int32 → Int32 → jp_M → Option (jp_M)} (hc2 : ∀ (l1 : Int32) (l2 : Int32) (M : jp_M) (res : jp_M), c2 l1 l2 M = some res → ∀ p, p ∉ ([127, 128] : List Nat) → res p = M p) (l1 : Int32) (l2 : Int32) (s1 : Int32) (s2 : Int32) (M : jp_M) {res : jp_M} (hf : f_M_findsSteps_25 c2 l1 l2 s1 s2 M = some res) : ∀ p, p ∉ ([127, 128] : List Nat) → res p = M p := by
  intro p hp
  unfold f_M_findsSteps_25 at hf
  obtain ⟨hb2, hf⟩ := jg_some hf
  rcases jif_d hf with ⟨h, hf⟩ | ⟨h, hf⟩
  · exact (w_M_findsSteps_41 hc2 _ _ _ _ _ hf _ hp).trans ((jp_set_ne (jne hp (by decide : 128 ∈ ([127, 128] : List Nat)))).trans rfl)
  · exact (w_M_findsSteps_41 hc2 _ _ _ _ _ hf _ hp).trans ((jp_set_ne (jne hp (by decide : 128 ∈ ([127, 128] : List Nat)))).trans rfl)
theorem w_M_findsSteps_80 {c29 : Int32 → jp_M → Option (jp_M)} (hc29 : ∀ (l2 : Int32) (M : jp_M) (res : jp_M), c29 l2 M = some res → ∀ p, p ∉ ([127, 128] : List Nat) → res p = M p) {c34 : Int32 → Int32 → jp_M → Option (jp_M)} (hc34 : ∀ (l2 : Int32) (l3 : Int32) (M : jp_M) (res : jp_M), c34 l2 l3 M = some res → ∀ p, p ∉ ([127, 128] : List Nat) → res p = M p) (l2 : Int32) (l3 : Int32) (M : jp_M) {res : jp_M} (hf : f_M_findsSteps_80 c29 c34 l2 l3 M = some res) : ∀ p, p ∉ ([127, 128] : List Nat) → res p = M p := by
  intro p hp
  unfold f_M_findsSteps_80 at hf
  exact (hc34 _ _ _ _ hf _ hp).trans rfl
theorem w_M_findsSteps_58 {c29 : Int32 → jp_M → Option (jp_M)} (hc29 : ∀ (l2 : Int32) (M : jp_M) (res : jp_M), c29 l2 M = some res → ∀ p, p ∉ ([127, 128] : List Nat) → res p = M p) : ∀ (n : Nat) (l2 : Int32) (l3 : Int32) (M : jp_M) {res : jp_M}, f_M_findsSteps_58 n c29 l2 l3 M = some res → ∀ p, p ∉ ([127, 128] : List Nat) → res p = M p := by
  intro n
  induction n with
  | zero =>
    intro l2 l3 M res hf
    cases hf
  | succ n ih =>
    intro l2 l3 M res hf p hp
    rw [f_M_findsSteps_58] at hf
    rcases jif_d hf with ⟨h, hf⟩ | ⟨h, hf⟩
    · exact (hc29 _ _ _ hf _ hp).trans rfl
    · obtain ⟨hb1, hf⟩ := jg_some hf
      rcases jif_d hf with ⟨h, hf⟩ | ⟨h, hf⟩
      · exact (w_M_findsSteps_80 hc29 (fun l2 l3 M res hf => ih l2 l3 M hf) _ _ _ hf _ hp).trans rfl
      · obtain ⟨q2, hc_2, hf⟩ := jbind hf
        exact (w_M_findsSteps_80 hc29 (fun l2 l3 M res hf => ih l2 l3 M hf) _ _ _ hf _ hp).trans ((w_M_goesFrom hc_2 _ (jout hp (by decide : (([127, 128] : List Nat)).all (fun x => (([127, 128] : List Nat)).contains x) = true))).trans rfl)
theorem w_M_findsSteps_50  : ∀ (n : Nat) (l2 : Int32) (M : jp_M) {res : jp_M}, f_M_findsSteps_50 n  l2 M = some res → ∀ p, p ∉ ([127, 128] : List Nat) → res p = M p := by
  intro n
  induction n with
  | zero =>
    intro l2 M res hf
    cases hf
  | succ n ih =>
    intro l2 M res hf p hp
    rw [f_M_findsSteps_50] at hf
    rcases jif_d hf with ⟨h, hf⟩ | ⟨h, hf⟩
    · obtain rfl := Option.some.inj hf
      exact rfl
    · exact (w_M_findsSteps_58 (fun l2 M res hf => ih l2 M hf) jFu _ _ _ hf _ hp).trans rfl
theorem w_M_findsSteps_2  : ∀ (n : Nat) (l1 : Int32) (l2 : Int32) (M : jp_M) {res : jp_M}, f_M_findsSteps_2 n  l1 l2 M = some res → ∀ p, p ∉ ([127, 128] : List Nat) → res p = M p := by
  intro n
  induction n with
  | zero =>
    intro l1 l2 M res hf
    cases hf
  | succ n ih =>
    intro l1 l2 M res hf p hp
    rw [f_M_findsSteps_2] at hf
    rcases jif_d hf with ⟨h, hf⟩ | ⟨h, hf⟩
    · exact (w_M_findsSteps_50 jFu _ _ hf _ hp).trans rfl
    · rcases jif_d hf with ⟨h, hf⟩ | ⟨h, hf⟩
      · exact (w_M_findsSteps_25 (fun l1 l2 M res hf => ih l1 l2 M hf) _ _ _ _ _ hf _ hp).trans rfl
      · exact (w_M_findsSteps_25 (fun l1 l2 M res hf => ih l1 l2 M hf) _ _ _ _ _ hf _ hp).trans rfl
theorem w_M_findsSteps {a1 : Int32} {M : jp_M} {res : jp_M} (hf : f_M_findsSteps a1 M = some res) : ∀ p, p ∉ ([127, 128] : List Nat) → res p = M p := by
  intro p hp
  unfold f_M_findsSteps at hf
  exact (w_M_findsSteps_2 jFu _ _ _ hf _ hp).trans rfl
theorem w_M_through {a1 : Int32} {a2 : Int32} {a3 : Int32} {M : jp_M} {res : Int32 × jp_M} (hf : f_M_through a1 a2 a3 M = some res) : ∀ p, p ∉ ([104, 127, 128] : List Nat) → res.2 p = M p := by
  intro p hp
  unfold f_M_through at hf
  rcases jif_d hf with ⟨h, hf⟩ | ⟨h, hf⟩
  · obtain rfl := Option.some.inj hf
    exact ((jp_set_ne (jne hp (by decide : 104 ∈ ([104, 127, 128] : List Nat)))).trans rfl)
  · rcases jif_d hf with ⟨h, hf⟩ | ⟨h, hf⟩
    · obtain rfl := Option.some.inj hf
      exact ((jp_set_ne (jne hp (by decide : 104 ∈ ([104, 127, 128] : List Nat)))).trans rfl)
    · rcases jif_d hf with ⟨h, hf⟩ | ⟨h, hf⟩
      · obtain rfl := Option.some.inj hf
        exact ((jp_set_ne (jne hp (by decide : 104 ∈ ([104, 127, 128] : List Nat)))).trans rfl)
      · obtain ⟨q5, hc_5, hf⟩ := jbind hf
        rcases jif_d hf with ⟨h, hf⟩ | ⟨h, hf⟩
        · obtain rfl := Option.some.inj hf
          exact ((jp_set_ne (jne hp (by decide : 104 ∈ ([104, 127, 128] : List Nat)))).trans rfl)
        · obtain ⟨q6, hc_6, hf⟩ := jbind hf
          rcases jif_d hf with ⟨h, hf⟩ | ⟨h, hf⟩
          · obtain ⟨q7, hc_7, hf⟩ := jbind hf
            obtain ⟨hb8, hf⟩ := jg_some hf
            rcases jif_d hf with ⟨h, hf⟩ | ⟨h, hf⟩
            · rcases jif_d hf with ⟨h, hf⟩ | ⟨h, hf⟩
              · obtain ⟨hb9, hf⟩ := jg_some hf
                obtain rfl := Option.some.inj hf
                exact ((w_M_findsSteps hc_7 _ (jout hp (by decide : (([127, 128] : List Nat)).all (fun x => (([104, 127, 128] : List Nat)).contains x) = true))).trans ((jp_set_ne (jne hp (by decide : 104 ∈ ([104, 127, 128] : List Nat)))).trans rfl))
              · obtain ⟨hb10, hf⟩ := jg_some hf
                obtain rfl := Option.some.inj hf
                exact ((w_M_findsSteps hc_7 _ (jout hp (by decide : (([127, 128] : List Nat)).all (fun x => (([104, 127, 128] : List Nat)).contains x) = true))).trans ((jp_set_ne (jne hp (by decide : 104 ∈ ([104, 127, 128] : List Nat)))).trans rfl))
            · obtain rfl := Option.some.inj hf
              exact ((w_M_findsSteps hc_7 _ (jout hp (by decide : (([127, 128] : List Nat)).all (fun x => (([104, 127, 128] : List Nat)).contains x) = true))).trans ((jp_set_ne (jne hp (by decide : 104 ∈ ([104, 127, 128] : List Nat)))).trans rfl))
          · obtain rfl := Option.some.inj hf
            exact ((jp_set_ne (jne hp (by decide : 104 ∈ ([104, 127, 128] : List Nat)))).trans rfl)
theorem w_M_wide_102 {c17 : Int32 → Int32 → Int32 → Int32 → jp_M → Option (Int32 × jp_M)} (hc17 : ∀ (l1 : Int32) (l2 : Int32) (l3 : Int32) (l4 : Int32) (M : jp_M) (res : Int32 × jp_M), c17 l1 l2 l3 l4 M = some res → ∀ p, p ∉ ([104] : List Nat) → res.2 p = M p) {c22 : Int32 → Int32 → Int32 → Int32 → Int32 → jp_M → Option (Int32 × jp_M)} (hc22 : ∀ (l1 : Int32) (l2 : Int32) (l3 : Int32) (l4 : Int32) (l5 : Int32) (M : jp_M) (res : Int32 × jp_M), c22 l1 l2 l3 l4 l5 M = some res → ∀ p, p ∉ ([104] : List Nat) → res.2 p = M p) {c29 : Int32 → Int32 → Int32 → Int32 → Int32 → Int32 → Int32 → jp_M → Option (Int32 × jp_M)} (hc29 : ∀ (l1 : Int32) (l2 : Int32) (l3 : Int32) (l4 : Int32) (l5 : Int32) (l6 : Int32) (l7 : Int32) (M : jp_M) (res : Int32 × jp_M), c29 l1 l2 l3 l4 l5 l6 l7 M = some res → ∀ p, p ∉ ([104] : List Nat) → res.2 p = M p) (l1 : Int32) (l2 : Int32) (l4 : Int32) (l5 : Int32) (l6 : Int32) (l7 : Int32) (l8 : Int32) (s0 : Int32) (M : jp_M) {res : Int32 × jp_M} (hf : f_M_wide_102 c17 c22 c29 l1 l2 l4 l5 l6 l7 l8 s0 M = some res) : ∀ p, p ∉ ([104] : List Nat) → res.2 p = M p := by
  intro p hp
  unfold f_M_wide_102 at hf
  exact (hc29 _ _ _ _ _ _ _ _ _ hf _ hp).trans rfl
theorem w_M_wide_49 {c17 : Int32 → Int32 → Int32 → Int32 → jp_M → Option (Int32 × jp_M)} (hc17 : ∀ (l1 : Int32) (l2 : Int32) (l3 : Int32) (l4 : Int32) (M : jp_M) (res : Int32 × jp_M), c17 l1 l2 l3 l4 M = some res → ∀ p, p ∉ ([104] : List Nat) → res.2 p = M p) {c22 : Int32 → Int32 → Int32 → Int32 → Int32 → jp_M → Option (Int32 × jp_M)} (hc22 : ∀ (l1 : Int32) (l2 : Int32) (l3 : Int32) (l4 : Int32) (l5 : Int32) (M : jp_M) (res : Int32 × jp_M), c22 l1 l2 l3 l4 l5 M = some res → ∀ p, p ∉ ([104] : List Nat) → res.2 p = M p) : ∀ (n : Nat) (l1 : Int32) (l2 : Int32) (l3 : Int32) (l4 : Int32) (l5 : Int32) (l6 : Int32) (l7 : Int32) (M : jp_M) {res : Int32 × jp_M}, f_M_wide_49 n c17 c22 l1 l2 l3 l4 l5 l6 l7 M = some res → ∀ p, p ∉ ([104] : List Nat) → res.2 p = M p := by
  intro n
  induction n with
  | zero =>
    intro l1 l2 l3 l4 l5 l6 l7 M res hf
    cases hf
  | succ n ih =>
    intro l1 l2 l3 l4 l5 l6 l7 M res hf p hp
    rw [f_M_wide_49] at hf
    rcases jif_d hf with ⟨h, hf⟩ | ⟨h, hf⟩
    · exact (hc22 _ _ _ _ _ _ _ hf _ hp).trans rfl
    · obtain ⟨q1, hc_1, hf⟩ := jbind hf
      rcases jif_d hf with ⟨h, hf⟩ | ⟨h, hf⟩
      · exact (w_M_wide_102 hc17 hc22 (fun l1 l2 l3 l4 l5 l6 l7 M res hf => ih l1 l2 l3 l4 l5 l6 l7 M hf) _ _ _ _ _ _ _ _ _ hf _ hp).trans rfl
      · exact (w_M_wide_102 hc17 hc22 (fun l1 l2 l3 l4 l5 l6 l7 M res hf => ih l1 l2 l3 l4 l5 l6 l7 M hf) _ _ _ _ _ _ _ _ _ hf _ hp).trans rfl
theorem w_M_wide_34 {c17 : Int32 → Int32 → Int32 → Int32 → jp_M → Option (Int32 × jp_M)} (hc17 : ∀ (l1 : Int32) (l2 : Int32) (l3 : Int32) (l4 : Int32) (M : jp_M) (res : Int32 × jp_M), c17 l1 l2 l3 l4 M = some res → ∀ p, p ∉ ([104] : List Nat) → res.2 p = M p) : ∀ (n : Nat) (l1 : Int32) (l2 : Int32) (l3 : Int32) (l4 : Int32) (l5 : Int32) (M : jp_M) {res : Int32 × jp_M}, f_M_wide_34 n c17 l1 l2 l3 l4 l5 M = some res → ∀ p, p ∉ ([104] : List Nat) → res.2 p = M p := by
  intro n
  induction n with
  | zero =>
    intro l1 l2 l3 l4 l5 M res hf
    cases hf
  | succ n ih =>
    intro l1 l2 l3 l4 l5 M res hf p hp
    rw [f_M_wide_34] at hf
    rcases jif_d hf with ⟨h, hf⟩ | ⟨h, hf⟩
    · exact (hc17 _ _ _ _ _ _ hf _ hp).trans rfl
    · exact (w_M_wide_49 hc17 (fun l1 l2 l3 l4 l5 M res hf => ih l1 l2 l3 l4 l5 M hf) jFu _ _ _ _ _ _ _ _ hf _ hp).trans rfl
theorem w_M_wide_24  : ∀ (n : Nat) (l1 : Int32) (l2 : Int32) (l3 : Int32) (l4 : Int32) (M : jp_M) {res : Int32 × jp_M}, f_M_wide_24 n  l1 l2 l3 l4 M = some res → ∀ p, p ∉ ([104] : List Nat) → res.2 p = M p := by
  intro n
  induction n with
  | zero =>
    intro l1 l2 l3 l4 M res hf
    cases hf
  | succ n ih =>
    intro l1 l2 l3 l4 M res hf p hp
    rw [f_M_wide_24] at hf
    rcases jif_d hf with ⟨h, hf⟩ | ⟨h, hf⟩
    · rcases jif_d hf with ⟨h, hf⟩ | ⟨h, hf⟩
      · obtain rfl := Option.some.inj hf
        exact rfl
      · obtain rfl := Option.some.inj hf
        exact rfl
    · exact (w_M_wide_34 (fun l1 l2 l3 l4 M res hf => ih l1 l2 l3 l4 M hf) jFu _ _ _ _ _ _ hf _ hp).trans rfl
theorem w_M_wide {a1 : Int32} {M : jp_M} {res : Int32 × jp_M} (hf : f_M_wide a1 M = some res) : ∀ p, p ∉ ([104] : List Nat) → res.2 p = M p := by
  intro p hp
  unfold f_M_wide at hf
  rcases jif_d hf with ⟨h, hf⟩ | ⟨h, hf⟩
  · exact (w_M_wide_24 jFu _ _ _ _ _ hf _ hp).trans ((jp_set_ne (jne hp (by decide : 104 ∈ ([104] : List Nat)))).trans rfl)
  · obtain rfl := Option.some.inj hf
    exact ((jp_set_ne (jne hp (by decide : 104 ∈ ([104] : List Nat)))).trans rfl)
theorem w_M_upright {a1 : Int32} {a2 : Int32} {M : jp_M} {res : Int32 × jp_M} (hf : f_M_upright a1 a2 M = some res) : ∀ p, p ∉ ([104] : List Nat) → res.2 p = M p := by
  intro p hp
  unfold f_M_upright at hf
  rcases jif_d hf with ⟨h, hf⟩ | ⟨h, hf⟩
  · obtain rfl := Option.some.inj hf
    exact ((jp_set_ne (jne hp (by decide : 104 ∈ ([104] : List Nat)))).trans rfl)
  · rcases jif_d hf with ⟨h, hf⟩ | ⟨h, hf⟩
    · obtain ⟨hb4, hf⟩ := jg_some hf
      obtain ⟨q5, hc_5, hf⟩ := jbind hf
      rcases jif_d hf with ⟨h, hf⟩ | ⟨h, hf⟩
      · obtain ⟨hb6, hf⟩ := jg_some hf
        obtain ⟨hb7, hf⟩ := jg_some hf
        rcases jif_d hf with ⟨h, hf⟩ | ⟨h, hf⟩
        · obtain rfl := Option.some.inj hf
          exact ((jp_set_ne (jne hp (by decide : 104 ∈ ([104] : List Nat)))).trans rfl)
        · obtain rfl := Option.some.inj hf
          exact ((jp_set_ne (jne hp (by decide : 104 ∈ ([104] : List Nat)))).trans rfl)
      · obtain rfl := Option.some.inj hf
        exact ((jp_set_ne (jne hp (by decide : 104 ∈ ([104] : List Nat)))).trans rfl)
    · obtain rfl := Option.some.inj hf
      exact ((jp_set_ne (jne hp (by decide : 104 ∈ ([104] : List Nat)))).trans rfl)
theorem w_M_leaps_88 {c13 : Int32 → Int32 → jp_M → Option (Int32 × jp_M)} (hc13 : ∀ (l1 : Int32) (l2 : Int32) (M : jp_M) (res : Int32 × jp_M), c13 l1 l2 M = some res → ∀ p, p ∉ ([104, 127] : List Nat) → res.2 p = M p) (l1 : Int32) (l2 : Int32) (M : jp_M) {res : Int32 × jp_M} (hf : f_M_leaps_88 c13 l1 l2 M = some res) : ∀ p, p ∉ ([104, 127] : List Nat) → res.2 p = M p := by
  intro p hp
  unfold f_M_leaps_88 at hf
  exact (hc13 _ _ _ _ hf _ hp).trans rfl
theorem w_M_leaps_42 {c13 : Int32 → Int32 → jp_M → Option (Int32 × jp_M)} (hc13 : ∀ (l1 : Int32) (l2 : Int32) (M : jp_M) (res : Int32 × jp_M), c13 l1 l2 M = some res → ∀ p, p ∉ ([104, 127] : List Nat) → res.2 p = M p) : ∀ (n : Nat) (l1 : Int32) (l2 : Int32) (l3 : Int32) (M : jp_M) {res : Int32 × jp_M}, f_M_leaps_42 n c13 l1 l2 l3 M = some res → ∀ p, p ∉ ([104, 127] : List Nat) → res.2 p = M p := by
  intro n
  induction n with
  | zero =>
    intro l1 l2 l3 M res hf
    cases hf
  | succ n ih =>
    intro l1 l2 l3 M res hf p hp
    rw [f_M_leaps_42] at hf
    rcases jif_d hf with ⟨h, hf⟩ | ⟨h, hf⟩
    · exact (w_M_leaps_88 hc13 _ _ _ hf _ hp).trans rfl
    · obtain ⟨q2, hc_2, hf⟩ := jbind hf
      rcases jif_d hf with ⟨h, hf⟩ | ⟨h, hf⟩
      · exact (w_M_leaps_88 hc13 _ _ _ hf _ hp).trans rfl
      · obtain ⟨hb3, hf⟩ := jg_some hf
        obtain ⟨hb4, hf⟩ := jg_some hf
        obtain ⟨hb6, hf⟩ := jg_some hf
        exact (ih _ _ _ _ hf _ hp).trans ((jp_set_ne (jne hp (by decide : 127 ∈ ([104, 127] : List Nat)))).trans rfl)
theorem w_M_leaps_39 {c13 : Int32 → Int32 → jp_M → Option (Int32 × jp_M)} (hc13 : ∀ (l1 : Int32) (l2 : Int32) (M : jp_M) (res : Int32 × jp_M), c13 l1 l2 M = some res → ∀ p, p ∉ ([104, 127] : List Nat) → res.2 p = M p) (l1 : Int32) (l2 : Int32) (s1 : Int32) (s2 : Int32) (M : jp_M) {res : Int32 × jp_M} (hf : f_M_leaps_39 c13 l1 l2 s1 s2 M = some res) : ∀ p, p ∉ ([104, 127] : List Nat) → res.2 p = M p := by
  intro p hp
  unfold f_M_leaps_39 at hf
  obtain ⟨hb2, hf⟩ := jg_some hf
  exact (w_M_leaps_42 hc13 jFu _ _ _ _ hf _ hp).trans ((jp_set_ne (jne hp (by decide : 127 ∈ ([104, 127] : List Nat)))).trans rfl)
theorem w_M_leaps_20  : ∀ (n : Nat) (l1 : Int32) (l2 : Int32) (M : jp_M) {res : Int32 × jp_M}, f_M_leaps_20 n  l1 l2 M = some res → ∀ p, p ∉ ([104, 127] : List Nat) → res.2 p = M p := by
  intro n
  induction n with
  | zero =>
    intro l1 l2 M res hf
    cases hf
  | succ n ih =>
    intro l1 l2 M res hf p hp
    rw [f_M_leaps_20] at hf
    rcases jif_d hf with ⟨h, hf⟩ | ⟨h, hf⟩
    · obtain ⟨hb1, hf⟩ := jg_some hf
      obtain rfl := Option.some.inj hf
      exact rfl
    · rcases jif_d hf with ⟨h, hf⟩ | ⟨h, hf⟩
      · exact (w_M_leaps_39 (fun l1 l2 M res hf => ih l1 l2 M hf) _ _ _ _ _ hf _ hp).trans rfl
      · exact (w_M_leaps_39 (fun l1 l2 M res hf => ih l1 l2 M hf) _ _ _ _ _ hf _ hp).trans rfl
theorem w_M_leaps {a1 : Int32} {M : jp_M} {res : Int32 × jp_M} (hf : f_M_leaps a1 M = some res) : ∀ p, p ∉ ([104, 127] : List Nat) → res.2 p = M p := by
  intro p hp
  unfold f_M_leaps at hf
  rcases jif_d hf with ⟨h, hf⟩ | ⟨h, hf⟩
  · exact (w_M_leaps_20 jFu _ _ _ hf _ hp).trans ((jp_set_ne (jne hp (by decide : 104 ∈ ([104, 127] : List Nat)))).trans rfl)
  · obtain rfl := Option.some.inj hf
    exact ((jp_set_ne (jne hp (by decide : 104 ∈ ([104, 127] : List Nat)))).trans rfl)
theorem w_M_wish {a1 : Int32} {a2 : Int32} {a3 : Int32} {M : jp_M} {res : Int32 × jp_M} (hf : f_M_wish a1 a2 a3 M = some res) : ∀ p, p ∉ ([104, 129, 130, 131] : List Nat) → res.2 p = M p := by
  intro p hp
  unfold f_M_wish at hf
  rcases jif_d hf with ⟨h, hf⟩ | ⟨h, hf⟩
  · rcases jif_d hf with ⟨h, hf⟩ | ⟨h, hf⟩
    · obtain rfl := Option.some.inj hf
      exact ((jp_set_ne (jne hp (by decide : 104 ∈ ([104, 129, 130, 131] : List Nat)))).trans rfl)
    · rcases jif_d hf with ⟨h, hf⟩ | ⟨h, hf⟩
      · obtain rfl := Option.some.inj hf
        exact ((jp_set_ne (jne hp (by decide : 104 ∈ ([104, 129, 130, 131] : List Nat)))).trans rfl)
      · rcases jif_d hf with ⟨h, hf⟩ | ⟨h, hf⟩
        · obtain rfl := Option.some.inj hf
          exact ((jp_set_ne (jne hp (by decide : 104 ∈ ([104, 129, 130, 131] : List Nat)))).trans rfl)
        · rcases jif_d hf with ⟨h, hf⟩ | ⟨h, hf⟩
          · obtain ⟨hb6, hf⟩ := jg_some hf
            obtain ⟨hb8, hf⟩ := jg_some hf
            obtain ⟨hb10, hf⟩ := jg_some hf
            obtain rfl := Option.some.inj hf
            exact ((jp_set_ne (jne hp (by decide : 104 ∈ ([104, 129, 130, 131] : List Nat)))).trans ((jp_set_ne (jne hp (by decide : 131 ∈ ([104, 129, 130, 131] : List Nat)))).trans ((jp_set_ne (jne hp (by decide : 130 ∈ ([104, 129, 130, 131] : List Nat)))).trans ((jp_set_ne (jne hp (by decide : 129 ∈ ([104, 129, 130, 131] : List Nat)))).trans ((jp_set_ne (jne hp (by decide : 104 ∈ ([104, 129, 130, 131] : List Nat)))).trans rfl)))))
          · obtain rfl := Option.some.inj hf
            exact ((jp_set_ne (jne hp (by decide : 104 ∈ ([104, 129, 130, 131] : List Nat)))).trans rfl)
  · obtain rfl := Option.some.inj hf
    exact ((jp_set_ne (jne hp (by decide : 104 ∈ ([104, 129, 130, 131] : List Nat)))).trans ((jp_set_ne (jne hp (by decide : 104 ∈ ([104, 129, 130, 131] : List Nat)))).trans rfl))
theorem w_M_beside_54 {c15 : Int32 → Int32 → Int32 → jp_M → Option (Int32 × jp_M)} (hc15 : ∀ (l1 : Int32) (l2 : Int32) (l3 : Int32) (M : jp_M) (res : Int32 × jp_M), c15 l1 l2 l3 M = some res → ∀ p, p ∉ ([104] : List Nat) → res.2 p = M p) (l1 : Int32) (l2 : Int32) (l3 : Int32) (M : jp_M) {res : Int32 × jp_M} (hf : f_M_beside_54 c15 l1 l2 l3 M = some res) : ∀ p, p ∉ ([104] : List Nat) → res.2 p = M p := by
  intro p hp
  unfold f_M_beside_54 at hf
  exact (hc15 _ _ _ _ _ hf _ hp).trans rfl
theorem w_M_beside_21  : ∀ (n : Nat) (l1 : Int32) (l2 : Int32) (l3 : Int32) (M : jp_M) {res : Int32 × jp_M}, f_M_beside_21 n  l1 l2 l3 M = some res → ∀ p, p ∉ ([104] : List Nat) → res.2 p = M p := by
  intro n
  induction n with
  | zero =>
    intro l1 l2 l3 M res hf
    cases hf
  | succ n ih =>
    intro l1 l2 l3 M res hf p hp
    rw [f_M_beside_21] at hf
    rcases jif_d hf with ⟨h, hf⟩ | ⟨h, hf⟩
    · rcases jif_d hf with ⟨h, hf⟩ | ⟨h, hf⟩
      · obtain rfl := Option.some.inj hf
        exact rfl
      · obtain ⟨q1, hc_1, hf⟩ := jbind hf
        obtain rfl := Option.some.inj hf
        exact rfl
    · obtain ⟨q2, hc_2, hf⟩ := jbind hf
      obtain ⟨q3, hc_3, hf⟩ := jbind hf
      rcases jif_d hf with ⟨h, hf⟩ | ⟨h, hf⟩
      · exact (w_M_beside_54 (fun l1 l2 l3 M res hf => ih l1 l2 l3 M hf) _ _ _ _ hf _ hp).trans rfl
      · obtain ⟨q4, hc_4, hf⟩ := jbind hf
        rcases jif_d hf with ⟨h, hf⟩ | ⟨h, hf⟩
        · exact (w_M_beside_54 (fun l1 l2 l3 M res hf => ih l1 l2 l3 M hf) _ _ _ _ hf _ hp).trans rfl
        · exact (w_M_beside_54 (fun l1 l2 l3 M res hf => ih l1 l2 l3 M hf) _ _ _ _ hf _ hp).trans rfl
theorem w_M_beside {a1 : Int32} {M : jp_M} {res : Int32 × jp_M} (hf : f_M_beside a1 M = some res) : ∀ p, p ∉ ([104] : List Nat) → res.2 p = M p := by
  intro p hp
  unfold f_M_beside at hf
  rcases jif_d hf with ⟨h, hf⟩ | ⟨h, hf⟩
  · exact (w_M_beside_21 jFu _ _ _ _ hf _ hp).trans ((jp_set_ne (jne hp (by decide : 104 ∈ ([104] : List Nat)))).trans rfl)
  · obtain rfl := Option.some.inj hf
    exact ((jp_set_ne (jne hp (by decide : 104 ∈ ([104] : List Nat)))).trans rfl)
theorem w_M_kite {a1 : Int32} {a2 : Int32} {M : jp_M} {res : Int32 × jp_M} (hf : f_M_kite a1 a2 M = some res) : ∀ p, p ∉ ([104, 132, 133] : List Nat) → res.2 p = M p := by
  intro p hp
  unfold f_M_kite at hf
  rcases jif_d hf with ⟨h, hf⟩ | ⟨h, hf⟩
  · rcases jif_d hf with ⟨h, hf⟩ | ⟨h, hf⟩
    · obtain rfl := Option.some.inj hf
      exact ((jp_set_ne (jne hp (by decide : 104 ∈ ([104, 132, 133] : List Nat)))).trans rfl)
    · rcases jif_d hf with ⟨h, hf⟩ | ⟨h, hf⟩
      · obtain rfl := Option.some.inj hf
        exact ((jp_set_ne (jne hp (by decide : 104 ∈ ([104, 132, 133] : List Nat)))).trans rfl)
      · rcases jif_d hf with ⟨h, hf⟩ | ⟨h, hf⟩
        · obtain ⟨hb5, hf⟩ := jg_some hf
          obtain ⟨hb7, hf⟩ := jg_some hf
          obtain rfl := Option.some.inj hf
          exact ((jp_set_ne (jne hp (by decide : 104 ∈ ([104, 132, 133] : List Nat)))).trans ((jp_set_ne (jne hp (by decide : 133 ∈ ([104, 132, 133] : List Nat)))).trans ((jp_set_ne (jne hp (by decide : 132 ∈ ([104, 132, 133] : List Nat)))).trans ((jp_set_ne (jne hp (by decide : 104 ∈ ([104, 132, 133] : List Nat)))).trans rfl))))
        · obtain rfl := Option.some.inj hf
          exact ((jp_set_ne (jne hp (by decide : 104 ∈ ([104, 132, 133] : List Nat)))).trans rfl)
  · obtain rfl := Option.some.inj hf
    exact ((jp_set_ne (jne hp (by decide : 104 ∈ ([104, 132, 133] : List Nat)))).trans ((jp_set_ne (jne hp (by decide : 104 ∈ ([104, 132, 133] : List Nat)))).trans rfl))
theorem w_M_layers_93 {c17 : Int32 → Int32 → jp_M → Option (Int32 × jp_M)} (hc17 : ∀ (l1 : Int32) (l2 : Int32) (M : jp_M) (res : Int32 × jp_M), c17 l1 l2 M = some res → ∀ p, p ∉ ([134] : List Nat) → res.2 p = M p) {c23 : Int32 → Int32 → Int32 → jp_M → Option (Int32 × jp_M)} (hc23 : ∀ (l1 : Int32) (l2 : Int32) (l3 : Int32) (M : jp_M) (res : Int32 × jp_M), c23 l1 l2 l3 M = some res → ∀ p, p ∉ ([134] : List Nat) → res.2 p = M p) {c29 : Int32 → Int32 → Int32 → Int32 → jp_M → Option (Int32 × jp_M)} (hc29 : ∀ (l1 : Int32) (l2 : Int32) (l3 : Int32) (l4 : Int32) (M : jp_M) (res : Int32 × jp_M), c29 l1 l2 l3 l4 M = some res → ∀ p, p ∉ ([134] : List Nat) → res.2 p = M p) (l1 : Int32) (l2 : Int32) (l3 : Int32) (l4 : Int32) (M : jp_M) {res : Int32 × jp_M} (hf : f_M_layers_93 c17 c23 c29 l1 l2 l3 l4 M = some res) : ∀ p, p ∉ ([134] : List Nat) → res.2 p = M p := by
  intro p hp
  unfold f_M_layers_93 at hf
  exact (hc29 _ _ _ _ _ _ hf _ hp).trans rfl
theorem w_M_layers_48 {c17 : Int32 → Int32 → jp_M → Option (Int32 × jp_M)} (hc17 : ∀ (l1 : Int32) (l2 : Int32) (M : jp_M) (res : Int32 × jp_M), c17 l1 l2 M = some res → ∀ p, p ∉ ([134] : List Nat) → res.2 p = M p) {c23 : Int32 → Int32 → Int32 → jp_M → Option (Int32 × jp_M)} (hc23 : ∀ (l1 : Int32) (l2 : Int32) (l3 : Int32) (M : jp_M) (res : Int32 × jp_M), c23 l1 l2 l3 M = some res → ∀ p, p ∉ ([134] : List Nat) → res.2 p = M p) : ∀ (n : Nat) (l1 : Int32) (l2 : Int32) (l3 : Int32) (l4 : Int32) (M : jp_M) {res : Int32 × jp_M}, f_M_layers_48 n c17 c23 l1 l2 l3 l4 M = some res → ∀ p, p ∉ ([134] : List Nat) → res.2 p = M p := by
  intro n
  induction n with
  | zero =>
    intro l1 l2 l3 l4 M res hf
    cases hf
  | succ n ih =>
    intro l1 l2 l3 l4 M res hf p hp
    rw [f_M_layers_48] at hf
    rcases jif_d hf with ⟨h, hf⟩ | ⟨h, hf⟩
    · exact (hc23 _ _ _ _ _ hf _ hp).trans rfl
    · obtain ⟨q1, hc_1, hf⟩ := jbind hf
      rcases jif_d hf with ⟨h, hf⟩ | ⟨h, hf⟩
      · exact (w_M_layers_93 hc17 hc23 (fun l1 l2 l3 l4 M res hf => ih l1 l2 l3 l4 M hf) _ _ _ _ _ hf _ hp).trans rfl
      · obtain ⟨hb2, hf⟩ := jg_some hf
        obtain ⟨hb3, hf⟩ := jg_some hf
        obtain ⟨hb6, hf⟩ := jg_some hf
        exact (w_M_layers_93 hc17 hc23 (fun l1 l2 l3 l4 M res hf => ih l1 l2 l3 l4 M hf) _ _ _ _ _ hf _ hp).trans ((jp_set_ne (jne hp (by decide : 134 ∈ ([134] : List Nat)))).trans rfl)
theorem w_M_layers_37 {c17 : Int32 → Int32 → jp_M → Option (Int32 × jp_M)} (hc17 : ∀ (l1 : Int32) (l2 : Int32) (M : jp_M) (res : Int32 × jp_M), c17 l1 l2 M = some res → ∀ p, p ∉ ([134] : List Nat) → res.2 p = M p) : ∀ (n : Nat) (l1 : Int32) (l2 : Int32) (l3 : Int32) (M : jp_M) {res : Int32 × jp_M}, f_M_layers_37 n c17 l1 l2 l3 M = some res → ∀ p, p ∉ ([134] : List Nat) → res.2 p = M p := by
  intro n
  induction n with
  | zero =>
    intro l1 l2 l3 M res hf
    cases hf
  | succ n ih =>
    intro l1 l2 l3 M res hf p hp
    rw [f_M_layers_37] at hf
    rcases jif_d hf with ⟨h, hf⟩ | ⟨h, hf⟩
    · exact (hc17 _ _ _ _ hf _ hp).trans rfl
    · exact (w_M_layers_48 hc17 (fun l1 l2 l3 M res hf => ih l1 l2 l3 M hf) jFu _ _ _ _ _ hf _ hp).trans rfl
theorem w_M_layers_113  : ∀ (n : Nat) (l1 : Int32) (l2 : Int32) (M : jp_M) {res : Int32 × jp_M}, f_M_layers_113 n  l1 l2 M = some res → ∀ p, p ∉ ([134] : List Nat) → res.2 p = M p := by
  intro n
  induction n with
  | zero =>
    intro l1 l2 M res hf
    cases hf
  | succ n ih =>
    intro l1 l2 M res hf p hp
    rw [f_M_layers_113] at hf
    rcases jif_d hf with ⟨h, hf⟩ | ⟨h, hf⟩
    · obtain rfl := Option.some.inj hf
      exact rfl
    · obtain ⟨hb1, hf⟩ := jg_some hf
      exact (ih _ _ _ hf _ hp).trans rfl
theorem w_M_layers_27  : ∀ (n : Nat) (l1 : Int32) (l2 : Int32) (M : jp_M) {res : Int32 × jp_M}, f_M_layers_27 n  l1 l2 M = some res → ∀ p, p ∉ ([134] : List Nat) → res.2 p = M p := by
  intro n
  induction n with
  | zero =>
    intro l1 l2 M res hf
    cases hf
  | succ n ih =>
    intro l1 l2 M res hf p hp
    rw [f_M_layers_27] at hf
    rcases jif_d hf with ⟨h, hf⟩ | ⟨h, hf⟩
    · exact (w_M_layers_113 jFu _ _ _ hf _ hp).trans rfl
    · exact (w_M_layers_37 (fun l1 l2 M res hf => ih l1 l2 M hf) jFu _ _ _ _ hf _ hp).trans rfl
theorem w_M_layers_4  : ∀ (n : Nat) (l1 : Int32) (l2 : Int32) (M : jp_M) {res : Int32 × jp_M}, f_M_layers_4 n  l1 l2 M = some res → ∀ p, p ∉ ([134] : List Nat) → res.2 p = M p := by
  intro n
  induction n with
  | zero =>
    intro l1 l2 M res hf
    cases hf
  | succ n ih =>
    intro l1 l2 M res hf p hp
    rw [f_M_layers_4] at hf
    rcases jif_d hf with ⟨h, hf⟩ | ⟨h, hf⟩
    · exact (w_M_layers_27 jFu _ _ _ hf _ hp).trans rfl
    · obtain ⟨hb2, hf⟩ := jg_some hf
      exact (ih _ _ _ hf _ hp).trans ((jp_set_ne (jne hp (by decide : 134 ∈ ([134] : List Nat)))).trans rfl)
theorem w_M_layers {M : jp_M} {res : Int32 × jp_M} (hf : f_M_layers M = some res) : ∀ p, p ∉ ([134] : List Nat) → res.2 p = M p := by
  intro p hp
  unfold f_M_layers at hf
  exact (w_M_layers_4 jFu _ _ _ hf _ hp).trans rfl
theorem w_M_strings_65 {c21 : Int32 → Int32 → jp_M → Option (Int32 × jp_M)} (hc21 : ∀ (l2 : Int32) (l3 : Int32) (M : jp_M) (res : Int32 × jp_M), c21 l2 l3 M = some res → ∀ p, p ∉ ([104, 134] : List Nat) → res.2 p = M p) {c27 : Int32 → Int32 → Int32 → jp_M → Option (Int32 × jp_M)} (hc27 : ∀ (l2 : Int32) (l3 : Int32) (l4 : Int32) (M : jp_M) (res : Int32 × jp_M), c27 l2 l3 l4 M = some res → ∀ p, p ∉ ([104, 134] : List Nat) → res.2 p = M p) (l2 : Int32) (l3 : Int32) (l4 : Int32) (M : jp_M) {res : Int32 × jp_M} (hf : f_M_strings_65 c21 c27 l2 l3 l4 M = some res) : ∀ p, p ∉ ([104, 134] : List Nat) → res.2 p = M p := by
  intro p hp
  unfold f_M_strings_65 at hf
  exact (hc27 _ _ _ _ _ hf _ hp).trans rfl
theorem w_M_strings_42 {c21 : Int32 → Int32 → jp_M → Option (Int32 × jp_M)} (hc21 : ∀ (l2 : Int32) (l3 : Int32) (M : jp_M) (res : Int32 × jp_M), c21 l2 l3 M = some res → ∀ p, p ∉ ([104, 134] : List Nat) → res.2 p = M p) : ∀ (n : Nat) (l2 : Int32) (l3 : Int32) (l4 : Int32) (M : jp_M) {res : Int32 × jp_M}, f_M_strings_42 n c21 l2 l3 l4 M = some res → ∀ p, p ∉ ([104, 134] : List Nat) → res.2 p = M p := by
  intro n
  induction n with
  | zero =>
    intro l2 l3 l4 M res hf
    cases hf
  | succ n ih =>
    intro l2 l3 l4 M res hf p hp
    rw [f_M_strings_42] at hf
    rcases jif_d hf with ⟨h, hf⟩ | ⟨h, hf⟩
    · exact (hc21 _ _ _ _ hf _ hp).trans rfl
    · obtain ⟨q1, hc_1, hf⟩ := jbind hf
      rcases jif_d hf with ⟨h, hf⟩ | ⟨h, hf⟩
      · exact (w_M_strings_65 hc21 (fun l2 l3 l4 M res hf => ih l2 l3 l4 M hf) _ _ _ _ hf _ hp).trans rfl
      · exact (w_M_strings_65 hc21 (fun l2 l3 l4 M res hf => ih l2 l3 l4 M hf) _ _ _ _ hf _ hp).trans rfl
theorem w_M_strings_31  : ∀ (n : Nat) (l2 : Int32) (l3 : Int32) (M : jp_M) {res : Int32 × jp_M}, f_M_strings_31 n  l2 l3 M = some res → ∀ p, p ∉ ([104, 134] : List Nat) → res.2 p = M p := by
  intro n
  induction n with
  | zero =>
    intro l2 l3 M res hf
    cases hf
  | succ n ih =>
    intro l2 l3 M res hf p hp
    rw [f_M_strings_31] at hf
    rcases jif_d hf with ⟨h, hf⟩ | ⟨h, hf⟩
    · obtain rfl := Option.some.inj hf
      exact rfl
    · exact (w_M_strings_42 (fun l2 l3 M res hf => ih l2 l3 M hf) jFu _ _ _ _ hf _ hp).trans rfl
theorem w_M_strings {a1 : Int32} {M : jp_M} {res : Int32 × jp_M} (hf : f_M_strings a1 M = some res) : ∀ p, p ∉ ([104, 134] : List Nat) → res.2 p = M p := by
  intro p hp
  unfold f_M_strings at hf
  rcases jif_d hf with ⟨h, hf⟩ | ⟨h, hf⟩
  · rcases jif_d hf with ⟨h, hf⟩ | ⟨h, hf⟩
    · exact (w_M_strings_31 jFu _ _ _ hf _ hp).trans ((jp_set_ne (jne hp (by decide : 104 ∈ ([104, 134] : List Nat)))).trans rfl)
    · obtain ⟨q3, hc_3, hf⟩ := jbind hf
      obtain rfl := Option.some.inj hf
      exact ((w_M_layers hc_3 _ (jout hp (by decide : (([134] : List Nat)).all (fun x => (([104, 134] : List Nat)).contains x) = true))).trans ((jp_set_ne (jne hp (by decide : 104 ∈ ([104, 134] : List Nat)))).trans rfl))
  · obtain rfl := Option.some.inj hf
    exact ((jp_set_ne (jne hp (by decide : 104 ∈ ([104, 134] : List Nat)))).trans rfl)
theorem w_M_way {a1 : Int32} {a2 : Int32} {a3 : Int32} {M : jp_M} {res : Int32 × jp_M} (hf : f_M_way a1 a2 a3 M = some res) : ∀ p, p ∉ ([104, 135] : List Nat) → res.2 p = M p := by
  intro p hp
  unfold f_M_way at hf
  rcases jif_d hf with ⟨h, hf⟩ | ⟨h, hf⟩
  · obtain rfl := Option.some.inj hf
    exact ((jp_set_ne (jne hp (by decide : 104 ∈ ([104, 135] : List Nat)))).trans rfl)
  · rcases jif_d hf with ⟨h, hf⟩ | ⟨h, hf⟩
    · obtain rfl := Option.some.inj hf
      exact ((jp_set_ne (jne hp (by decide : 104 ∈ ([104, 135] : List Nat)))).trans rfl)
    · rcases jif_d hf with ⟨h, hf⟩ | ⟨h, hf⟩
      · obtain ⟨hb6, hf⟩ := jg_some hf
        obtain rfl := Option.some.inj hf
        exact ((jp_set_ne (jne hp (by decide : 135 ∈ ([104, 135] : List Nat)))).trans ((jp_set_ne (jne hp (by decide : 104 ∈ ([104, 135] : List Nat)))).trans rfl))
      · obtain rfl := Option.some.inj hf
        exact ((jp_set_ne (jne hp (by decide : 104 ∈ ([104, 135] : List Nat)))).trans rfl)
theorem w_M_findsEaves_67 {c2 : Int32 → jp_M → Option (jp_M)} (hc2 : ∀ (l1 : Int32) (M : jp_M) (res : jp_M), c2 l1 M = some res → ∀ p, p ∉ ([136] : List Nat) → res p = M p) {c17 : Int32 → Int32 → Int32 → Int32 → jp_M → Option (jp_M)} (hc17 : ∀ (l1 : Int32) (l2 : Int32) (l3 : Int32) (l4 : Int32) (M : jp_M) (res : jp_M), c17 l1 l2 l3 l4 M = some res → ∀ p, p ∉ ([136] : List Nat) → res p = M p) (l1 : Int32) (l2 : Int32) (l3 : Int32) (l4 : Int32) (M : jp_M) {res : jp_M} (hf : f_M_findsEaves_67 c2 c17 l1 l2 l3 l4 M = some res) : ∀ p, p ∉ ([136] : List Nat) → res p = M p := by
  intro p hp
  unfold f_M_findsEaves_67 at hf
  exact (hc17 _ _ _ _ _ _ hf _ hp).trans rfl
theorem w_M_findsEaves_73 {c2 : Int32 → jp_M → Option (jp_M)} (hc2 : ∀ (l1 : Int32) (M : jp_M) (res : jp_M), c2 l1 M = some res → ∀ p, p ∉ ([136] : List Nat) → res p = M p) (l1 : Int32) (l3 : Int32) (M : jp_M) {res : jp_M} (hf : f_M_findsEaves_73 c2 l1 l3 M = some res) : ∀ p, p ∉ ([136] : List Nat) → res p = M p := by
  intro p hp
  unfold f_M_findsEaves_73 at hf
  obtain ⟨hb2, hf⟩ := jg_some hf
  exact (hc2 _ _ _ hf _ hp).trans ((jp_set_ne (jne hp (by decide : 136 ∈ ([136] : List Nat)))).trans rfl)
theorem w_M_findsEaves_30 {c2 : Int32 → jp_M → Option (jp_M)} (hc2 : ∀ (l1 : Int32) (M : jp_M) (res : jp_M), c2 l1 M = some res → ∀ p, p ∉ ([136] : List Nat) → res p = M p) : ∀ (n : Nat) (l1 : Int32) (l2 : Int32) (l3 : Int32) (l4 : Int32) (M : jp_M) {res : jp_M}, f_M_findsEaves_30 n c2 l1 l2 l3 l4 M = some res → ∀ p, p ∉ ([136] : List Nat) → res p = M p := by
  intro n
  induction n with
  | zero =>
    intro l1 l2 l3 l4 M res hf
    cases hf
  | succ n ih =>
    intro l1 l2 l3 l4 M res hf p hp
    rw [f_M_findsEaves_30] at hf
    rcases jif_d hf with ⟨h, hf⟩ | ⟨h, hf⟩
    · exact (w_M_findsEaves_73 hc2 _ _ _ hf _ hp).trans rfl
    · rcases jif_d hf with ⟨h, hf⟩ | ⟨h, hf⟩
      · exact (w_M_findsEaves_73 hc2 _ _ _ hf _ hp).trans rfl
      · rcases jif_d hf with ⟨h, hf⟩ | ⟨h, hf⟩
        · exact (w_M_findsEaves_67 hc2 (fun l1 l2 l3 l4 M res hf => ih l1 l2 l3 l4 M hf) _ _ _ _ _ hf _ hp).trans rfl
        · obtain ⟨q2, hc_2, hf⟩ := jbind hf
          exact (w_M_findsEaves_67 hc2 (fun l1 l2 l3 l4 M res hf => ih l1 l2 l3 l4 M hf) _ _ _ _ _ hf _ hp).trans rfl
theorem w_M_findsEaves_26 {c2 : Int32 → jp_M → Option (jp_M)} (hc2 : ∀ (l1 : Int32) (M : jp_M) (res : jp_M), c2 l1 M = some res → ∀ p, p ∉ ([136] : List Nat) → res p = M p) (l1 : Int32) (l2 : Int32) (s0 : Int32) (M : jp_M) {res : jp_M} (hf : f_M_findsEaves_26 c2 l1 l2 s0 M = some res) : ∀ p, p ∉ ([136] : List Nat) → res p = M p := by
  intro p hp
  unfold f_M_findsEaves_26 at hf
  exact (w_M_findsEaves_30 hc2 jFu _ _ _ _ _ hf _ hp).trans rfl
theorem w_M_findsEaves_3  : ∀ (n : Nat) (l1 : Int32) (M : jp_M) {res : jp_M}, f_M_findsEaves_3 n  l1 M = some res → ∀ p, p ∉ ([136] : List Nat) → res p = M p := by
  intro n
  induction n with
  | zero =>
    intro l1 M res hf
    cases hf
  | succ n ih =>
    intro l1 M res hf p hp
    rw [f_M_findsEaves_3] at hf
    rcases jif_d hf with ⟨h, hf⟩ | ⟨h, hf⟩
    · obtain rfl := Option.some.inj hf
      exact rfl
    · obtain ⟨q1, hc_1, hf⟩ := jbind hf
      rcases jif_d hf with ⟨h, hf⟩ | ⟨h, hf⟩
      · exact (w_M_findsEaves_26 (fun l1 M res hf => ih l1 M hf) _ _ _ _ hf _ hp).trans rfl
      · exact (w_M_findsEaves_26 (fun l1 M res hf => ih l1 M hf) _ _ _ _ hf _ hp).trans rfl
theorem w_M_findsEaves {M : jp_M} {res : jp_M} (hf : f_M_findsEaves M = some res) : ∀ p, p ∉ ([136] : List Nat) → res p = M p := by
  intro p hp
  unfold f_M_findsEaves at hf
  exact (w_M_findsEaves_3 jFu _ _ hf _ hp).trans rfl
theorem w_M_eaves_82 {c28 : Int32 → Int32 → Int32 → Int32 → jp_M → Option (Int32 × jp_M)} (hc28 : ∀ (l1 : Int32) (l2 : Int32) (l3 : Int32) (l4 : Int32) (M : jp_M) (res : Int32 × jp_M), c28 l1 l2 l3 l4 M = some res → ∀ p, p ∉ ([104, 136] : List Nat) → res.2 p = M p) {c35 : Int32 → Int32 → Int32 → Int32 → jp_M → Option (Int32 × jp_M)} (hc35 : ∀ (l1 : Int32) (l2 : Int32) (l3 : Int32) (l4 : Int32) (M : jp_M) (res : Int32 × jp_M), c35 l1 l2 l3 l4 M = some res → ∀ p, p ∉ ([104, 136] : List Nat) → res.2 p = M p) (l1 : Int32) (l2 : Int32) (l3 : Int32) (l4 : Int32) (M : jp_M) {res : Int32 × jp_M} (hf : f_M_eaves_82 c28 c35 l1 l2 l3 l4 M = some res) : ∀ p, p ∉ ([104, 136] : List Nat) → res.2 p = M p := by
  intro p hp
  unfold f_M_eaves_82 at hf
  exact (hc35 _ _ _ _ _ _ hf _ hp).trans rfl
theorem w_M_eaves_56 {c28 : Int32 → Int32 → Int32 → Int32 → jp_M → Option (Int32 × jp_M)} (hc28 : ∀ (l1 : Int32) (l2 : Int32) (l3 : Int32) (l4 : Int32) (M : jp_M) (res : Int32 × jp_M), c28 l1 l2 l3 l4 M = some res → ∀ p, p ∉ ([104, 136] : List Nat) → res.2 p = M p) : ∀ (n : Nat) (l1 : Int32) (l2 : Int32) (l3 : Int32) (l4 : Int32) (M : jp_M) {res : Int32 × jp_M}, f_M_eaves_56 n c28 l1 l2 l3 l4 M = some res → ∀ p, p ∉ ([104, 136] : List Nat) → res.2 p = M p := by
  intro n
  induction n with
  | zero =>
    intro l1 l2 l3 l4 M res hf
    cases hf
  | succ n ih =>
    intro l1 l2 l3 l4 M res hf p hp
    rw [f_M_eaves_56] at hf
    rcases jif_d hf with ⟨h, hf⟩ | ⟨h, hf⟩
    · exact (w_M_eaves_82 hc28 (fun l1 l2 l3 l4 M res hf => ih l1 l2 l3 l4 M hf) _ _ _ _ _ hf _ hp).trans rfl
    · obtain ⟨q2, hc_2, hf⟩ := jbind hf
      obtain ⟨hb3, hf⟩ := jg_some hf
      rcases jif_d hf with ⟨h, hf⟩ | ⟨h, hf⟩
      · exact (hc28 _ _ _ _ _ _ hf _ hp).trans rfl
      · exact (w_M_eaves_82 hc28 (fun l1 l2 l3 l4 M res hf => ih l1 l2 l3 l4 M hf) _ _ _ _ _ hf _ hp).trans rfl
theorem w_M_eaves_45  : ∀ (n : Nat) (l1 : Int32) (l2 : Int32) (l3 : Int32) (l4 : Int32) (M : jp_M) {res : Int32 × jp_M}, f_M_eaves_45 n  l1 l2 l3 l4 M = some res → ∀ p, p ∉ ([104, 136] : List Nat) → res.2 p = M p := by
  intro n
  induction n with
  | zero =>
    intro l1 l2 l3 l4 M res hf
    cases hf
  | succ n ih =>
    intro l1 l2 l3 l4 M res hf p hp
    rw [f_M_eaves_45] at hf
    rcases jif_d hf with ⟨h, hf⟩ | ⟨h, hf⟩
    · obtain rfl := Option.some.inj hf
      exact rfl
    · exact (w_M_eaves_56 (fun l1 l2 l3 l4 M res hf => ih l1 l2 l3 l4 M hf) jFu _ _ _ _ _ hf _ hp).trans rfl
theorem w_M_eaves_23  (l1 : Int32) (M : jp_M) {res : Int32 × jp_M} (hf : f_M_eaves_23  l1 M = some res) : ∀ p, p ∉ ([104, 136] : List Nat) → res.2 p = M p := by
  intro p hp
  unfold f_M_eaves_23 at hf
  obtain ⟨q1, hc_1, hf⟩ := jbind hf
  rcases jif_d hf with ⟨h, hf⟩ | ⟨h, hf⟩
  · exact (w_M_eaves_45 jFu _ _ _ _ _ hf _ hp).trans ((w_M_findsEaves hc_1 _ (jout hp (by decide : (([136] : List Nat)).all (fun x => (([104, 136] : List Nat)).contains x) = true))).trans rfl)
  · obtain rfl := Option.some.inj hf
    exact ((w_M_findsEaves hc_1 _ (jout hp (by decide : (([136] : List Nat)).all (fun x => (([104, 136] : List Nat)).contains x) = true))).trans rfl)
theorem w_M_eaves {a1 : Int32} {M : jp_M} {res : Int32 × jp_M} (hf : f_M_eaves a1 M = some res) : ∀ p, p ∉ ([104, 136] : List Nat) → res.2 p = M p := by
  intro p hp
  unfold f_M_eaves at hf
  rcases jif_d hf with ⟨h, hf⟩ | ⟨h, hf⟩
  · exact (w_M_eaves_23 _ _ hf _ hp).trans ((jp_set_ne (jne hp (by decide : 104 ∈ ([104, 136] : List Nat)))).trans rfl)
  · rcases jif_d hf with ⟨h, hf⟩ | ⟨h, hf⟩
    · exact (w_M_eaves_23 _ _ hf _ hp).trans ((jp_set_ne (jne hp (by decide : 104 ∈ ([104, 136] : List Nat)))).trans rfl)
    · obtain rfl := Option.some.inj hf
      exact ((jp_set_ne (jne hp (by decide : 104 ∈ ([104, 136] : List Nat)))).trans rfl)
theorem w_M_cites {a1 : Int32} {a2 : Int32} {M : jp_M} {res : Int32 × jp_M} (hf : f_M_cites a1 a2 M = some res) : ∀ p, p ∉ ([104] : List Nat) → res.2 p = M p := by
  intro p hp
  unfold f_M_cites at hf
  rcases jif_d hf with ⟨h, hf⟩ | ⟨h, hf⟩
  · obtain rfl := Option.some.inj hf
    exact ((jp_set_ne (jne hp (by decide : 104 ∈ ([104] : List Nat)))).trans rfl)
  · rcases jif_d hf with ⟨h, hf⟩ | ⟨h, hf⟩
    · rcases jif_d hf with ⟨h, hf⟩ | ⟨h, hf⟩
      · obtain ⟨q4, hc_4, hf⟩ := jbind hf
        obtain rfl := Option.some.inj hf
        exact ((jp_set_ne (jne hp (by decide : 104 ∈ ([104] : List Nat)))).trans rfl)
      · obtain ⟨q5, hc_5, hf⟩ := jbind hf
        obtain rfl := Option.some.inj hf
        exact ((jp_set_ne (jne hp (by decide : 104 ∈ ([104] : List Nat)))).trans rfl)
    · obtain rfl := Option.some.inj hf
      exact ((jp_set_ne (jne hp (by decide : 104 ∈ ([104] : List Nat)))).trans rfl)
theorem w_M_voice {a1 : Int32} {a2 : Int32} {M : jp_M} {res : Int32 × jp_M} (hf : f_M_voice a1 a2 M = some res) : ∀ p, p ∉ ([104, 137] : List Nat) → res.2 p = M p := by
  intro p hp
  unfold f_M_voice at hf
  rcases jif_d hf with ⟨h, hf⟩ | ⟨h, hf⟩
  · obtain rfl := Option.some.inj hf
    exact ((jp_set_ne (jne hp (by decide : 104 ∈ ([104, 137] : List Nat)))).trans rfl)
  · rcases jif_d hf with ⟨h, hf⟩ | ⟨h, hf⟩
    · obtain ⟨hb5, hf⟩ := jg_some hf
      obtain rfl := Option.some.inj hf
      exact ((jp_set_ne (jne hp (by decide : 137 ∈ ([104, 137] : List Nat)))).trans ((jp_set_ne (jne hp (by decide : 104 ∈ ([104, 137] : List Nat)))).trans rfl))
    · obtain rfl := Option.some.inj hf
      exact ((jp_set_ne (jne hp (by decide : 104 ∈ ([104, 137] : List Nat)))).trans rfl)
theorem w_M_asked_56 {c15 : Int32 → Int32 → Int32 → jp_M → Option (Int32 × jp_M)} (hc15 : ∀ (l1 : Int32) (l2 : Int32) (l3 : Int32) (M : jp_M) (res : Int32 × jp_M), c15 l1 l2 l3 M = some res → ∀ p, p ∉ ([104] : List Nat) → res.2 p = M p) (l1 : Int32) (l2 : Int32) (l3 : Int32) (M : jp_M) {res : Int32 × jp_M} (hf : f_M_asked_56 c15 l1 l2 l3 M = some res) : ∀ p, p ∉ ([104] : List Nat) → res.2 p = M p := by
  intro p hp
  unfold f_M_asked_56 at hf
  exact (hc15 _ _ _ _ _ hf _ hp).trans rfl
theorem w_M_asked_23  : ∀ (n : Nat) (l1 : Int32) (l2 : Int32) (l3 : Int32) (M : jp_M) {res : Int32 × jp_M}, f_M_asked_23 n  l1 l2 l3 M = some res → ∀ p, p ∉ ([104] : List Nat) → res.2 p = M p := by
  intro n
  induction n with
  | zero =>
    intro l1 l2 l3 M res hf
    cases hf
  | succ n ih =>
    intro l1 l2 l3 M res hf p hp
    rw [f_M_asked_23] at hf
    rcases jif_d hf with ⟨h, hf⟩ | ⟨h, hf⟩
    · rcases jif_d hf with ⟨h, hf⟩ | ⟨h, hf⟩
      · obtain rfl := Option.some.inj hf
        exact rfl
      · obtain ⟨q1, hc_1, hf⟩ := jbind hf
        obtain rfl := Option.some.inj hf
        exact rfl
    · obtain ⟨q2, hc_2, hf⟩ := jbind hf
      obtain ⟨q3, hc_3, hf⟩ := jbind hf
      rcases jif_d hf with ⟨h, hf⟩ | ⟨h, hf⟩
      · exact (w_M_asked_56 (fun l1 l2 l3 M res hf => ih l1 l2 l3 M hf) _ _ _ _ hf _ hp).trans rfl
      · obtain ⟨q4, hc_4, hf⟩ := jbind hf
        rcases jif_d hf with ⟨h, hf⟩ | ⟨h, hf⟩
        · exact (w_M_asked_56 (fun l1 l2 l3 M res hf => ih l1 l2 l3 M hf) _ _ _ _ hf _ hp).trans rfl
        · exact (w_M_asked_56 (fun l1 l2 l3 M res hf => ih l1 l2 l3 M hf) _ _ _ _ hf _ hp).trans rfl
theorem w_M_asked {a1 : Int32} {M : jp_M} {res : Int32 × jp_M} (hf : f_M_asked a1 M = some res) : ∀ p, p ∉ ([104] : List Nat) → res.2 p = M p := by
  intro p hp
  unfold f_M_asked at hf
  rcases jif_d hf with ⟨h, hf⟩ | ⟨h, hf⟩
  · exact (w_M_asked_23 jFu _ _ _ _ hf _ hp).trans ((jp_set_ne (jne hp (by decide : 104 ∈ ([104] : List Nat)))).trans rfl)
  · obtain rfl := Option.some.inj hf
    exact ((jp_set_ne (jne hp (by decide : 104 ∈ ([104] : List Nat)))).trans rfl)
theorem w_M_point {a1 : Int32} {a2 : Int32} {a3 : Int32} {a4 : Int32} {M : jp_M} {res : Int32 × jp_M} (hf : f_M_point a1 a2 a3 a4 M = some res) : ∀ p, p ∉ ([104, 138, 139, 140, 141] : List Nat) → res.2 p = M p := by
  intro p hp
  unfold f_M_point at hf
  rcases jif_d hf with ⟨h, hf⟩ | ⟨h, hf⟩
  · rcases jif_d hf with ⟨h, hf⟩ | ⟨h, hf⟩
    · obtain rfl := Option.some.inj hf
      exact ((jp_set_ne (jne hp (by decide : 104 ∈ ([104, 138, 139, 140, 141] : List Nat)))).trans rfl)
    · rcases jif_d hf with ⟨h, hf⟩ | ⟨h, hf⟩
      · obtain rfl := Option.some.inj hf
        exact ((jp_set_ne (jne hp (by decide : 104 ∈ ([104, 138, 139, 140, 141] : List Nat)))).trans rfl)
      · rcases jif_d hf with ⟨h, hf⟩ | ⟨h, hf⟩
        · obtain rfl := Option.some.inj hf
          exact ((jp_set_ne (jne hp (by decide : 104 ∈ ([104, 138, 139, 140, 141] : List Nat)))).trans rfl)
        · rcases jif_d hf with ⟨h, hf⟩ | ⟨h, hf⟩
          · obtain rfl := Option.some.inj hf
            exact ((jp_set_ne (jne hp (by decide : 104 ∈ ([104, 138, 139, 140, 141] : List Nat)))).trans rfl)
          · rcases jif_d hf with ⟨h, hf⟩ | ⟨h, hf⟩
            · obtain ⟨hb7, hf⟩ := jg_some hf
              obtain ⟨hb9, hf⟩ := jg_some hf
              obtain ⟨hb11, hf⟩ := jg_some hf
              obtain ⟨hb13, hf⟩ := jg_some hf
              obtain rfl := Option.some.inj hf
              exact ((jp_set_ne (jne hp (by decide : 104 ∈ ([104, 138, 139, 140, 141] : List Nat)))).trans ((jp_set_ne (jne hp (by decide : 141 ∈ ([104, 138, 139, 140, 141] : List Nat)))).trans ((jp_set_ne (jne hp (by decide : 140 ∈ ([104, 138, 139, 140, 141] : List Nat)))).trans ((jp_set_ne (jne hp (by decide : 139 ∈ ([104, 138, 139, 140, 141] : List Nat)))).trans ((jp_set_ne (jne hp (by decide : 138 ∈ ([104, 138, 139, 140, 141] : List Nat)))).trans ((jp_set_ne (jne hp (by decide : 104 ∈ ([104, 138, 139, 140, 141] : List Nat)))).trans rfl))))))
            · obtain rfl := Option.some.inj hf
              exact ((jp_set_ne (jne hp (by decide : 104 ∈ ([104, 138, 139, 140, 141] : List Nat)))).trans rfl)
  · obtain rfl := Option.some.inj hf
    exact ((jp_set_ne (jne hp (by decide : 104 ∈ ([104, 138, 139, 140, 141] : List Nat)))).trans ((jp_set_ne (jne hp (by decide : 104 ∈ ([104, 138, 139, 140, 141] : List Nat)))).trans rfl))
theorem w_M_arbiter_121 {c17 : Int32 → Int32 → Int32 → Int32 → jp_M → Option (Int32 × jp_M)} (hc17 : ∀ (l1 : Int32) (l2 : Int32) (l3 : Int32) (l4 : Int32) (M : jp_M) (res : Int32 × jp_M), c17 l1 l2 l3 l4 M = some res → ∀ p, p ∉ ([104] : List Nat) → res.2 p = M p) (l1 : Int32) (l2 : Int32) (l3 : Int32) (l4 : Int32) (M : jp_M) {res : Int32 × jp_M} (hf : f_M_arbiter_121 c17 l1 l2 l3 l4 M = some res) : ∀ p, p ∉ ([104] : List Nat) → res.2 p = M p := by
  intro p hp
  unfold f_M_arbiter_121 at hf
  exact (hc17 _ _ _ _ _ _ hf _ hp).trans rfl
theorem w_M_arbiter_109 {c17 : Int32 → Int32 → Int32 → Int32 → jp_M → Option (Int32 × jp_M)} (hc17 : ∀ (l1 : Int32) (l2 : Int32) (l3 : Int32) (l4 : Int32) (M : jp_M) (res : Int32 × jp_M), c17 l1 l2 l3 l4 M = some res → ∀ p, p ∉ ([104] : List Nat) → res.2 p = M p) (l1 : Int32) (l3 : Int32) (l4 : Int32) (l5 : Int32) (s0 : Int32) (s1 : Int32) (s2 : Int32) (M : jp_M) {res : Int32 × jp_M} (hf : f_M_arbiter_109 c17 l1 l3 l4 l5 s0 s1 s2 M = some res) : ∀ p, p ∉ ([104] : List Nat) → res.2 p = M p := by
  intro p hp
  unfold f_M_arbiter_109 at hf
  rcases jif_d hf with ⟨h, hf⟩ | ⟨h, hf⟩
  · exact (w_M_arbiter_121 hc17 _ _ _ _ _ hf _ hp).trans rfl
  · exact (w_M_arbiter_121 hc17 _ _ _ _ _ hf _ hp).trans rfl
theorem w_M_arbiter_77 {c17 : Int32 → Int32 → Int32 → Int32 → jp_M → Option (Int32 × jp_M)} (hc17 : ∀ (l1 : Int32) (l2 : Int32) (l3 : Int32) (l4 : Int32) (M : jp_M) (res : Int32 × jp_M), c17 l1 l2 l3 l4 M = some res → ∀ p, p ∉ ([104] : List Nat) → res.2 p = M p) (l1 : Int32) (l2 : Int32) (l3 : Int32) (l4 : Int32) (s0 : Int32) (M : jp_M) {res : Int32 × jp_M} (hf : f_M_arbiter_77 c17 l1 l2 l3 l4 s0 M = some res) : ∀ p, p ∉ ([104] : List Nat) → res.2 p = M p := by
  intro p hp
  unfold f_M_arbiter_77 at hf
  obtain ⟨hb1, hf⟩ := jg_some hf
  rcases jif_d hf with ⟨h, hf⟩ | ⟨h, hf⟩
  · obtain ⟨hb2, hf⟩ := jg_some hf
    exact (w_M_arbiter_109 hc17 _ _ _ _ _ _ _ _ hf _ hp).trans rfl
  · obtain ⟨hb3, hf⟩ := jg_some hf
    exact (w_M_arbiter_109 hc17 _ _ _ _ _ _ _ _ hf _ hp).trans rfl
theorem w_M_arbiter_24  : ∀ (n : Nat) (l1 : Int32) (l2 : Int32) (l3 : Int32) (l4 : Int32) (M : jp_M) {res : Int32 × jp_M}, f_M_arbiter_24 n  l1 l2 l3 l4 M = some res → ∀ p, p ∉ ([104] : List Nat) → res.2 p = M p := by
  intro n
  induction n with
  | zero =>
    intro l1 l2 l3 l4 M res hf
    cases hf
  | succ n ih =>
    intro l1 l2 l3 l4 M res hf p hp
    rw [f_M_arbiter_24] at hf
    rcases jif_d hf with ⟨h, hf⟩ | ⟨h, hf⟩
    · rcases jif_d hf with ⟨h, hf⟩ | ⟨h, hf⟩
      · obtain rfl := Option.some.inj hf
        exact rfl
      · obtain rfl := Option.some.inj hf
        exact rfl
    · obtain ⟨hb1, hf⟩ := jg_some hf
      obtain ⟨hb2, hf⟩ := jg_some hf
      obtain ⟨hb4, hf⟩ := jg_some hf
      obtain ⟨hb5, hf⟩ := jg_some hf
      rcases jif_d hf with ⟨h, hf⟩ | ⟨h, hf⟩
      · exact (w_M_arbiter_77 (fun l1 l2 l3 l4 M res hf => ih l1 l2 l3 l4 M hf) _ _ _ _ _ _ hf _ hp).trans rfl
      · exact (w_M_arbiter_77 (fun l1 l2 l3 l4 M res hf => ih l1 l2 l3 l4 M hf) _ _ _ _ _ _ hf _ hp).trans rfl
theorem w_M_arbiter {a1 : Int32} {M : jp_M} {res : Int32 × jp_M} (hf : f_M_arbiter a1 M = some res) : ∀ p, p ∉ ([104] : List Nat) → res.2 p = M p := by
  intro p hp
  unfold f_M_arbiter at hf
  rcases jif_d hf with ⟨h, hf⟩ | ⟨h, hf⟩
  · exact (w_M_arbiter_24 jFu _ _ _ _ _ hf _ hp).trans ((jp_set_ne (jne hp (by decide : 104 ∈ ([104] : List Nat)))).trans rfl)
  · obtain rfl := Option.some.inj hf
    exact ((jp_set_ne (jne hp (by decide : 104 ∈ ([104] : List Nat)))).trans rfl)
theorem w_M_ball_51  : ∀ (n : Nat) (l2 : Int32) (l3 : Int32) (l4 : Int32) (l5 : Int32) (l6 : Int32) (l7 : Int32) (M : jp_M) {res : Int32 × jp_M}, f_M_ball_51 n  l2 l3 l4 l5 l6 l7 M = some res → ∀ p, p ∉ ([104] : List Nat) → res.2 p = M p := by
  intro n
  induction n with
  | zero =>
    intro l2 l3 l4 l5 l6 l7 M res hf
    cases hf
  | succ n ih =>
    intro l2 l3 l4 l5 l6 l7 M res hf p hp
    rw [f_M_ball_51] at hf
    rcases jif_d hf with ⟨h, hf⟩ | ⟨h, hf⟩
    · rcases jif_d hf with ⟨h, hf⟩ | ⟨h, hf⟩
      · obtain rfl := Option.some.inj hf
        exact rfl
      · obtain rfl := Option.some.inj hf
        exact rfl
    · exact (ih _ _ _ _ _ _ _ hf _ hp).trans rfl
theorem w_M_ball {a1 : Int32} {a2 : Int32} {a3 : Int32} {M : jp_M} {res : Int32 × jp_M} (hf : f_M_ball a1 a2 a3 M = some res) : ∀ p, p ∉ ([104] : List Nat) → res.2 p = M p := by
  intro p hp
  unfold f_M_ball at hf
  rcases jif_d hf with ⟨h, hf⟩ | ⟨h, hf⟩
  · obtain rfl := Option.some.inj hf
    exact ((jp_set_ne (jne hp (by decide : 104 ∈ ([104] : List Nat)))).trans rfl)
  · rcases jif_d hf with ⟨h, hf⟩ | ⟨h, hf⟩
    · obtain rfl := Option.some.inj hf
      exact ((jp_set_ne (jne hp (by decide : 104 ∈ ([104] : List Nat)))).trans rfl)
    · rcases jif_d hf with ⟨h, hf⟩ | ⟨h, hf⟩
      · exact (w_M_ball_51 jFu _ _ _ _ _ _ _ hf _ hp).trans ((jp_set_ne (jne hp (by decide : 104 ∈ ([104] : List Nat)))).trans rfl)
      · obtain rfl := Option.some.inj hf
        exact ((jp_set_ne (jne hp (by decide : 104 ∈ ([104] : List Nat)))).trans rfl)
theorem w_M_findsNimbers_39 {c7 : Int32 → jp_M → Option (jp_M)} (hc7 : ∀ (l1 : Int32) (M : jp_M) (res : jp_M), c7 l1 M = some res → ∀ p, p ∉ ([142] : List Nat) → res p = M p) : ∀ (n : Nat) (l1 : Int32) (l2 : Int32) (l3 : Int32) (M : jp_M) {res : jp_M}, f_M_findsNimbers_39 n c7 l1 l2 l3 M = some res → ∀ p, p ∉ ([142] : List Nat) → res p = M p := by
  intro n
  induction n with
  | zero =>
    intro l1 l2 l3 M res hf
    cases hf
  | succ n ih =>
    intro l1 l2 l3 M res hf p hp
    rw [f_M_findsNimbers_39] at hf
    rcases jif_d hf with ⟨h, hf⟩ | ⟨h, hf⟩
    · obtain ⟨hb3, hf⟩ := jg_some hf
      exact (hc7 _ _ _ hf _ hp).trans ((jp_set_ne (jne hp (by decide : 142 ∈ ([142] : List Nat)))).trans rfl)
    · exact (ih _ _ _ _ hf _ hp).trans rfl
theorem w_M_findsNimbers_9  : ∀ (n : Nat) (l1 : Int32) (M : jp_M) {res : jp_M}, f_M_findsNimbers_9 n  l1 M = some res → ∀ p, p ∉ ([142] : List Nat) → res p = M p := by
  intro n
  induction n with
  | zero =>
    intro l1 M res hf
    cases hf
  | succ n ih =>
    intro l1 M res hf p hp
    rw [f_M_findsNimbers_9] at hf
    rcases jif_d hf with ⟨h, hf⟩ | ⟨h, hf⟩
    · obtain rfl := Option.some.inj hf
      exact rfl
    · obtain ⟨hb1, hf⟩ := jg_some hf
      obtain ⟨hb2, hf⟩ := jg_some hf
      exact (w_M_findsNimbers_39 (fun l1 M res hf => ih l1 M hf) jFu _ _ _ _ hf _ hp).trans rfl
theorem w_M_findsNimbers {M : jp_M} {res : jp_M} (hf : f_M_findsNimbers M = some res) : ∀ p, p ∉ ([142] : List Nat) → res p = M p := by
  intro p hp
  unfold f_M_findsNimbers at hf
  exact (w_M_findsNimbers_9 jFu _ _ hf _ hp).trans ((jp_set_ne (jne hp (by decide : 142 ∈ ([142] : List Nat)))).trans rfl)
theorem w_M_game_152 {c37 : Int32 → Int32 → Int32 → jp_M → Option (Int32 × jp_M)} (hc37 : ∀ (l1 : Int32) (l2 : Int32) (l3 : Int32) (M : jp_M) (res : Int32 × jp_M), c37 l1 l2 l3 M = some res → ∀ p, p ∉ ([104, 142] : List Nat) → res.2 p = M p) (l1 : Int32) (l2 : Int32) (l3 : Int32) (M : jp_M) {res : Int32 × jp_M} (hf : f_M_game_152 c37 l1 l2 l3 M = some res) : ∀ p, p ∉ ([104, 142] : List Nat) → res.2 p = M p := by
  intro p hp
  unfold f_M_game_152 at hf
  exact (hc37 _ _ _ _ _ hf _ hp).trans rfl
theorem w_M_game_117 {c37 : Int32 → Int32 → Int32 → jp_M → Option (Int32 × jp_M)} (hc37 : ∀ (l1 : Int32) (l2 : Int32) (l3 : Int32) (M : jp_M) (res : Int32 × jp_M), c37 l1 l2 l3 M = some res → ∀ p, p ∉ ([104, 142] : List Nat) → res.2 p = M p) (l1 : Int32) (l2 : Int32) (l3 : Int32) (l4 : Int32) (l5 : Int32) (M : jp_M) {res : Int32 × jp_M} (hf : f_M_game_117 c37 l1 l2 l3 l4 l5 M = some res) : ∀ p, p ∉ ([104, 142] : List Nat) → res.2 p = M p := by
  intro p hp
  unfold f_M_game_117 at hf
  rcases jif_d hf with ⟨h, hf⟩ | ⟨h, hf⟩
  · exact (w_M_game_152 hc37 _ _ _ _ hf _ hp).trans rfl
  · obtain ⟨hb1, hf⟩ := jg_some hf
    rcases jif_d hf with ⟨h, hf⟩ | ⟨h, hf⟩
    · exact (w_M_game_152 hc37 _ _ _ _ hf _ hp).trans rfl
    · rcases jif_d hf with ⟨h, hf⟩ | ⟨h, hf⟩
      · obtain rfl := Option.some.inj hf
        exact rfl
      · obtain rfl := Option.some.inj hf
        exact rfl
theorem w_M_game_58  : ∀ (n : Nat) (l1 : Int32) (l2 : Int32) (l3 : Int32) (M : jp_M) {res : Int32 × jp_M}, f_M_game_58 n  l1 l2 l3 M = some res → ∀ p, p ∉ ([104, 142] : List Nat) → res.2 p = M p := by
  intro n
  induction n with
  | zero =>
    intro l1 l2 l3 M res hf
    cases hf
  | succ n ih =>
    intro l1 l2 l3 M res hf p hp
    rw [f_M_game_58] at hf
    rcases jif_d hf with ⟨h, hf⟩ | ⟨h, hf⟩
    · obtain rfl := Option.some.inj hf
      exact rfl
    · obtain ⟨hb1, hf⟩ := jg_some hf
      obtain ⟨hb2, hf⟩ := jg_some hf
      rcases jif_d hf with ⟨h, hf⟩ | ⟨h, hf⟩
      · exact (w_M_game_117 (fun l1 l2 l3 M res hf => ih l1 l2 l3 M hf) _ _ _ _ _ _ hf _ hp).trans rfl
      · obtain ⟨hb3, hf⟩ := jg_some hf
        rcases jif_d hf with ⟨h, hf⟩ | ⟨h, hf⟩
        · exact (w_M_game_117 (fun l1 l2 l3 M res hf => ih l1 l2 l3 M hf) _ _ _ _ _ _ hf _ hp).trans rfl
        · rcases jif_d hf with ⟨h, hf⟩ | ⟨h, hf⟩
          · obtain rfl := Option.some.inj hf
            exact rfl
          · obtain rfl := Option.some.inj hf
            exact rfl
theorem w_M_game_25  : ∀ (n : Nat) (l1 : Int32) (l2 : Int32) (l3 : Int32) (M : jp_M) {res : Int32 × jp_M}, f_M_game_25 n  l1 l2 l3 M = some res → ∀ p, p ∉ ([104, 142] : List Nat) → res.2 p = M p := by
  intro n
  induction n with
  | zero =>
    intro l1 l2 l3 M res hf
    cases hf
  | succ n ih =>
    intro l1 l2 l3 M res hf p hp
    rw [f_M_game_25] at hf
    rcases jif_d hf with ⟨h, hf⟩ | ⟨h, hf⟩
    · exact (w_M_game_58 jFu _ _ _ _ hf _ hp).trans rfl
    · obtain ⟨hb1, hf⟩ := jg_some hf
      obtain ⟨hb2, hf⟩ := jg_some hf
      exact (ih _ _ _ _ hf _ hp).trans rfl
theorem w_M_game {a1 : Int32} {M : jp_M} {res : Int32 × jp_M} (hf : f_M_game a1 M = some res) : ∀ p, p ∉ ([104, 142] : List Nat) → res.2 p = M p := by
  intro p hp
  unfold f_M_game at hf
  rcases jif_d hf with ⟨h, hf⟩ | ⟨h, hf⟩
  · obtain ⟨q3, hc_3, hf⟩ := jbind hf
    exact (w_M_game_25 jFu _ _ _ _ hf _ hp).trans ((w_M_findsNimbers hc_3 _ (jout hp (by decide : (([142] : List Nat)).all (fun x => (([104, 142] : List Nat)).contains x) = true))).trans ((jp_set_ne (jne hp (by decide : 104 ∈ ([104, 142] : List Nat)))).trans rfl))
  · obtain rfl := Option.some.inj hf
    exact ((jp_set_ne (jne hp (by decide : 104 ∈ ([104, 142] : List Nat)))).trans rfl)
theorem w_M_keeps {a1 : Int32} {M : jp_M} {res : Int32 × jp_M} (hf : f_M_keeps a1 M = some res) : ∀ p, p ∉ ([104, 143] : List Nat) → res.2 p = M p := by
  intro p hp
  unfold f_M_keeps at hf
  rcases jif_d hf with ⟨h, hf⟩ | ⟨h, hf⟩
  · obtain ⟨hb3, hf⟩ := jg_some hf
    obtain rfl := Option.some.inj hf
    exact ((jp_set_ne (jne hp (by decide : 143 ∈ ([104, 143] : List Nat)))).trans ((jp_set_ne (jne hp (by decide : 104 ∈ ([104, 143] : List Nat)))).trans rfl))
  · obtain ⟨hb4, hf⟩ := jg_some hf
    obtain rfl := Option.some.inj hf
    exact ((jp_set_ne (jne hp (by decide : 104 ∈ ([104, 143] : List Nat)))).trans rfl)
theorem w_M_keepsMany {M : jp_M} {res : jp_M} (hf : f_M_keepsMany M = some res) : ∀ p, p ∉ ([104, 143] : List Nat) → res p = M p := by
  intro p hp
  unfold f_M_keepsMany at hf
  obtain ⟨q1, hc_1, hf⟩ := jbind hf
  obtain ⟨q3, hc_3, hf⟩ := jbind hf
  obtain ⟨q5, hc_5, hf⟩ := jbind hf
  obtain ⟨q7, hc_7, hf⟩ := jbind hf
  obtain ⟨q9, hc_9, hf⟩ := jbind hf
  obtain ⟨q11, hc_11, hf⟩ := jbind hf
  obtain ⟨q13, hc_13, hf⟩ := jbind hf
  obtain ⟨q15, hc_15, hf⟩ := jbind hf
  obtain rfl := Option.some.inj hf
  exact ((jp_set_ne (jne hp (by decide : 104 ∈ ([104, 143] : List Nat)))).trans ((w_M_keeps hc_15 _ (jout hp (by decide : (([104, 143] : List Nat)).all (fun x => (([104, 143] : List Nat)).contains x) = true))).trans ((jp_set_ne (jne hp (by decide : 104 ∈ ([104, 143] : List Nat)))).trans ((w_M_keeps hc_13 _ (jout hp (by decide : (([104, 143] : List Nat)).all (fun x => (([104, 143] : List Nat)).contains x) = true))).trans ((jp_set_ne (jne hp (by decide : 104 ∈ ([104, 143] : List Nat)))).trans ((w_M_keeps hc_11 _ (jout hp (by decide : (([104, 143] : List Nat)).all (fun x => (([104, 143] : List Nat)).contains x) = true))).trans ((jp_set_ne (jne hp (by decide : 104 ∈ ([104, 143] : List Nat)))).trans ((w_M_keeps hc_9 _ (jout hp (by decide : (([104, 143] : List Nat)).all (fun x => (([104, 143] : List Nat)).contains x) = true))).trans ((jp_set_ne (jne hp (by decide : 104 ∈ ([104, 143] : List Nat)))).trans ((w_M_keeps hc_7 _ (jout hp (by decide : (([104, 143] : List Nat)).all (fun x => (([104, 143] : List Nat)).contains x) = true))).trans ((jp_set_ne (jne hp (by decide : 104 ∈ ([104, 143] : List Nat)))).trans ((w_M_keeps hc_5 _ (jout hp (by decide : (([104, 143] : List Nat)).all (fun x => (([104, 143] : List Nat)).contains x) = true))).trans ((jp_set_ne (jne hp (by decide : 104 ∈ ([104, 143] : List Nat)))).trans ((w_M_keeps hc_3 _ (jout hp (by decide : (([104, 143] : List Nat)).all (fun x => (([104, 143] : List Nat)).contains x) = true))).trans ((jp_set_ne (jne hp (by decide : 104 ∈ ([104, 143] : List Nat)))).trans ((w_M_keeps hc_1 _ (jout hp (by decide : (([104, 143] : List Nat)).all (fun x => (([104, 143] : List Nat)).contains x) = true))).trans rfl))))))))))))))))
theorem w_M_keepsTold_314  : ∀ (n : Nat) (l1 : Int32) (M : jp_M) {res : jp_M}, f_M_keepsTold_314 n  l1 M = some res → ∀ p, p ∉ ([104, 108, 109, 110, 122, 123, 124, 129, 130, 131, 132, 133, 135, 137, 138, 139, 140, 141, 143] : List Nat) → res p = M p := by
  intro n
  induction n with
  | zero =>
    intro l1 M res hf
    cases hf
  | succ n ih =>
    intro l1 M res hf p hp
    rw [f_M_keepsTold_314] at hf
    rcases jif_d hf with ⟨h, hf⟩ | ⟨h, hf⟩
    · obtain rfl := Option.some.inj hf
      exact rfl
    · obtain ⟨hb1, hf⟩ := jg_some hf
      obtain ⟨q2, hc_2, hf⟩ := jbind hf
      obtain ⟨hb4, hf⟩ := jg_some hf
      exact (ih _ _ hf _ hp).trans ((jp_set_ne (jne hp (by decide : 122 ∈ ([104, 108, 109, 110, 122, 123, 124, 129, 130, 131, 132, 133, 135, 137, 138, 139, 140, 141, 143] : List Nat)))).trans ((w_M_keeps hc_2 _ (jout hp (by decide : (([104, 143] : List Nat)).all (fun x => (([104, 108, 109, 110, 122, 123, 124, 129, 130, 131, 132, 133, 135, 137, 138, 139, 140, 141, 143] : List Nat)).contains x) = true))).trans rfl))
theorem w_M_keepsTold_284  : ∀ (n : Nat) (l1 : Int32) (M : jp_M) {res : jp_M}, f_M_keepsTold_284 n  l1 M = some res → ∀ p, p ∉ ([104, 108, 109, 110, 122, 123, 124, 129, 130, 131, 132, 133, 135, 137, 138, 139, 140, 141, 143] : List Nat) → res p = M p := by
  intro n
  induction n with
  | zero =>
    intro l1 M res hf
    cases hf
  | succ n ih =>
    intro l1 M res hf p hp
    rw [f_M_keepsTold_284] at hf
    rcases jif_d hf with ⟨h, hf⟩ | ⟨h, hf⟩
    · exact (w_M_keepsTold_314 jFu _ _ hf _ hp).trans rfl
    · obtain ⟨hb1, hf⟩ := jg_some hf
      obtain ⟨q2, hc_2, hf⟩ := jbind hf
      obtain ⟨hb4, hf⟩ := jg_some hf
      exact (ih _ _ hf _ hp).trans ((jp_set_ne (jne hp (by decide : 135 ∈ ([104, 108, 109, 110, 122, 123, 124, 129, 130, 131, 132, 133, 135, 137, 138, 139, 140, 141, 143] : List Nat)))).trans ((w_M_keeps hc_2 _ (jout hp (by decide : (([104, 143] : List Nat)).all (fun x => (([104, 108, 109, 110, 122, 123, 124, 129, 130, 131, 132, 133, 135, 137, 138, 139, 140, 141, 143] : List Nat)).contains x) = true))).trans rfl))
theorem w_M_keepsTold_254  : ∀ (n : Nat) (l1 : Int32) (M : jp_M) {res : jp_M}, f_M_keepsTold_254 n  l1 M = some res → ∀ p, p ∉ ([104, 108, 109, 110, 122, 123, 124, 129, 130, 131, 132, 133, 135, 137, 138, 139, 140, 141, 143] : List Nat) → res p = M p := by
  intro n
  induction n with
  | zero =>
    intro l1 M res hf
    cases hf
  | succ n ih =>
    intro l1 M res hf p hp
    rw [f_M_keepsTold_254] at hf
    rcases jif_d hf with ⟨h, hf⟩ | ⟨h, hf⟩
    · exact (w_M_keepsTold_284 jFu _ _ hf _ hp).trans rfl
    · obtain ⟨hb1, hf⟩ := jg_some hf
      obtain ⟨q2, hc_2, hf⟩ := jbind hf
      obtain ⟨hb4, hf⟩ := jg_some hf
      exact (ih _ _ hf _ hp).trans ((jp_set_ne (jne hp (by decide : 124 ∈ ([104, 108, 109, 110, 122, 123, 124, 129, 130, 131, 132, 133, 135, 137, 138, 139, 140, 141, 143] : List Nat)))).trans ((w_M_keeps hc_2 _ (jout hp (by decide : (([104, 143] : List Nat)).all (fun x => (([104, 108, 109, 110, 122, 123, 124, 129, 130, 131, 132, 133, 135, 137, 138, 139, 140, 141, 143] : List Nat)).contains x) = true))).trans rfl))
theorem w_M_keepsTold_128  : ∀ (n : Nat) (l1 : Int32) (M : jp_M) {res : jp_M}, f_M_keepsTold_128 n  l1 M = some res → ∀ p, p ∉ ([104, 108, 109, 110, 122, 123, 124, 129, 130, 131, 132, 133, 135, 137, 138, 139, 140, 141, 143] : List Nat) → res p = M p := by
  intro n
  induction n with
  | zero =>
    intro l1 M res hf
    cases hf
  | succ n ih =>
    intro l1 M res hf p hp
    rw [f_M_keepsTold_128] at hf
    rcases jif_d hf with ⟨h, hf⟩ | ⟨h, hf⟩
    · exact (w_M_keepsTold_254 jFu _ _ hf _ hp).trans rfl
    · obtain ⟨hb1, hf⟩ := jg_some hf
      obtain ⟨q2, hc_2, hf⟩ := jbind hf
      obtain ⟨hb4, hf⟩ := jg_some hf
      obtain ⟨hb5, hf⟩ := jg_some hf
      obtain ⟨q6, hc_6, hf⟩ := jbind hf
      obtain ⟨hb8, hf⟩ := jg_some hf
      obtain ⟨hb9, hf⟩ := jg_some hf
      obtain ⟨q10, hc_10, hf⟩ := jbind hf
      obtain ⟨hb12, hf⟩ := jg_some hf
      obtain ⟨hb13, hf⟩ := jg_some hf
      obtain ⟨q14, hc_14, hf⟩ := jbind hf
      obtain ⟨hb16, hf⟩ := jg_some hf
      obtain ⟨hb17, hf⟩ := jg_some hf
      obtain ⟨q18, hc_18, hf⟩ := jbind hf
      obtain ⟨hb20, hf⟩ := jg_some hf
      obtain ⟨hb21, hf⟩ := jg_some hf
      obtain ⟨q22, hc_22, hf⟩ := jbind hf
      obtain ⟨hb24, hf⟩ := jg_some hf
      obtain ⟨hb25, hf⟩ := jg_some hf
      obtain ⟨q26, hc_26, hf⟩ := jbind hf
      obtain ⟨hb28, hf⟩ := jg_some hf
      exact (ih _ _ hf _ hp).trans ((jp_set_ne (jne hp (by decide : 141 ∈ ([104, 108, 109, 110, 122, 123, 124, 129, 130, 131, 132, 133, 135, 137, 138, 139, 140, 141, 143] : List Nat)))).trans ((w_M_keeps hc_26 _ (jout hp (by decide : (([104, 143] : List Nat)).all (fun x => (([104, 108, 109, 110, 122, 123, 124, 129, 130, 131, 132, 133, 135, 137, 138, 139, 140, 141, 143] : List Nat)).contains x) = true))).trans ((jp_set_ne (jne hp (by decide : 140 ∈ ([104, 108, 109, 110, 122, 123, 124, 129, 130, 131, 132, 133, 135, 137, 138, 139, 140, 141, 143] : List Nat)))).trans ((w_M_keeps hc_22 _ (jout hp (by decide : (([104, 143] : List Nat)).all (fun x => (([104, 108, 109, 110, 122, 123, 124, 129, 130, 131, 132, 133, 135, 137, 138, 139, 140, 141, 143] : List Nat)).contains x) = true))).trans ((jp_set_ne (jne hp (by decide : 139 ∈ ([104, 108, 109, 110, 122, 123, 124, 129, 130, 131, 132, 133, 135, 137, 138, 139, 140, 141, 143] : List Nat)))).trans ((w_M_keeps hc_18 _ (jout hp (by decide : (([104, 143] : List Nat)).all (fun x => (([104, 108, 109, 110, 122, 123, 124, 129, 130, 131, 132, 133, 135, 137, 138, 139, 140, 141, 143] : List Nat)).contains x) = true))).trans ((jp_set_ne (jne hp (by decide : 138 ∈ ([104, 108, 109, 110, 122, 123, 124, 129, 130, 131, 132, 133, 135, 137, 138, 139, 140, 141, 143] : List Nat)))).trans ((w_M_keeps hc_14 _ (jout hp (by decide : (([104, 143] : List Nat)).all (fun x => (([104, 108, 109, 110, 122, 123, 124, 129, 130, 131, 132, 133, 135, 137, 138, 139, 140, 141, 143] : List Nat)).contains x) = true))).trans ((jp_set_ne (jne hp (by decide : 131 ∈ ([104, 108, 109, 110, 122, 123, 124, 129, 130, 131, 132, 133, 135, 137, 138, 139, 140, 141, 143] : List Nat)))).trans ((w_M_keeps hc_10 _ (jout hp (by decide : (([104, 143] : List Nat)).all (fun x => (([104, 108, 109, 110, 122, 123, 124, 129, 130, 131, 132, 133, 135, 137, 138, 139, 140, 141, 143] : List Nat)).contains x) = true))).trans ((jp_set_ne (jne hp (by decide : 130 ∈ ([104, 108, 109, 110, 122, 123, 124, 129, 130, 131, 132, 133, 135, 137, 138, 139, 140, 141, 143] : List Nat)))).trans ((w_M_keeps hc_6 _ (jout hp (by decide : (([104, 143] : List Nat)).all (fun x => (([104, 108, 109, 110, 122, 123, 124, 129, 130, 131, 132, 133, 135, 137, 138, 139, 140, 141, 143] : List Nat)).contains x) = true))).trans ((jp_set_ne (jne hp (by decide : 129 ∈ ([104, 108, 109, 110, 122, 123, 124, 129, 130, 131, 132, 133, 135, 137, 138, 139, 140, 141, 143] : List Nat)))).trans ((w_M_keeps hc_2 _ (jout hp (by decide : (([104, 143] : List Nat)).all (fun x => (([104, 108, 109, 110, 122, 123, 124, 129, 130, 131, 132, 133, 135, 137, 138, 139, 140, 141, 143] : List Nat)).contains x) = true))).trans rfl))))))))))))))
theorem w_M_keepsTold_2  : ∀ (n : Nat) (l1 : Int32) (M : jp_M) {res : jp_M}, f_M_keepsTold_2 n  l1 M = some res → ∀ p, p ∉ ([104, 108, 109, 110, 122, 123, 124, 129, 130, 131, 132, 133, 135, 137, 138, 139, 140, 141, 143] : List Nat) → res p = M p := by
  intro n
  induction n with
  | zero =>
    intro l1 M res hf
    cases hf
  | succ n ih =>
    intro l1 M res hf p hp
    rw [f_M_keepsTold_2] at hf
    rcases jif_d hf with ⟨h, hf⟩ | ⟨h, hf⟩
    · exact (w_M_keepsTold_128 jFu _ _ hf _ hp).trans rfl
    · obtain ⟨hb1, hf⟩ := jg_some hf
      obtain ⟨q2, hc_2, hf⟩ := jbind hf
      obtain ⟨hb4, hf⟩ := jg_some hf
      obtain ⟨hb5, hf⟩ := jg_some hf
      obtain ⟨q6, hc_6, hf⟩ := jbind hf
      obtain ⟨hb8, hf⟩ := jg_some hf
      obtain ⟨hb9, hf⟩ := jg_some hf
      obtain ⟨q10, hc_10, hf⟩ := jbind hf
      obtain ⟨hb12, hf⟩ := jg_some hf
      obtain ⟨hb13, hf⟩ := jg_some hf
      obtain ⟨q14, hc_14, hf⟩ := jbind hf
      obtain ⟨hb16, hf⟩ := jg_some hf
      obtain ⟨hb17, hf⟩ := jg_some hf
      obtain ⟨q18, hc_18, hf⟩ := jbind hf
      obtain ⟨hb20, hf⟩ := jg_some hf
      obtain ⟨hb21, hf⟩ := jg_some hf
      obtain ⟨q22, hc_22, hf⟩ := jbind hf
      obtain ⟨hb24, hf⟩ := jg_some hf
      obtain ⟨hb25, hf⟩ := jg_some hf
      obtain ⟨q26, hc_26, hf⟩ := jbind hf
      obtain ⟨hb28, hf⟩ := jg_some hf
      exact (ih _ _ hf _ hp).trans ((jp_set_ne (jne hp (by decide : 137 ∈ ([104, 108, 109, 110, 122, 123, 124, 129, 130, 131, 132, 133, 135, 137, 138, 139, 140, 141, 143] : List Nat)))).trans ((w_M_keeps hc_26 _ (jout hp (by decide : (([104, 143] : List Nat)).all (fun x => (([104, 108, 109, 110, 122, 123, 124, 129, 130, 131, 132, 133, 135, 137, 138, 139, 140, 141, 143] : List Nat)).contains x) = true))).trans ((jp_set_ne (jne hp (by decide : 133 ∈ ([104, 108, 109, 110, 122, 123, 124, 129, 130, 131, 132, 133, 135, 137, 138, 139, 140, 141, 143] : List Nat)))).trans ((w_M_keeps hc_22 _ (jout hp (by decide : (([104, 143] : List Nat)).all (fun x => (([104, 108, 109, 110, 122, 123, 124, 129, 130, 131, 132, 133, 135, 137, 138, 139, 140, 141, 143] : List Nat)).contains x) = true))).trans ((jp_set_ne (jne hp (by decide : 132 ∈ ([104, 108, 109, 110, 122, 123, 124, 129, 130, 131, 132, 133, 135, 137, 138, 139, 140, 141, 143] : List Nat)))).trans ((w_M_keeps hc_18 _ (jout hp (by decide : (([104, 143] : List Nat)).all (fun x => (([104, 108, 109, 110, 122, 123, 124, 129, 130, 131, 132, 133, 135, 137, 138, 139, 140, 141, 143] : List Nat)).contains x) = true))).trans ((jp_set_ne (jne hp (by decide : 123 ∈ ([104, 108, 109, 110, 122, 123, 124, 129, 130, 131, 132, 133, 135, 137, 138, 139, 140, 141, 143] : List Nat)))).trans ((w_M_keeps hc_14 _ (jout hp (by decide : (([104, 143] : List Nat)).all (fun x => (([104, 108, 109, 110, 122, 123, 124, 129, 130, 131, 132, 133, 135, 137, 138, 139, 140, 141, 143] : List Nat)).contains x) = true))).trans ((jp_set_ne (jne hp (by decide : 110 ∈ ([104, 108, 109, 110, 122, 123, 124, 129, 130, 131, 132, 133, 135, 137, 138, 139, 140, 141, 143] : List Nat)))).trans ((w_M_keeps hc_10 _ (jout hp (by decide : (([104, 143] : List Nat)).all (fun x => (([104, 108, 109, 110, 122, 123, 124, 129, 130, 131, 132, 133, 135, 137, 138, 139, 140, 141, 143] : List Nat)).contains x) = true))).trans ((jp_set_ne (jne hp (by decide : 109 ∈ ([104, 108, 109, 110, 122, 123, 124, 129, 130, 131, 132, 133, 135, 137, 138, 139, 140, 141, 143] : List Nat)))).trans ((w_M_keeps hc_6 _ (jout hp (by decide : (([104, 143] : List Nat)).all (fun x => (([104, 108, 109, 110, 122, 123, 124, 129, 130, 131, 132, 133, 135, 137, 138, 139, 140, 141, 143] : List Nat)).contains x) = true))).trans ((jp_set_ne (jne hp (by decide : 108 ∈ ([104, 108, 109, 110, 122, 123, 124, 129, 130, 131, 132, 133, 135, 137, 138, 139, 140, 141, 143] : List Nat)))).trans ((w_M_keeps hc_2 _ (jout hp (by decide : (([104, 143] : List Nat)).all (fun x => (([104, 108, 109, 110, 122, 123, 124, 129, 130, 131, 132, 133, 135, 137, 138, 139, 140, 141, 143] : List Nat)).contains x) = true))).trans rfl))))))))))))))
theorem w_M_keepsTold {M : jp_M} {res : jp_M} (hf : f_M_keepsTold M = some res) : ∀ p, p ∉ ([104, 108, 109, 110, 122, 123, 124, 129, 130, 131, 132, 133, 135, 137, 138, 139, 140, 141, 143] : List Nat) → res p = M p := by
  intro p hp
  unfold f_M_keepsTold at hf
  exact (w_M_keepsTold_2 jFu _ _ hf _ hp).trans rfl
theorem w_M_keepsLaw_96  : ∀ (n : Nat) (l1 : Int32) (M : jp_M) {res : jp_M}, f_M_keepsLaw_96 n  l1 M = some res → ∀ p, p ∉ ([104, 114, 115, 116, 117, 118, 119, 120, 143] : List Nat) → res p = M p := by
  intro n
  induction n with
  | zero =>
    intro l1 M res hf
    cases hf
  | succ n ih =>
    intro l1 M res hf p hp
    rw [f_M_keepsLaw_96] at hf
    rcases jif_d hf with ⟨h, hf⟩ | ⟨h, hf⟩
    · obtain rfl := Option.some.inj hf
      exact rfl
    · obtain ⟨hb1, hf⟩ := jg_some hf
      obtain ⟨q2, hc_2, hf⟩ := jbind hf
      obtain ⟨hb4, hf⟩ := jg_some hf
      obtain ⟨hb5, hf⟩ := jg_some hf
      obtain ⟨q6, hc_6, hf⟩ := jbind hf
      obtain ⟨hb8, hf⟩ := jg_some hf
      exact (ih _ _ hf _ hp).trans ((jp_set_ne (jne hp (by decide : 120 ∈ ([104, 114, 115, 116, 117, 118, 119, 120, 143] : List Nat)))).trans ((w_M_keeps hc_6 _ (jout hp (by decide : (([104, 143] : List Nat)).all (fun x => (([104, 114, 115, 116, 117, 118, 119, 120, 143] : List Nat)).contains x) = true))).trans ((jp_set_ne (jne hp (by decide : 119 ∈ ([104, 114, 115, 116, 117, 118, 119, 120, 143] : List Nat)))).trans ((w_M_keeps hc_2 _ (jout hp (by decide : (([104, 143] : List Nat)).all (fun x => (([104, 114, 115, 116, 117, 118, 119, 120, 143] : List Nat)).contains x) = true))).trans rfl))))
theorem w_M_keepsLaw_18  : ∀ (n : Nat) (l1 : Int32) (M : jp_M) {res : jp_M}, f_M_keepsLaw_18 n  l1 M = some res → ∀ p, p ∉ ([104, 114, 115, 116, 117, 118, 119, 120, 143] : List Nat) → res p = M p := by
  intro n
  induction n with
  | zero =>
    intro l1 M res hf
    cases hf
  | succ n ih =>
    intro l1 M res hf p hp
    rw [f_M_keepsLaw_18] at hf
    rcases jif_d hf with ⟨h, hf⟩ | ⟨h, hf⟩
    · exact (w_M_keepsLaw_96 jFu _ _ hf _ hp).trans rfl
    · obtain ⟨hb1, hf⟩ := jg_some hf
      obtain ⟨q2, hc_2, hf⟩ := jbind hf
      obtain ⟨hb4, hf⟩ := jg_some hf
      obtain ⟨hb5, hf⟩ := jg_some hf
      obtain ⟨q6, hc_6, hf⟩ := jbind hf
      obtain ⟨hb8, hf⟩ := jg_some hf
      obtain ⟨hb9, hf⟩ := jg_some hf
      obtain ⟨q10, hc_10, hf⟩ := jbind hf
      obtain ⟨hb12, hf⟩ := jg_some hf
      obtain ⟨hb13, hf⟩ := jg_some hf
      obtain ⟨q14, hc_14, hf⟩ := jbind hf
      obtain ⟨hb16, hf⟩ := jg_some hf
      exact (ih _ _ hf _ hp).trans ((jp_set_ne (jne hp (by decide : 118 ∈ ([104, 114, 115, 116, 117, 118, 119, 120, 143] : List Nat)))).trans ((w_M_keeps hc_14 _ (jout hp (by decide : (([104, 143] : List Nat)).all (fun x => (([104, 114, 115, 116, 117, 118, 119, 120, 143] : List Nat)).contains x) = true))).trans ((jp_set_ne (jne hp (by decide : 117 ∈ ([104, 114, 115, 116, 117, 118, 119, 120, 143] : List Nat)))).trans ((w_M_keeps hc_10 _ (jout hp (by decide : (([104, 143] : List Nat)).all (fun x => (([104, 114, 115, 116, 117, 118, 119, 120, 143] : List Nat)).contains x) = true))).trans ((jp_set_ne (jne hp (by decide : 116 ∈ ([104, 114, 115, 116, 117, 118, 119, 120, 143] : List Nat)))).trans ((w_M_keeps hc_6 _ (jout hp (by decide : (([104, 143] : List Nat)).all (fun x => (([104, 114, 115, 116, 117, 118, 119, 120, 143] : List Nat)).contains x) = true))).trans ((jp_set_ne (jne hp (by decide : 115 ∈ ([104, 114, 115, 116, 117, 118, 119, 120, 143] : List Nat)))).trans ((w_M_keeps hc_2 _ (jout hp (by decide : (([104, 143] : List Nat)).all (fun x => (([104, 114, 115, 116, 117, 118, 119, 120, 143] : List Nat)).contains x) = true))).trans rfl))))))))
theorem w_M_keepsLaw {M : jp_M} {res : jp_M} (hf : f_M_keepsLaw M = some res) : ∀ p, p ∉ ([104, 114, 115, 116, 117, 118, 119, 120, 143] : List Nat) → res p = M p := by
  intro p hp
  unfold f_M_keepsLaw at hf
  obtain ⟨q1, hc_1, hf⟩ := jbind hf
  exact (w_M_keepsLaw_18 jFu _ _ hf _ hp).trans ((jp_set_ne (jne hp (by decide : 114 ∈ ([104, 114, 115, 116, 117, 118, 119, 120, 143] : List Nat)))).trans ((w_M_keeps hc_1 _ (jout hp (by decide : (([104, 143] : List Nat)).all (fun x => (([104, 114, 115, 116, 117, 118, 119, 120, 143] : List Nat)).contains x) = true))).trans rfl))
theorem w_M_image_74  : ∀ (n : Nat) (l1 : Int32) (l2 : Int32) (M : jp_M) {res : Int32 × jp_M}, f_M_image_74 n  l1 l2 M = some res → ∀ p, p ∉ ([104, 105, 108, 109, 110, 111, 114, 115, 116, 117, 118, 119, 120, 122, 123, 124, 129, 130, 131, 132, 133, 135, 137, 138, 139, 140, 141, 143] : List Nat) → res.2 p = M p := by
  intro n
  induction n with
  | zero =>
    intro l1 l2 M res hf
    cases hf
  | succ n ih =>
    intro l1 l2 M res hf p hp
    rw [f_M_image_74] at hf
    rcases jif_d hf with ⟨h, hf⟩ | ⟨h, hf⟩
    · obtain ⟨q1, hc_1, hf⟩ := jbind hf
      rcases jif_d hf with ⟨h, hf⟩ | ⟨h, hf⟩
      · obtain rfl := Option.some.inj hf
        exact ((w_M_keepsLaw hc_1 _ (jout hp (by decide : (([104, 114, 115, 116, 117, 118, 119, 120, 143] : List Nat)).all (fun x => (([104, 105, 108, 109, 110, 111, 114, 115, 116, 117, 118, 119, 120, 122, 123, 124, 129, 130, 131, 132, 133, 135, 137, 138, 139, 140, 141, 143] : List Nat)).contains x) = true))).trans rfl)
      · obtain rfl := Option.some.inj hf
        exact ((jp_set_ne (jne hp (by decide : 104 ∈ ([104, 105, 108, 109, 110, 111, 114, 115, 116, 117, 118, 119, 120, 122, 123, 124, 129, 130, 131, 132, 133, 135, 137, 138, 139, 140, 141, 143] : List Nat)))).trans ((w_M_keepsLaw hc_1 _ (jout hp (by decide : (([104, 114, 115, 116, 117, 118, 119, 120, 143] : List Nat)).all (fun x => (([104, 105, 108, 109, 110, 111, 114, 115, 116, 117, 118, 119, 120, 122, 123, 124, 129, 130, 131, 132, 133, 135, 137, 138, 139, 140, 141, 143] : List Nat)).contains x) = true))).trans rfl))
    · obtain ⟨hb3, hf⟩ := jg_some hf
      obtain ⟨q4, hc_4, hf⟩ := jbind hf
      obtain ⟨hb6, hf⟩ := jg_some hf
      exact (ih _ _ _ hf _ hp).trans ((jp_set_ne (jne hp (by decide : 111 ∈ ([104, 105, 108, 109, 110, 111, 114, 115, 116, 117, 118, 119, 120, 122, 123, 124, 129, 130, 131, 132, 133, 135, 137, 138, 139, 140, 141, 143] : List Nat)))).trans ((w_M_keeps hc_4 _ (jout hp (by decide : (([104, 143] : List Nat)).all (fun x => (([104, 105, 108, 109, 110, 111, 114, 115, 116, 117, 118, 119, 120, 122, 123, 124, 129, 130, 131, 132, 133, 135, 137, 138, 139, 140, 141, 143] : List Nat)).contains x) = true))).trans rfl))
theorem w_M_image_35  : ∀ (n : Nat) (l1 : Int32) (l2 : Int32) (M : jp_M) {res : Int32 × jp_M}, f_M_image_35 n  l1 l2 M = some res → ∀ p, p ∉ ([104, 105, 108, 109, 110, 111, 114, 115, 116, 117, 118, 119, 120, 122, 123, 124, 129, 130, 131, 132, 133, 135, 137, 138, 139, 140, 141, 143] : List Nat) → res.2 p = M p := by
  intro n
  induction n with
  | zero =>
    intro l1 l2 M res hf
    cases hf
  | succ n ih =>
    intro l1 l2 M res hf p hp
    rw [f_M_image_35] at hf
    rcases jif_d hf with ⟨h, hf⟩ | ⟨h, hf⟩
    · obtain ⟨q1, hc_1, hf⟩ := jbind hf
      obtain ⟨q2, hc_2, hf⟩ := jbind hf
      exact (w_M_image_74 jFu _ _ _ hf _ hp).trans ((w_M_keepsTold hc_2 _ (jout hp (by decide : (([104, 108, 109, 110, 122, 123, 124, 129, 130, 131, 132, 133, 135, 137, 138, 139, 140, 141, 143] : List Nat)).all (fun x => (([104, 105, 108, 109, 110, 111, 114, 115, 116, 117, 118, 119, 120, 122, 123, 124, 129, 130, 131, 132, 133, 135, 137, 138, 139, 140, 141, 143] : List Nat)).contains x) = true))).trans ((w_M_keepsMany hc_1 _ (jout hp (by decide : (([104, 143] : List Nat)).all (fun x => (([104, 105, 108, 109, 110, 111, 114, 115, 116, 117, 118, 119, 120, 122, 123, 124, 129, 130, 131, 132, 133, 135, 137, 138, 139, 140, 141, 143] : List Nat)).contains x) = true))).trans rfl))
    · obtain ⟨hb3, hf⟩ := jg_some hf
      obtain ⟨q4, hc_4, hf⟩ := jbind hf
      obtain ⟨hb6, hf⟩ := jg_some hf
      exact (ih _ _ _ hf _ hp).trans ((jp_set_ne (jne hp (by decide : 105 ∈ ([104, 105, 108, 109, 110, 111, 114, 115, 116, 117, 118, 119, 120, 122, 123, 124, 129, 130, 131, 132, 133, 135, 137, 138, 139, 140, 141, 143] : List Nat)))).trans ((w_M_keeps hc_4 _ (jout hp (by decide : (([104, 143] : List Nat)).all (fun x => (([104, 105, 108, 109, 110, 111, 114, 115, 116, 117, 118, 119, 120, 122, 123, 124, 129, 130, 131, 132, 133, 135, 137, 138, 139, 140, 141, 143] : List Nat)).contains x) = true))).trans rfl))
theorem w_M_image_18  (l1 : Int32) (M : jp_M) {res : Int32 × jp_M} (hf : f_M_image_18  l1 M = some res) : ∀ p, p ∉ ([104, 105, 108, 109, 110, 111, 114, 115, 116, 117, 118, 119, 120, 122, 123, 124, 129, 130, 131, 132, 133, 135, 137, 138, 139, 140, 141, 143] : List Nat) → res.2 p = M p := by
  intro p hp
  unfold f_M_image_18 at hf
  obtain ⟨hb1, hf⟩ := jg_some hf
  exact (w_M_image_35 jFu _ _ _ hf _ hp).trans ((jp_set_ne (jne hp (by decide : 104 ∈ ([104, 105, 108, 109, 110, 111, 114, 115, 116, 117, 118, 119, 120, 122, 123, 124, 129, 130, 131, 132, 133, 135, 137, 138, 139, 140, 141, 143] : List Nat)))).trans ((jp_set_ne (jne hp (by decide : 104 ∈ ([104, 105, 108, 109, 110, 111, 114, 115, 116, 117, 118, 119, 120, 122, 123, 124, 129, 130, 131, 132, 133, 135, 137, 138, 139, 140, 141, 143] : List Nat)))).trans ((jp_set_ne (jne hp (by decide : 104 ∈ ([104, 105, 108, 109, 110, 111, 114, 115, 116, 117, 118, 119, 120, 122, 123, 124, 129, 130, 131, 132, 133, 135, 137, 138, 139, 140, 141, 143] : List Nat)))).trans rfl)))
theorem w_M_image {a1 : Int32} {M : jp_M} {res : Int32 × jp_M} (hf : f_M_image a1 M = some res) : ∀ p, p ∉ ([104, 105, 108, 109, 110, 111, 114, 115, 116, 117, 118, 119, 120, 122, 123, 124, 129, 130, 131, 132, 133, 135, 137, 138, 139, 140, 141, 143] : List Nat) → res.2 p = M p := by
  intro p hp
  unfold f_M_image at hf
  rcases jif_d hf with ⟨h, hf⟩ | ⟨h, hf⟩
  · exact (w_M_image_18 _ _ hf _ hp).trans ((jp_set_ne (jne hp (by decide : 104 ∈ ([104, 105, 108, 109, 110, 111, 114, 115, 116, 117, 118, 119, 120, 122, 123, 124, 129, 130, 131, 132, 133, 135, 137, 138, 139, 140, 141, 143] : List Nat)))).trans rfl)
  · rcases jif_d hf with ⟨h, hf⟩ | ⟨h, hf⟩
    · exact (w_M_image_18 _ _ hf _ hp).trans ((jp_set_ne (jne hp (by decide : 104 ∈ ([104, 105, 108, 109, 110, 111, 114, 115, 116, 117, 118, 119, 120, 122, 123, 124, 129, 130, 131, 132, 133, 135, 137, 138, 139, 140, 141, 143] : List Nat)))).trans rfl)
    · obtain rfl := Option.some.inj hf
      exact ((jp_set_ne (jne hp (by decide : 104 ∈ ([104, 105, 108, 109, 110, 111, 114, 115, 116, 117, 118, 119, 120, 122, 123, 124, 129, 130, 131, 132, 133, 135, 137, 138, 139, 140, 141, 143] : List Nat)))).trans rfl)
theorem w_M_look {a1 : Int32} {M : jp_M} {res : Int32 × jp_M} (hf : f_M_look a1 M = some res) : ∀ p, p ∉ ([104] : List Nat) → res.2 p = M p := by
  intro p hp
  unfold f_M_look at hf
  rcases jif_d hf with ⟨h, hf⟩ | ⟨h, hf⟩
  · rcases jif_d hf with ⟨h, hf⟩ | ⟨h, hf⟩
    · rcases jif_d hf with ⟨h, hf⟩ | ⟨h, hf⟩
      · rcases jif_d hf with ⟨h, hf⟩ | ⟨h, hf⟩
        · rcases jif_d hf with ⟨h, hf⟩ | ⟨h, hf⟩
          · rcases jif_d hf with ⟨h, hf⟩ | ⟨h, hf⟩
            · rcases jif_d hf with ⟨h, hf⟩ | ⟨h, hf⟩
              · rcases jif_d hf with ⟨h, hf⟩ | ⟨h, hf⟩
                · rcases jif_d hf with ⟨h, hf⟩ | ⟨h, hf⟩
                  · rcases jif_d hf with ⟨h, hf⟩ | ⟨h, hf⟩
                    · rcases jif_d hf with ⟨h, hf⟩ | ⟨h, hf⟩
                      · rcases jif_d hf with ⟨h, hf⟩ | ⟨h, hf⟩
                        · rcases jif_d hf with ⟨h, hf⟩ | ⟨h, hf⟩
                          · rcases jif_d hf with ⟨h, hf⟩ | ⟨h, hf⟩
                            · obtain rfl := Option.some.inj hf
                              exact ((jp_set_ne (jne hp (by decide : 104 ∈ ([104] : List Nat)))).trans rfl)
                            · obtain rfl := Option.some.inj hf
                              exact ((jp_set_ne (jne hp (by decide : 104 ∈ ([104] : List Nat)))).trans rfl)
                          · obtain rfl := Option.some.inj hf
                            exact ((jp_set_ne (jne hp (by decide : 104 ∈ ([104] : List Nat)))).trans rfl)
                        · obtain rfl := Option.some.inj hf
                          exact ((jp_set_ne (jne hp (by decide : 104 ∈ ([104] : List Nat)))).trans rfl)
                      · obtain rfl := Option.some.inj hf
                        exact ((jp_set_ne (jne hp (by decide : 104 ∈ ([104] : List Nat)))).trans rfl)
                    · obtain rfl := Option.some.inj hf
                      exact ((jp_set_ne (jne hp (by decide : 104 ∈ ([104] : List Nat)))).trans rfl)
                  · obtain rfl := Option.some.inj hf
                    exact ((jp_set_ne (jne hp (by decide : 104 ∈ ([104] : List Nat)))).trans rfl)
                · obtain rfl := Option.some.inj hf
                  exact ((jp_set_ne (jne hp (by decide : 104 ∈ ([104] : List Nat)))).trans rfl)
              · obtain rfl := Option.some.inj hf
                exact ((jp_set_ne (jne hp (by decide : 104 ∈ ([104] : List Nat)))).trans rfl)
            · rcases jif_d hf with ⟨h, hf⟩ | ⟨h, hf⟩
              · obtain rfl := Option.some.inj hf
                exact ((jp_set_ne (jne hp (by decide : 104 ∈ ([104] : List Nat)))).trans rfl)
              · obtain rfl := Option.some.inj hf
                exact ((jp_set_ne (jne hp (by decide : 104 ∈ ([104] : List Nat)))).trans rfl)
          · obtain rfl := Option.some.inj hf
            exact ((jp_set_ne (jne hp (by decide : 104 ∈ ([104] : List Nat)))).trans rfl)
        · obtain ⟨q3, hc_3, hf⟩ := jbind hf
          obtain rfl := Option.some.inj hf
          exact ((jp_set_ne (jne hp (by decide : 104 ∈ ([104] : List Nat)))).trans rfl)
      · obtain rfl := Option.some.inj hf
        exact ((jp_set_ne (jne hp (by decide : 104 ∈ ([104] : List Nat)))).trans rfl)
    · obtain rfl := Option.some.inj hf
      exact ((jp_set_ne (jne hp (by decide : 104 ∈ ([104] : List Nat)))).trans rfl)
  · obtain rfl := Option.some.inj hf
    exact ((jp_set_ne (jne hp (by decide : 104 ∈ ([104] : List Nat)))).trans rfl)
