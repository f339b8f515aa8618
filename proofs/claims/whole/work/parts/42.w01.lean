theorem w_TT_eaveOf_71 {c9 : Int32 → Int32 → Int32 → Int32 → jp_M → Option (Int32 × jp_M)} (hc9 : ∀ (l1 : Int32) (l2 : Int32) (l3 : Int32) (l4 : Int32) (M : jp_M) (res : Int32 × jp_M), c9 l1 l2 l3 l4 M = some res → ∀ p, p ∉ ([64] : List Nat) → res.2 p = M p) (l1 : Int32) (l2 : Int32) (l3 : Int32) (l4 : Int32) (M : jp_M) {res : Int32 × jp_M} (hf : f_TT_eaveOf_71 c9 l1 l2 l3 l4 M = some res) : ∀ p, p ∉ ([64] : List Nat) → res.2 p = M p := by
  intro p hp
  unfold f_TT_eaveOf_71 at hf
  exact (hc9 _ _ _ _ _ _ hf _ hp).trans rfl
theorem w_TT_eaveOf_23 {c9 : Int32 → Int32 → Int32 → Int32 → jp_M → Option (Int32 × jp_M)} (hc9 : ∀ (l1 : Int32) (l2 : Int32) (l3 : Int32) (l4 : Int32) (M : jp_M) (res : Int32 × jp_M), c9 l1 l2 l3 l4 M = some res → ∀ p, p ∉ ([64] : List Nat) → res.2 p = M p) : ∀ (n : Nat) (l1 : Int32) (l2 : Int32) (l3 : Int32) (l4 : Int32) (l5 : Int32) (M : jp_M) {res : Int32 × jp_M}, f_TT_eaveOf_23 n c9 l1 l2 l3 l4 l5 M = some res → ∀ p, p ∉ ([64] : List Nat) → res.2 p = M p := by
  intro n
  induction n with
  | zero =>
    intro l1 l2 l3 l4 l5 M res hf
    cases hf
  | succ n ih =>
    intro l1 l2 l3 l4 l5 M res hf p hp
    rw [f_TT_eaveOf_23] at hf
    rcases jif_d hf with ⟨h, hf⟩ | ⟨h, hf⟩
    · exact (w_TT_eaveOf_71 hc9 _ _ _ _ _ hf _ hp).trans rfl
    · rcases jif_d hf with ⟨h, hf⟩ | ⟨h, hf⟩
      · exact (w_TT_eaveOf_71 hc9 _ _ _ _ _ hf _ hp).trans rfl
      · rcases jif_d hf with ⟨h, hf⟩ | ⟨h, hf⟩
        · exact (w_TT_eaveOf_65 hc9 (fun l1 l2 l3 l4 l5 M res hf => ih l1 l2 l3 l4 l5 M hf) _ _ _ _ _ _ hf _ hp).trans rfl
        · obtain ⟨q1, hc_1, hf⟩ := jbind hf
          obtain ⟨hb2, hf⟩ := jg_some hf
          rcases jif_d hf with ⟨h, hf⟩ | ⟨h, hf⟩
          · exact (w_TT_eaveOf_65 hc9 (fun l1 l2 l3 l4 l5 M res hf => ih l1 l2 l3 l4 l5 M hf) _ _ _ _ _ _ hf _ hp).trans rfl
          · exact (w_TT_eaveOf_65 hc9 (fun l1 l2 l3 l4 l5 M res hf => ih l1 l2 l3 l4 l5 M hf) _ _ _ _ _ _ hf _ hp).trans rfl
theorem w_TT_eaveOf_12  : ∀ (n : Nat) (l1 : Int32) (l2 : Int32) (l3 : Int32) (l4 : Int32) (M : jp_M) {res : Int32 × jp_M}, f_TT_eaveOf_12 n  l1 l2 l3 l4 M = some res → ∀ p, p ∉ ([64] : List Nat) → res.2 p = M p := by
  intro n
  induction n with
  | zero =>
    intro l1 l2 l3 l4 M res hf
    cases hf
  | succ n ih =>
    intro l1 l2 l3 l4 M res hf p hp
    rw [f_TT_eaveOf_12] at hf
    rcases jif_d hf with ⟨h, hf⟩ | ⟨h, hf⟩
    · obtain rfl := Option.some.inj hf
      exact rfl
    · exact (w_TT_eaveOf_23 (fun l1 l2 l3 l4 M res hf => ih l1 l2 l3 l4 M hf) jFu _ _ _ _ _ _ hf _ hp).trans rfl
theorem w_TT_eaveOf {a1 : Int32} {M : jp_M} {res : Int32 × jp_M} (hf : f_TT_eaveOf a1 M = some res) : ∀ p, p ∉ ([64] : List Nat) → res.2 p = M p := by
  intro p hp
  unfold f_TT_eaveOf at hf
  obtain ⟨q1, hc_1, hf⟩ := jbind hf
  exact (w_TT_eaveOf_12 jFu _ _ _ _ _ hf _ hp).trans ((w_TT_leastWays hc_1 _ (jout hp (by decide : (([64] : List Nat)).all (fun x => (([64] : List Nat)).contains x) = true))).trans rfl)
theorem w_C_eaves {a1 : Int32} {M : jp_M} {res : Int32 × jp_M} (hf : f_C_eaves a1 M = some res) : ∀ p, p ∉ ([64] : List Nat) → res.2 p = M p := by
  intro p hp
  unfold f_C_eaves at hf
  rcases jif_d hf with ⟨h, hf⟩ | ⟨h, hf⟩
  · rcases jif_d hf with ⟨h, hf⟩ | ⟨h, hf⟩
    · obtain rfl := Option.some.inj hf
      exact rfl
    · rcases jif_d hf with ⟨h, hf⟩ | ⟨h, hf⟩
      · obtain rfl := Option.some.inj hf
        exact rfl
      · obtain ⟨q1, hc_1, hf⟩ := jbind hf
        obtain rfl := Option.some.inj hf
        exact ((w_TT_eaveOf hc_1 _ (jout hp (by decide : (([64] : List Nat)).all (fun x => (([64] : List Nat)).contains x) = true))).trans rfl)
  · obtain ⟨q2, hc_2, hf⟩ := jbind hf
    obtain rfl := Option.some.inj hf
    exact ((w_TT_leastWays hc_2 _ (jout hp (by decide : (([64] : List Nat)).all (fun x => (([64] : List Nat)).contains x) = true))).trans rfl)
theorem w_TT_learnsCites_109 {c19 : Int32 → jp_M → Option (jp_M)} (hc19 : ∀ (l1 : Int32) (M : jp_M) (res : jp_M), c19 l1 M = some res → ∀ p, p ∉ ([65, 66] : List Nat) → res p = M p) (l1 : Int32) (M : jp_M) {res : jp_M} (hf : f_TT_learnsCites_109 c19 l1 M = some res) : ∀ p, p ∉ ([65, 66] : List Nat) → res p = M p := by
  intro p hp
  unfold f_TT_learnsCites_109 at hf
  exact (hc19 _ _ _ hf _ hp).trans rfl
theorem w_TT_learnsCites_30  : ∀ (n : Nat) (l1 : Int32) (M : jp_M) {res : jp_M}, f_TT_learnsCites_30 n  l1 M = some res → ∀ p, p ∉ ([65, 66] : List Nat) → res p = M p := by
  intro n
  induction n with
  | zero =>
    intro l1 M res hf
    cases hf
  | succ n ih =>
    intro l1 M res hf p hp
    rw [f_TT_learnsCites_30] at hf
    rcases jif_d hf with ⟨h, hf⟩ | ⟨h, hf⟩
    · obtain rfl := Option.some.inj hf
      exact rfl
    · obtain ⟨hb1, hf⟩ := jg_some hf
      obtain ⟨hb2, hf⟩ := jg_some hf
      rcases jif_d hf with ⟨h, hf⟩ | ⟨h, hf⟩
      · exact (w_TT_learnsCites_109 (fun l1 M res hf => ih l1 M hf) _ _ hf _ hp).trans rfl
      · rcases jif_d hf with ⟨h, hf⟩ | ⟨h, hf⟩
        · exact (w_TT_learnsCites_109 (fun l1 M res hf => ih l1 M hf) _ _ hf _ hp).trans rfl
        · obtain ⟨hb5, hf⟩ := jg_some hf
          obtain ⟨hb7, hf⟩ := jg_some hf
          obtain ⟨hb8, hf⟩ := jg_some hf
          obtain ⟨hb10, hf⟩ := jg_some hf
          exact (w_TT_learnsCites_109 (fun l1 M res hf => ih l1 M hf) _ _ hf _ hp).trans ((jp_set_ne (jne hp (by decide : 66 ∈ ([65, 66] : List Nat)))).trans ((jp_set_ne (jne hp (by decide : 65 ∈ ([65, 66] : List Nat)))).trans rfl))
theorem w_TT_learnsCites_2  : ∀ (n : Nat) (l1 : Int32) (M : jp_M) {res : jp_M}, f_TT_learnsCites_2 n  l1 M = some res → ∀ p, p ∉ ([65, 66] : List Nat) → res p = M p := by
  intro n
  induction n with
  | zero =>
    intro l1 M res hf
    cases hf
  | succ n ih =>
    intro l1 M res hf p hp
    rw [f_TT_learnsCites_2] at hf
    rcases jif_d hf with ⟨h, hf⟩ | ⟨h, hf⟩
    · exact (w_TT_learnsCites_30 jFu _ _ hf _ hp).trans rfl
    · obtain ⟨hb2, hf⟩ := jg_some hf
      obtain ⟨hb4, hf⟩ := jg_some hf
      exact (ih _ _ hf _ hp).trans ((jp_set_ne (jne hp (by decide : 66 ∈ ([65, 66] : List Nat)))).trans ((jp_set_ne (jne hp (by decide : 65 ∈ ([65, 66] : List Nat)))).trans rfl))
theorem w_TT_learnsCites {M : jp_M} {res : jp_M} (hf : f_TT_learnsCites M = some res) : ∀ p, p ∉ ([65, 66] : List Nat) → res p = M p := by
  intro p hp
  unfold f_TT_learnsCites at hf
  exact (w_TT_learnsCites_2 jFu _ _ hf _ hp).trans rfl
theorem w_TT_placeOf_42 {c8 : Int32 → Int32 → Int32 → Int32 → jp_M → Option (Int32 × jp_M)} (hc8 : ∀ (l1 : Int32) (l2 : Int32) (l3 : Int32) (l4 : Int32) (M : jp_M) (res : Int32 × jp_M), c8 l1 l2 l3 l4 M = some res → ∀ p, p ∉ ([65, 66] : List Nat) → res.2 p = M p) (l1 : Int32) (l2 : Int32) (l3 : Int32) (l4 : Int32) (l5 : Int32) (M : jp_M) {res : Int32 × jp_M} (hf : f_TT_placeOf_42 c8 l1 l2 l3 l4 l5 M = some res) : ∀ p, p ∉ ([65, 66] : List Nat) → res.2 p = M p := by
  intro p hp
  unfold f_TT_placeOf_42 at hf
  exact (hc8 _ _ _ _ _ _ hf _ hp).trans rfl
theorem w_TT_placeOf_11  : ∀ (n : Nat) (l1 : Int32) (l2 : Int32) (l3 : Int32) (l4 : Int32) (M : jp_M) {res : Int32 × jp_M}, f_TT_placeOf_11 n  l1 l2 l3 l4 M = some res → ∀ p, p ∉ ([65, 66] : List Nat) → res.2 p = M p := by
  intro n
  induction n with
  | zero =>
    intro l1 l2 l3 l4 M res hf
    cases hf
  | succ n ih =>
    intro l1 l2 l3 l4 M res hf p hp
    rw [f_TT_placeOf_11] at hf
    rcases jif_d hf with ⟨h, hf⟩ | ⟨h, hf⟩
    · obtain rfl := Option.some.inj hf
      exact rfl
    · obtain ⟨q1, hc_1, hf⟩ := jbind hf
      rcases jif_d hf with ⟨h, hf⟩ | ⟨h, hf⟩
      · rcases jif_d hf with ⟨h, hf⟩ | ⟨h, hf⟩
        · exact (w_TT_placeOf_42 (fun l1 l2 l3 l4 M res hf => ih l1 l2 l3 l4 M hf) _ _ _ _ _ _ hf _ hp).trans rfl
        · exact (w_TT_placeOf_42 (fun l1 l2 l3 l4 M res hf => ih l1 l2 l3 l4 M hf) _ _ _ _ _ _ hf _ hp).trans rfl
      · obtain rfl := Option.some.inj hf
        exact rfl
theorem w_TT_placeOf {a1 : Int32} {M : jp_M} {res : Int32 × jp_M} (hf : f_TT_placeOf a1 M = some res) : ∀ p, p ∉ ([65, 66] : List Nat) → res.2 p = M p := by
  intro p hp
  unfold f_TT_placeOf at hf
  obtain ⟨q1, hc_1, hf⟩ := jbind hf
  exact (w_TT_placeOf_11 jFu _ _ _ _ _ hf _ hp).trans ((w_TT_learnsCites hc_1 _ (jout hp (by decide : (([65, 66] : List Nat)).all (fun x => (([65, 66] : List Nat)).contains x) = true))).trans rfl)
theorem w_TT_founds_49 {c9 : Int32 → Int32 → jp_M → Option (Int32 × jp_M)} (hc9 : ∀ (l2 : Int32) (l3 : Int32) (M : jp_M) (res : Int32 × jp_M), c9 l2 l3 M = some res → ∀ p, p ∉ ([65, 66] : List Nat) → res.2 p = M p) {c14 : Int32 → Int32 → Int32 → jp_M → Option (Int32 × jp_M)} (hc14 : ∀ (l2 : Int32) (l3 : Int32) (l4 : Int32) (M : jp_M) (res : Int32 × jp_M), c14 l2 l3 l4 M = some res → ∀ p, p ∉ ([65, 66] : List Nat) → res.2 p = M p) (l2 : Int32) (l3 : Int32) (l4 : Int32) (M : jp_M) {res : Int32 × jp_M} (hf : f_TT_founds_49 c9 c14 l2 l3 l4 M = some res) : ∀ p, p ∉ ([65, 66] : List Nat) → res.2 p = M p := by
  intro p hp
  unfold f_TT_founds_49 at hf
  exact (hc14 _ _ _ _ _ hf _ hp).trans rfl
theorem w_TT_founds_22 {c9 : Int32 → Int32 → jp_M → Option (Int32 × jp_M)} (hc9 : ∀ (l2 : Int32) (l3 : Int32) (M : jp_M) (res : Int32 × jp_M), c9 l2 l3 M = some res → ∀ p, p ∉ ([65, 66] : List Nat) → res.2 p = M p) : ∀ (n : Nat) (l2 : Int32) (l3 : Int32) (l4 : Int32) (M : jp_M) {res : Int32 × jp_M}, f_TT_founds_22 n c9 l2 l3 l4 M = some res → ∀ p, p ∉ ([65, 66] : List Nat) → res.2 p = M p := by
  intro n
  induction n with
  | zero =>
    intro l2 l3 l4 M res hf
    cases hf
  | succ n ih =>
    intro l2 l3 l4 M res hf p hp
    rw [f_TT_founds_22] at hf
    rcases jif_d hf with ⟨h, hf⟩ | ⟨h, hf⟩
    · exact (hc9 _ _ _ _ hf _ hp).trans rfl
    · rcases jif_d hf with ⟨h, hf⟩ | ⟨h, hf⟩
      · exact (w_TT_founds_49 hc9 (fun l2 l3 l4 M res hf => ih l2 l3 l4 M hf) _ _ _ _ hf _ hp).trans rfl
      · obtain ⟨hb1, hf⟩ := jg_some hf
        exact (w_TT_founds_49 hc9 (fun l2 l3 l4 M res hf => ih l2 l3 l4 M hf) _ _ _ _ hf _ hp).trans rfl
theorem w_TT_founds_13  : ∀ (n : Nat) (l2 : Int32) (l3 : Int32) (M : jp_M) {res : Int32 × jp_M}, f_TT_founds_13 n  l2 l3 M = some res → ∀ p, p ∉ ([65, 66] : List Nat) → res.2 p = M p := by
  intro n
  induction n with
  | zero =>
    intro l2 l3 M res hf
    cases hf
  | succ n ih =>
    intro l2 l3 M res hf p hp
    rw [f_TT_founds_13] at hf
    rcases jif_d hf with ⟨h, hf⟩ | ⟨h, hf⟩
    · obtain rfl := Option.some.inj hf
      exact rfl
    · exact (w_TT_founds_22 (fun l2 l3 M res hf => ih l2 l3 M hf) jFu _ _ _ _ hf _ hp).trans rfl
theorem w_TT_founds {a1 : Int32} {M : jp_M} {res : Int32 × jp_M} (hf : f_TT_founds a1 M = some res) : ∀ p, p ∉ ([65, 66] : List Nat) → res.2 p = M p := by
  intro p hp
  unfold f_TT_founds at hf
  obtain ⟨q1, hc_1, hf⟩ := jbind hf
  obtain ⟨hb2, hf⟩ := jg_some hf
  exact (w_TT_founds_13 jFu _ _ _ hf _ hp).trans ((w_TT_learnsCites hc_1 _ (jout hp (by decide : (([65, 66] : List Nat)).all (fun x => (([65, 66] : List Nat)).contains x) = true))).trans rfl)
theorem w_C_cites {a1 : Int32} {a2 : Int32} {M : jp_M} {res : Int32 × jp_M} (hf : f_C_cites a1 a2 M = some res) : ∀ p, p ∉ ([65, 66] : List Nat) → res.2 p = M p := by
  intro p hp
  unfold f_C_cites at hf
  rcases jif_d hf with ⟨h, hf⟩ | ⟨h, hf⟩
  · rcases jif_d hf with ⟨h, hf⟩ | ⟨h, hf⟩
    · obtain ⟨q2, hc_2, hf⟩ := jbind hf
      obtain rfl := Option.some.inj hf
      exact ((w_TT_founds hc_2 _ (jout hp (by decide : (([65, 66] : List Nat)).all (fun x => (([65, 66] : List Nat)).contains x) = true))).trans rfl)
    · rcases jif_d hf with ⟨h, hf⟩ | ⟨h, hf⟩
      · obtain ⟨q3, hc_3, hf⟩ := jbind hf
        obtain rfl := Option.some.inj hf
        exact ((w_TT_placeOf hc_3 _ (jout hp (by decide : (([65, 66] : List Nat)).all (fun x => (([65, 66] : List Nat)).contains x) = true))).trans rfl)
      · obtain rfl := Option.some.inj hf
        exact rfl
  · obtain rfl := Option.some.inj hf
    exact rfl
theorem w_C_voice {a1 : Int32} {a2 : Int32} {M : jp_M} {res : Int32 × jp_M} (hf : f_C_voice a1 a2 M = some res) : ∀ p, p ∉ ([24] : List Nat) → res.2 p = M p := by
  intro p hp
  unfold f_C_voice at hf
  rcases jif_d hf with ⟨h, hf⟩ | ⟨h, hf⟩
  · obtain rfl := Option.some.inj hf
    exact rfl
  · rcases jif_d hf with ⟨h, hf⟩ | ⟨h, hf⟩
    · obtain ⟨hb4, hf⟩ := jg_some hf
      obtain rfl := Option.some.inj hf
      exact ((jp_set_ne (jne hp (by decide : 24 ∈ ([24] : List Nat)))).trans rfl)
    · obtain rfl := Option.some.inj hf
      exact rfl
theorem w_TT_choosesCallers_54 {c10 : Int32 → Int32 → jp_M → Option (jp_M)} (hc10 : ∀ (l1 : Int32) (l2 : Int32) (M : jp_M) (res : jp_M), c10 l1 l2 M = some res → ∀ p, p ∉ ([61] : List Nat) → res p = M p) (l1 : Int32) (l2 : Int32) (M : jp_M) {res : jp_M} (hf : f_TT_choosesCallers_54 c10 l1 l2 M = some res) : ∀ p, p ∉ ([61] : List Nat) → res p = M p := by
  intro p hp
  unfold f_TT_choosesCallers_54 at hf
  exact (hc10 _ _ _ _ hf _ hp).trans rfl
theorem w_TT_choosesCallers_17  : ∀ (n : Nat) (l1 : Int32) (l2 : Int32) (M : jp_M) {res : jp_M}, f_TT_choosesCallers_17 n  l1 l2 M = some res → ∀ p, p ∉ ([61] : List Nat) → res p = M p := by
  intro n
  induction n with
  | zero =>
    intro l1 l2 M res hf
    cases hf
  | succ n ih =>
    intro l1 l2 M res hf p hp
    rw [f_TT_choosesCallers_17] at hf
    rcases jif_d hf with ⟨h, hf⟩ | ⟨h, hf⟩
    · obtain rfl := Option.some.inj hf
      exact rfl
    · rcases jif_d hf with ⟨h, hf⟩ | ⟨h, hf⟩
      · exact (w_TT_choosesCallers_54 (fun l1 l2 M res hf => ih l1 l2 M hf) _ _ _ hf _ hp).trans rfl
      · obtain ⟨q2, hc_2, hf⟩ := jbind hf
        rcases jif_d hf with ⟨h, hf⟩ | ⟨h, hf⟩
        · exact (w_TT_choosesCallers_54 (fun l1 l2 M res hf => ih l1 l2 M hf) _ _ _ hf _ hp).trans rfl
        · exact (w_TT_choosesCallers_54 (fun l1 l2 M res hf => ih l1 l2 M hf) _ _ _ hf _ hp).trans ((jp_set_ne (jne hp (by decide : 61 ∈ ([61] : List Nat)))).trans ((jp_set_ne (jne hp (by decide : 61 ∈ ([61] : List Nat)))).trans rfl))
theorem w_TT_choosesCallers {M : jp_M} {res : jp_M} (hf : f_TT_choosesCallers M = some res) : ∀ p, p ∉ ([61] : List Nat) → res p = M p := by
  intro p hp
  unfold f_TT_choosesCallers at hf
  exact (w_TT_choosesCallers_17 jFu _ _ _ hf _ hp).trans ((jp_set_ne (jne hp (by decide : 61 ∈ ([61] : List Nat)))).trans ((jp_set_ne (jne hp (by decide : 61 ∈ ([61] : List Nat)))).trans rfl))
theorem w_C_asked {a1 : Int32} {M : jp_M} {res : Int32 × jp_M} (hf : f_C_asked a1 M = some res) : ∀ p, p ∉ ([61] : List Nat) → res.2 p = M p := by
  intro p hp
  unfold f_C_asked at hf
  rcases jif_d hf with ⟨h, hf⟩ | ⟨h, hf⟩
  · obtain ⟨q2, hc_2, hf⟩ := jbind hf
    rcases jif_d hf with ⟨h, hf⟩ | ⟨h, hf⟩
    · obtain rfl := Option.some.inj hf
      exact ((w_TT_choosesCallers hc_2 _ (jout hp (by decide : (([61] : List Nat)).all (fun x => (([61] : List Nat)).contains x) = true))).trans rfl)
    · obtain rfl := Option.some.inj hf
      exact ((w_TT_choosesCallers hc_2 _ (jout hp (by decide : (([61] : List Nat)).all (fun x => (([61] : List Nat)).contains x) = true))).trans rfl)
  · obtain rfl := Option.some.inj hf
    exact rfl
theorem w_T_freeFromGround {a1 : Int32} {M : jp_M} {res : Int32 × jp_M} (hf : f_T_freeFromGround a1 M = some res) : ∀ p, p ∉ ([57] : List Nat) → res.2 p = M p := by
  intro p hp
  unfold f_T_freeFromGround at hf
  obtain ⟨q1, hc_1, hf⟩ := jbind hf
  obtain ⟨q2, hc_2, hf⟩ := jbind hf
  obtain rfl := Option.some.inj hf
  exact ((w_T_learnsFree hc_1 _ (jout hp (by decide : (([57] : List Nat)).all (fun x => (([57] : List Nat)).contains x) = true))).trans rfl)
theorem w_C_upright {a1 : Int32} {a2 : Int32} {M : jp_M} {res : Int32 × jp_M} (hf : f_C_upright a1 a2 M = some res) : ∀ p, p ∉ ([57] : List Nat) → res.2 p = M p := by
  intro p hp
  unfold f_C_upright at hf
  rcases jif_d hf with ⟨h, hf⟩ | ⟨h, hf⟩
  · obtain rfl := Option.some.inj hf
    exact rfl
  · rcases jif_d hf with ⟨h, hf⟩ | ⟨h, hf⟩
    · obtain ⟨hb3, hf⟩ := jg_some hf
      obtain ⟨q4, hc_4, hf⟩ := jbind hf
      rcases jif_d hf with ⟨h, hf⟩ | ⟨h, hf⟩
      · obtain ⟨hb5, hf⟩ := jg_some hf
        obtain ⟨hb6, hf⟩ := jg_some hf
        rcases jif_d hf with ⟨h, hf⟩ | ⟨h, hf⟩
        · obtain rfl := Option.some.inj hf
          exact ((w_T_freeFromGround hc_4 _ (jout hp (by decide : (([57] : List Nat)).all (fun x => (([57] : List Nat)).contains x) = true))).trans rfl)
        · obtain rfl := Option.some.inj hf
          exact ((w_T_freeFromGround hc_4 _ (jout hp (by decide : (([57] : List Nat)).all (fun x => (([57] : List Nat)).contains x) = true))).trans rfl)
      · obtain rfl := Option.some.inj hf
        exact ((w_T_freeFromGround hc_4 _ (jout hp (by decide : (([57] : List Nat)).all (fun x => (([57] : List Nat)).contains x) = true))).trans rfl)
    · obtain rfl := Option.some.inj hf
      exact rfl
theorem w_C_point {a1 : Int32} {a2 : Int32} {a3 : Int32} {a4 : Int32} {M : jp_M} {res : Int32 × jp_M} (hf : f_C_point a1 a2 a3 a4 M = some res) : ∀ p, p ∉ ([19, 22] : List Nat) → res.2 p = M p := by
  intro p hp
  unfold f_C_point at hf
  rcases jif_d hf with ⟨h, hf⟩ | ⟨h, hf⟩
  · rcases jif_d hf with ⟨h, hf⟩ | ⟨h, hf⟩
    · obtain rfl := Option.some.inj hf
      exact rfl
    · rcases jif_d hf with ⟨h, hf⟩ | ⟨h, hf⟩
      · obtain rfl := Option.some.inj hf
        exact rfl
      · rcases jif_d hf with ⟨h, hf⟩ | ⟨h, hf⟩
        · obtain rfl := Option.some.inj hf
          exact rfl
        · rcases jif_d hf with ⟨h, hf⟩ | ⟨h, hf⟩
          · obtain rfl := Option.some.inj hf
            exact rfl
          · rcases jif_d hf with ⟨h, hf⟩ | ⟨h, hf⟩
            · obtain ⟨hb6, hf⟩ := jg_some hf
              obtain ⟨hb8, hf⟩ := jg_some hf
              obtain ⟨hb10, hf⟩ := jg_some hf
              obtain ⟨hb12, hf⟩ := jg_some hf
              obtain rfl := Option.some.inj hf
              exact ((jp_set_ne (jne hp (by decide : 19 ∈ ([19, 22] : List Nat)))).trans ((jp_set_ne (jne hp (by decide : 22 ∈ ([19, 22] : List Nat)))).trans ((jp_set_ne (jne hp (by decide : 22 ∈ ([19, 22] : List Nat)))).trans ((jp_set_ne (jne hp (by decide : 22 ∈ ([19, 22] : List Nat)))).trans ((jp_set_ne (jne hp (by decide : 22 ∈ ([19, 22] : List Nat)))).trans rfl)))))
            · obtain rfl := Option.some.inj hf
              exact rfl
  · obtain rfl := Option.some.inj hf
    exact ((jp_set_ne (jne hp (by decide : 19 ∈ ([19, 22] : List Nat)))).trans rfl)
theorem w_TT_arbitrates_130 {c8 : Int32 → jp_M → Option (jp_M)} (hc8 : ∀ (l1 : Int32) (M : jp_M) (res : jp_M), c8 l1 M = some res → ∀ p, p ∉ ([61] : List Nat) → res p = M p) (l1 : Int32) (s1 : Int32) (s2 : Int32) (M : jp_M) {res : jp_M} (hf : f_TT_arbitrates_130 c8 l1 s1 s2 M = some res) : ∀ p, p ∉ ([61] : List Nat) → res p = M p := by
  intro p hp
  unfold f_TT_arbitrates_130 at hf
  exact (hc8 _ _ _ hf _ hp).trans ((jp_set_ne (jne hp (by decide : 61 ∈ ([61] : List Nat)))).trans rfl)
theorem w_TT_arbitrates_110 {c8 : Int32 → jp_M → Option (jp_M)} (hc8 : ∀ (l1 : Int32) (M : jp_M) (res : jp_M), c8 l1 M = some res → ∀ p, p ∉ ([61] : List Nat) → res p = M p) (l1 : Int32) (l5 : Int32) (s1 : Int32) (s2 : Int32) (s3 : Int32) (M : jp_M) {res : jp_M} (hf : f_TT_arbitrates_110 c8 l1 l5 s1 s2 s3 M = some res) : ∀ p, p ∉ ([61] : List Nat) → res p = M p := by
  intro p hp
  unfold f_TT_arbitrates_110 at hf
  rcases jif_d hf with ⟨h, hf⟩ | ⟨h, hf⟩
  · exact (w_TT_arbitrates_130 hc8 _ _ _ _ hf _ hp).trans ((jp_set_ne (jne hp (by decide : 61 ∈ ([61] : List Nat)))).trans rfl)
  · exact (w_TT_arbitrates_130 hc8 _ _ _ _ hf _ hp).trans ((jp_set_ne (jne hp (by decide : 61 ∈ ([61] : List Nat)))).trans rfl)
theorem w_TT_arbitrates_82 {c8 : Int32 → jp_M → Option (jp_M)} (hc8 : ∀ (l1 : Int32) (M : jp_M) (res : jp_M), c8 l1 M = some res → ∀ p, p ∉ ([61] : List Nat) → res p = M p) (l1 : Int32) (l2 : Int32) (l3 : Int32) (s0 : Int32) (M : jp_M) {res : jp_M} (hf : f_TT_arbitrates_82 c8 l1 l2 l3 s0 M = some res) : ∀ p, p ∉ ([61] : List Nat) → res p = M p := by
  intro p hp
  unfold f_TT_arbitrates_82 at hf
  obtain ⟨hb1, hf⟩ := jg_some hf
  rcases jif_d hf with ⟨h, hf⟩ | ⟨h, hf⟩
  · exact (w_TT_arbitrates_110 hc8 _ _ _ _ _ _ hf _ hp).trans rfl
  · exact (w_TT_arbitrates_110 hc8 _ _ _ _ _ _ hf _ hp).trans rfl
theorem w_TT_arbitrates_12  : ∀ (n : Nat) (l1 : Int32) (M : jp_M) {res : jp_M}, f_TT_arbitrates_12 n  l1 M = some res → ∀ p, p ∉ ([61] : List Nat) → res p = M p := by
  intro n
  induction n with
  | zero =>
    intro l1 M res hf
    cases hf
  | succ n ih =>
    intro l1 M res hf p hp
    rw [f_TT_arbitrates_12] at hf
    rcases jif_d hf with ⟨h, hf⟩ | ⟨h, hf⟩
    · obtain rfl := Option.some.inj hf
      exact rfl
    · obtain ⟨hb1, hf⟩ := jg_some hf
      obtain ⟨hb2, hf⟩ := jg_some hf
      obtain ⟨hb3, hf⟩ := jg_some hf
      rcases jif_d hf with ⟨h, hf⟩ | ⟨h, hf⟩
      · exact (w_TT_arbitrates_82 (fun l1 M res hf => ih l1 M hf) _ _ _ _ _ hf _ hp).trans rfl
      · exact (w_TT_arbitrates_82 (fun l1 M res hf => ih l1 M hf) _ _ _ _ _ hf _ hp).trans rfl
theorem w_TT_arbitrates {M : jp_M} {res : jp_M} (hf : f_TT_arbitrates M = some res) : ∀ p, p ∉ ([61] : List Nat) → res p = M p := by
  intro p hp
  unfold f_TT_arbitrates at hf
  exact (w_TT_arbitrates_12 jFu _ _ hf _ hp).trans ((jp_set_ne (jne hp (by decide : 61 ∈ ([61] : List Nat)))).trans ((jp_set_ne (jne hp (by decide : 61 ∈ ([61] : List Nat)))).trans rfl))
theorem w_C_arbiter {a1 : Int32} {M : jp_M} {res : Int32 × jp_M} (hf : f_C_arbiter a1 M = some res) : ∀ p, p ∉ ([61] : List Nat) → res.2 p = M p := by
  intro p hp
  unfold f_C_arbiter at hf
  rcases jif_d hf with ⟨h, hf⟩ | ⟨h, hf⟩
  · obtain ⟨q2, hc_2, hf⟩ := jbind hf
    rcases jif_d hf with ⟨h, hf⟩ | ⟨h, hf⟩
    · obtain rfl := Option.some.inj hf
      exact ((w_TT_arbitrates hc_2 _ (jout hp (by decide : (([61] : List Nat)).all (fun x => (([61] : List Nat)).contains x) = true))).trans rfl)
    · obtain rfl := Option.some.inj hf
      exact ((w_TT_arbitrates hc_2 _ (jout hp (by decide : (([61] : List Nat)).all (fun x => (([61] : List Nat)).contains x) = true))).trans rfl)
  · obtain rfl := Option.some.inj hf
    exact rfl
theorem w_T_leapWays_40 {c10 : Int32 → Int32 → Int32 → Int32 → Int32 → jp_M → Option (Int32 × jp_M)} (hc10 : ∀ (l1 : Int32) (l2 : Int32) (l3 : Int32) (l4 : Int32) (l5 : Int32) (M : jp_M) (res : Int32 × jp_M), c10 l1 l2 l3 l4 l5 M = some res → ∀ p, p ∉ ([57] : List Nat) → res.2 p = M p) (l1 : Int32) (l2 : Int32) (l4 : Int32) (l5 : Int32) (s0 : Int32) (M : jp_M) {res : Int32 × jp_M} (hf : f_T_leapWays_40 c10 l1 l2 l4 l5 s0 M = some res) : ∀ p, p ∉ ([57] : List Nat) → res.2 p = M p := by
  intro p hp
  unfold f_T_leapWays_40 at hf
  exact (hc10 _ _ _ _ _ _ _ hf _ hp).trans rfl
theorem w_T_leapWays_14  : ∀ (n : Nat) (l1 : Int32) (l2 : Int32) (l3 : Int32) (l4 : Int32) (l5 : Int32) (M : jp_M) {res : Int32 × jp_M}, f_T_leapWays_14 n  l1 l2 l3 l4 l5 M = some res → ∀ p, p ∉ ([57] : List Nat) → res.2 p = M p := by
  intro n
  induction n with
  | zero =>
    intro l1 l2 l3 l4 l5 M res hf
    cases hf
  | succ n ih =>
    intro l1 l2 l3 l4 l5 M res hf p hp
    rw [f_T_leapWays_14] at hf
    rcases jif_d hf with ⟨h, hf⟩ | ⟨h, hf⟩
    · obtain rfl := Option.some.inj hf
      exact rfl
    · obtain ⟨q1, hc_1, hf⟩ := jbind hf
      rcases jif_d hf with ⟨h, hf⟩ | ⟨h, hf⟩
      · exact (w_T_leapWays_40 (fun l1 l2 l3 l4 l5 M res hf => ih l1 l2 l3 l4 l5 M hf) _ _ _ _ _ _ hf _ hp).trans rfl
      · exact (w_T_leapWays_40 (fun l1 l2 l3 l4 l5 M res hf => ih l1 l2 l3 l4 l5 M hf) _ _ _ _ _ _ hf _ hp).trans rfl
theorem w_T_leapWays {a1 : Int32} {M : jp_M} {res : Int32 × jp_M} (hf : f_T_leapWays a1 M = some res) : ∀ p, p ∉ ([57] : List Nat) → res.2 p = M p := by
  intro p hp
  unfold f_T_leapWays at hf
  obtain ⟨q1, hc_1, hf⟩ := jbind hf
  exact (w_T_leapWays_14 jFu _ _ _ _ _ _ hf _ hp).trans ((w_T_learnsFree hc_1 _ (jout hp (by decide : (([57] : List Nat)).all (fun x => (([57] : List Nat)).contains x) = true))).trans rfl)
theorem w_C_leaps {a1 : Int32} {M : jp_M} {res : Int32 × jp_M} (hf : f_C_leaps a1 M = some res) : ∀ p, p ∉ ([57] : List Nat) → res.2 p = M p := by
  intro p hp
  unfold f_C_leaps at hf
  rcases jif_d hf with ⟨h, hf⟩ | ⟨h, hf⟩
  · obtain rfl := Option.some.inj hf
    exact rfl
  · rcases jif_d hf with ⟨h, hf⟩ | ⟨h, hf⟩
    · obtain ⟨q1, hc_1, hf⟩ := jbind hf
      obtain rfl := Option.some.inj hf
      exact ((w_T_leapWays hc_1 _ (jout hp (by decide : (([57] : List Nat)).all (fun x => (([57] : List Nat)).contains x) = true))).trans rfl)
    · obtain rfl := Option.some.inj hf
      exact rfl
theorem w_W_becomes_8 {M : jp_M} {res : jp_M} (hf : f_W_becomes_8 M = res) : ∀ p, p ∉ ([2, 3, 4, 5] : List Nat) → res p = M p := by
  intro p hp
  unfold f_W_becomes_8 at hf
  subst hf
  exact ((jp_set_ne (jne hp (by decide : 5 ∈ ([2, 3, 4, 5] : List Nat)))).trans ((jp_set_ne (jne hp (by decide : 4 ∈ ([2, 3, 4, 5] : List Nat)))).trans ((jp_set_ne (jne hp (by decide : 3 ∈ ([2, 3, 4, 5] : List Nat)))).trans ((jp_set_ne (jne hp (by decide : 2 ∈ ([2, 3, 4, 5] : List Nat)))).trans ((jp_set_ne (jne hp (by decide : 2 ∈ ([2, 3, 4, 5] : List Nat)))).trans ((jp_set_ne (jne hp (by decide : 2 ∈ ([2, 3, 4, 5] : List Nat)))).trans ((jp_set_ne (jne hp (by decide : 2 ∈ ([2, 3, 4, 5] : List Nat)))).trans ((jp_set_ne (jne hp (by decide : 2 ∈ ([2, 3, 4, 5] : List Nat)))).trans ((jp_set_ne (jne hp (by decide : 2 ∈ ([2, 3, 4, 5] : List Nat)))).trans ((jp_set_ne (jne hp (by decide : 2 ∈ ([2, 3, 4, 5] : List Nat)))).trans ((jp_set_ne (jne hp (by decide : 2 ∈ ([2, 3, 4, 5] : List Nat)))).trans rfl)))))))))))
theorem w_W_becomes_9 {M : jp_M} {res : jp_M} (hf : f_W_becomes_9 M = res) : ∀ p, p ∉ ([2, 3, 4, 5] : List Nat) → res p = M p := by
  intro p hp
  unfold f_W_becomes_9 at hf
  subst hf
  exact ((jp_set_ne (jne hp (by decide : 5 ∈ ([2, 3, 4, 5] : List Nat)))).trans ((jp_set_ne (jne hp (by decide : 4 ∈ ([2, 3, 4, 5] : List Nat)))).trans ((jp_set_ne (jne hp (by decide : 3 ∈ ([2, 3, 4, 5] : List Nat)))).trans ((jp_set_ne (jne hp (by decide : 2 ∈ ([2, 3, 4, 5] : List Nat)))).trans ((jp_set_ne (jne hp (by decide : 2 ∈ ([2, 3, 4, 5] : List Nat)))).trans ((jp_set_ne (jne hp (by decide : 2 ∈ ([2, 3, 4, 5] : List Nat)))).trans ((jp_set_ne (jne hp (by decide : 2 ∈ ([2, 3, 4, 5] : List Nat)))).trans ((jp_set_ne (jne hp (by decide : 2 ∈ ([2, 3, 4, 5] : List Nat)))).trans ((jp_set_ne (jne hp (by decide : 2 ∈ ([2, 3, 4, 5] : List Nat)))).trans ((jp_set_ne (jne hp (by decide : 2 ∈ ([2, 3, 4, 5] : List Nat)))).trans ((jp_set_ne (jne hp (by decide : 2 ∈ ([2, 3, 4, 5] : List Nat)))).trans rfl)))))))))))
theorem w_W_becomes_10 {M : jp_M} {res : jp_M} (hf : f_W_becomes_10 M = res) : ∀ p, p ∉ ([2, 3, 4, 5] : List Nat) → res p = M p := by
  intro p hp
  unfold f_W_becomes_10 at hf
  subst hf
  exact ((jp_set_ne (jne hp (by decide : 5 ∈ ([2, 3, 4, 5] : List Nat)))).trans ((jp_set_ne (jne hp (by decide : 4 ∈ ([2, 3, 4, 5] : List Nat)))).trans ((jp_set_ne (jne hp (by decide : 3 ∈ ([2, 3, 4, 5] : List Nat)))).trans ((jp_set_ne (jne hp (by decide : 2 ∈ ([2, 3, 4, 5] : List Nat)))).trans ((jp_set_ne (jne hp (by decide : 2 ∈ ([2, 3, 4, 5] : List Nat)))).trans ((jp_set_ne (jne hp (by decide : 2 ∈ ([2, 3, 4, 5] : List Nat)))).trans ((jp_set_ne (jne hp (by decide : 2 ∈ ([2, 3, 4, 5] : List Nat)))).trans ((jp_set_ne (jne hp (by decide : 2 ∈ ([2, 3, 4, 5] : List Nat)))).trans ((jp_set_ne (jne hp (by decide : 2 ∈ ([2, 3, 4, 5] : List Nat)))).trans ((jp_set_ne (jne hp (by decide : 2 ∈ ([2, 3, 4, 5] : List Nat)))).trans ((jp_set_ne (jne hp (by decide : 2 ∈ ([2, 3, 4, 5] : List Nat)))).trans rfl)))))))))))
theorem w_W_becomes_11 {M : jp_M} {res : jp_M} (hf : f_W_becomes_11 M = res) : ∀ p, p ∉ ([2, 3, 4, 5] : List Nat) → res p = M p := by
  intro p hp
  unfold f_W_becomes_11 at hf
  subst hf
  exact ((jp_set_ne (jne hp (by decide : 5 ∈ ([2, 3, 4, 5] : List Nat)))).trans ((jp_set_ne (jne hp (by decide : 4 ∈ ([2, 3, 4, 5] : List Nat)))).trans ((jp_set_ne (jne hp (by decide : 3 ∈ ([2, 3, 4, 5] : List Nat)))).trans ((jp_set_ne (jne hp (by decide : 2 ∈ ([2, 3, 4, 5] : List Nat)))).trans ((jp_set_ne (jne hp (by decide : 2 ∈ ([2, 3, 4, 5] : List Nat)))).trans ((jp_set_ne (jne hp (by decide : 2 ∈ ([2, 3, 4, 5] : List Nat)))).trans ((jp_set_ne (jne hp (by decide : 2 ∈ ([2, 3, 4, 5] : List Nat)))).trans ((jp_set_ne (jne hp (by decide : 2 ∈ ([2, 3, 4, 5] : List Nat)))).trans ((jp_set_ne (jne hp (by decide : 2 ∈ ([2, 3, 4, 5] : List Nat)))).trans ((jp_set_ne (jne hp (by decide : 2 ∈ ([2, 3, 4, 5] : List Nat)))).trans ((jp_set_ne (jne hp (by decide : 2 ∈ ([2, 3, 4, 5] : List Nat)))).trans rfl)))))))))))
theorem w_W_becomes_12 {M : jp_M} {res : jp_M} (hf : f_W_becomes_12 M = res) : ∀ p, p ∉ ([2, 3, 4, 5] : List Nat) → res p = M p := by
  intro p hp
  unfold f_W_becomes_12 at hf
  subst hf
  exact ((jp_set_ne (jne hp (by decide : 5 ∈ ([2, 3, 4, 5] : List Nat)))).trans ((jp_set_ne (jne hp (by decide : 4 ∈ ([2, 3, 4, 5] : List Nat)))).trans ((jp_set_ne (jne hp (by decide : 3 ∈ ([2, 3, 4, 5] : List Nat)))).trans ((jp_set_ne (jne hp (by decide : 2 ∈ ([2, 3, 4, 5] : List Nat)))).trans ((jp_set_ne (jne hp (by decide : 2 ∈ ([2, 3, 4, 5] : List Nat)))).trans ((jp_set_ne (jne hp (by decide : 2 ∈ ([2, 3, 4, 5] : List Nat)))).trans ((jp_set_ne (jne hp (by decide : 2 ∈ ([2, 3, 4, 5] : List Nat)))).trans ((jp_set_ne (jne hp (by decide : 2 ∈ ([2, 3, 4, 5] : List Nat)))).trans ((jp_set_ne (jne hp (by decide : 2 ∈ ([2, 3, 4, 5] : List Nat)))).trans ((jp_set_ne (jne hp (by decide : 2 ∈ ([2, 3, 4, 5] : List Nat)))).trans ((jp_set_ne (jne hp (by decide : 2 ∈ ([2, 3, 4, 5] : List Nat)))).trans rfl)))))))))))
theorem w_W_becomes_13 {M : jp_M} {res : jp_M} (hf : f_W_becomes_13 M = res) : ∀ p, p ∉ ([2, 3, 4, 5] : List Nat) → res p = M p := by
  intro p hp
  unfold f_W_becomes_13 at hf
  subst hf
  exact ((jp_set_ne (jne hp (by decide : 5 ∈ ([2, 3, 4, 5] : List Nat)))).trans ((jp_set_ne (jne hp (by decide : 4 ∈ ([2, 3, 4, 5] : List Nat)))).trans ((jp_set_ne (jne hp (by decide : 3 ∈ ([2, 3, 4, 5] : List Nat)))).trans ((jp_set_ne (jne hp (by decide : 2 ∈ ([2, 3, 4, 5] : List Nat)))).trans ((jp_set_ne (jne hp (by decide : 2 ∈ ([2, 3, 4, 5] : List Nat)))).trans ((jp_set_ne (jne hp (by decide : 2 ∈ ([2, 3, 4, 5] : List Nat)))).trans ((jp_set_ne (jne hp (by decide : 2 ∈ ([2, 3, 4, 5] : List Nat)))).trans ((jp_set_ne (jne hp (by decide : 2 ∈ ([2, 3, 4, 5] : List Nat)))).trans ((jp_set_ne (jne hp (by decide : 2 ∈ ([2, 3, 4, 5] : List Nat)))).trans ((jp_set_ne (jne hp (by decide : 2 ∈ ([2, 3, 4, 5] : List Nat)))).trans ((jp_set_ne (jne hp (by decide : 2 ∈ ([2, 3, 4, 5] : List Nat)))).trans rfl)))))))))))
theorem w_C_undo {M : jp_M} {res : Int32 × jp_M} (hf : f_C_undo M = some res) : ∀ p, p ∉ ([0, 2, 3, 4, 5] : List Nat) → res.2 p = M p := by
  intro p hp
  unfold f_C_undo at hf
  rcases jif_d hf with ⟨h, hf⟩ | ⟨h, hf⟩
  · obtain ⟨_, hf⟩ := jg_some hf
    rcases jif_d hf with ⟨h, hf⟩ | ⟨h, hf⟩
    · obtain rfl := Option.some.inj hf
      exact ((jp_set_ne (jne hp (by decide : 0 ∈ ([0, 2, 3, 4, 5] : List Nat)))).trans ((jp_set_ne (jne hp (by decide : 0 ∈ ([0, 2, 3, 4, 5] : List Nat)))).trans ((w_W_becomes_8 rfl _ (jout hp (by decide : (([2, 3, 4, 5] : List Nat)).all (fun x => (([0, 2, 3, 4, 5] : List Nat)).contains x) = true))).trans rfl)))
    · rcases jif_d hf with ⟨h, hf⟩ | ⟨h, hf⟩
      · obtain rfl := Option.some.inj hf
        exact ((jp_set_ne (jne hp (by decide : 0 ∈ ([0, 2, 3, 4, 5] : List Nat)))).trans ((jp_set_ne (jne hp (by decide : 0 ∈ ([0, 2, 3, 4, 5] : List Nat)))).trans ((w_W_becomes_9 rfl _ (jout hp (by decide : (([2, 3, 4, 5] : List Nat)).all (fun x => (([0, 2, 3, 4, 5] : List Nat)).contains x) = true))).trans rfl)))
      · rcases jif_d hf with ⟨h, hf⟩ | ⟨h, hf⟩
        · obtain rfl := Option.some.inj hf
          exact ((jp_set_ne (jne hp (by decide : 0 ∈ ([0, 2, 3, 4, 5] : List Nat)))).trans ((jp_set_ne (jne hp (by decide : 0 ∈ ([0, 2, 3, 4, 5] : List Nat)))).trans ((w_W_becomes_10 rfl _ (jout hp (by decide : (([2, 3, 4, 5] : List Nat)).all (fun x => (([0, 2, 3, 4, 5] : List Nat)).contains x) = true))).trans rfl)))
        · rcases jif_d hf with ⟨h, hf⟩ | ⟨h, hf⟩
          · obtain rfl := Option.some.inj hf
            exact ((jp_set_ne (jne hp (by decide : 0 ∈ ([0, 2, 3, 4, 5] : List Nat)))).trans ((jp_set_ne (jne hp (by decide : 0 ∈ ([0, 2, 3, 4, 5] : List Nat)))).trans ((w_W_becomes_11 rfl _ (jout hp (by decide : (([2, 3, 4, 5] : List Nat)).all (fun x => (([0, 2, 3, 4, 5] : List Nat)).contains x) = true))).trans rfl)))
          · rcases jif_d hf with ⟨h, hf⟩ | ⟨h, hf⟩
            · obtain rfl := Option.some.inj hf
              exact ((jp_set_ne (jne hp (by decide : 0 ∈ ([0, 2, 3, 4, 5] : List Nat)))).trans ((jp_set_ne (jne hp (by decide : 0 ∈ ([0, 2, 3, 4, 5] : List Nat)))).trans ((w_W_becomes_12 rfl _ (jout hp (by decide : (([2, 3, 4, 5] : List Nat)).all (fun x => (([0, 2, 3, 4, 5] : List Nat)).contains x) = true))).trans rfl)))
            · rcases jif_d hf with ⟨h, hf⟩ | ⟨h, hf⟩
              · obtain rfl := Option.some.inj hf
                exact ((jp_set_ne (jne hp (by decide : 0 ∈ ([0, 2, 3, 4, 5] : List Nat)))).trans ((jp_set_ne (jne hp (by decide : 0 ∈ ([0, 2, 3, 4, 5] : List Nat)))).trans ((w_W_becomes_13 rfl _ (jout hp (by decide : (([2, 3, 4, 5] : List Nat)).all (fun x => (([0, 2, 3, 4, 5] : List Nat)).contains x) = true))).trans rfl)))
              · cases hf
  · obtain rfl := Option.some.inj hf
    exact rfl
theorem w_W_becomes_14 {M : jp_M} {res : jp_M} (hf : f_W_becomes_14 M = res) : ∀ p, p ∉ ([26, 27, 28, 29] : List Nat) → res p = M p := by
  intro p hp
  unfold f_W_becomes_14 at hf
  subst hf
  exact ((jp_set_ne (jne hp (by decide : 29 ∈ ([26, 27, 28, 29] : List Nat)))).trans ((jp_set_ne (jne hp (by decide : 28 ∈ ([26, 27, 28, 29] : List Nat)))).trans ((jp_set_ne (jne hp (by decide : 27 ∈ ([26, 27, 28, 29] : List Nat)))).trans ((jp_set_ne (jne hp (by decide : 26 ∈ ([26, 27, 28, 29] : List Nat)))).trans ((jp_set_ne (jne hp (by decide : 26 ∈ ([26, 27, 28, 29] : List Nat)))).trans ((jp_set_ne (jne hp (by decide : 26 ∈ ([26, 27, 28, 29] : List Nat)))).trans ((jp_set_ne (jne hp (by decide : 26 ∈ ([26, 27, 28, 29] : List Nat)))).trans ((jp_set_ne (jne hp (by decide : 26 ∈ ([26, 27, 28, 29] : List Nat)))).trans ((jp_set_ne (jne hp (by decide : 26 ∈ ([26, 27, 28, 29] : List Nat)))).trans ((jp_set_ne (jne hp (by decide : 26 ∈ ([26, 27, 28, 29] : List Nat)))).trans ((jp_set_ne (jne hp (by decide : 26 ∈ ([26, 27, 28, 29] : List Nat)))).trans rfl)))))))))))
theorem w_L_becomes_1 {M : jp_M} {res : jp_M} (hf : f_L_becomes_1 M = some res) : ∀ p, p ∉ ([31, 32, 33, 34, 35] : List Nat) → res p = M p := by
  intro p hp
  unfold f_L_becomes_1 at hf
  obtain ⟨hb4, hf⟩ := jg_some hf
  obtain ⟨hb6, hf⟩ := jg_some hf
  obtain ⟨hb8, hf⟩ := jg_some hf
  obtain ⟨hb10, hf⟩ := jg_some hf
  obtain rfl := Option.some.inj hf
  exact ((jp_set_ne (jne hp (by decide : 35 ∈ ([31, 32, 33, 34, 35] : List Nat)))).trans ((jp_set_ne (jne hp (by decide : 34 ∈ ([31, 32, 33, 34, 35] : List Nat)))).trans ((jp_set_ne (jne hp (by decide : 33 ∈ ([31, 32, 33, 34, 35] : List Nat)))).trans ((jp_set_ne (jne hp (by decide : 32 ∈ ([31, 32, 33, 34, 35] : List Nat)))).trans ((jp_set_ne (jne hp (by decide : 31 ∈ ([31, 32, 33, 34, 35] : List Nat)))).trans ((jp_set_ne (jne hp (by decide : 31 ∈ ([31, 32, 33, 34, 35] : List Nat)))).trans rfl))))))
theorem w_S_becomes_2 {M : jp_M} {res : jp_M} (hf : f_S_becomes_2 M = some res) : ∀ p, p ∉ ([38, 39] : List Nat) → res p = M p := by
  intro p hp
  unfold f_S_becomes_2 at hf
  obtain ⟨hb3, hf⟩ := jg_some hf
  obtain rfl := Option.some.inj hf
  exact ((jp_set_ne (jne hp (by decide : 39 ∈ ([38, 39] : List Nat)))).trans ((jp_set_ne (jne hp (by decide : 38 ∈ ([38, 39] : List Nat)))).trans rfl))
theorem w_S_becomes_3 {M : jp_M} {res : jp_M} (hf : f_S_becomes_3 M = some res) : ∀ p, p ∉ ([41, 42] : List Nat) → res p = M p := by
  intro p hp
  unfold f_S_becomes_3 at hf
  obtain ⟨hb3, hf⟩ := jg_some hf
  obtain rfl := Option.some.inj hf
  exact ((jp_set_ne (jne hp (by decide : 42 ∈ ([41, 42] : List Nat)))).trans ((jp_set_ne (jne hp (by decide : 41 ∈ ([41, 42] : List Nat)))).trans rfl))
theorem w_D_becomes {M : jp_M} {res : jp_M} (hf : f_D_becomes M = res) : ∀ p, p ∉ ([43, 44, 45, 46, 47, 48] : List Nat) → res p = M p := by
  intro p hp
  unfold f_D_becomes at hf
  subst hf
  exact ((jp_set_ne (jne hp (by decide : 48 ∈ ([43, 44, 45, 46, 47, 48] : List Nat)))).trans ((jp_set_ne (jne hp (by decide : 47 ∈ ([43, 44, 45, 46, 47, 48] : List Nat)))).trans ((jp_set_ne (jne hp (by decide : 46 ∈ ([43, 44, 45, 46, 47, 48] : List Nat)))).trans ((jp_set_ne (jne hp (by decide : 45 ∈ ([43, 44, 45, 46, 47, 48] : List Nat)))).trans ((jp_set_ne (jne hp (by decide : 44 ∈ ([43, 44, 45, 46, 47, 48] : List Nat)))).trans ((jp_set_ne (jne hp (by decide : 43 ∈ ([43, 44, 45, 46, 47, 48] : List Nat)))).trans ((jp_set_ne (jne hp (by decide : 43 ∈ ([43, 44, 45, 46, 47, 48] : List Nat)))).trans ((jp_set_ne (jne hp (by decide : 43 ∈ ([43, 44, 45, 46, 47, 48] : List Nat)))).trans rfl))))))))
theorem w_A_becomes {M : jp_M} {res : jp_M} (hf : f_A_becomes M = some res) : ∀ p, p ∉ ([25, 26, 27, 28, 29, 30, 31, 32, 33, 34, 35, 38, 39, 40, 41, 42, 43, 44, 45, 46, 47, 48] : List Nat) → res p = M p := by
  intro p hp
  unfold f_A_becomes at hf
  obtain ⟨hb3, hf⟩ := jg_some hf
  obtain ⟨q4, hc_4, hf⟩ := jbind hf
  obtain ⟨q5, hc_5, hf⟩ := jbind hf
  obtain ⟨q8, hc_8, hf⟩ := jbind hf
  obtain rfl := Option.some.inj hf
  exact ((w_D_becomes rfl _ (jout hp (by decide : (([43, 44, 45, 46, 47, 48] : List Nat)).all (fun x => (([25, 26, 27, 28, 29, 30, 31, 32, 33, 34, 35, 38, 39, 40, 41, 42, 43, 44, 45, 46, 47, 48] : List Nat)).contains x) = true))).trans ((w_S_becomes_3 hc_8 _ (jout hp (by decide : (([41, 42] : List Nat)).all (fun x => (([25, 26, 27, 28, 29, 30, 31, 32, 33, 34, 35, 38, 39, 40, 41, 42, 43, 44, 45, 46, 47, 48] : List Nat)).contains x) = true))).trans ((jp_set_ne (jne hp (by decide : 25 ∈ ([25, 26, 27, 28, 29, 30, 31, 32, 33, 34, 35, 38, 39, 40, 41, 42, 43, 44, 45, 46, 47, 48] : List Nat)))).trans ((jp_set_ne (jne hp (by decide : 40 ∈ ([25, 26, 27, 28, 29, 30, 31, 32, 33, 34, 35, 38, 39, 40, 41, 42, 43, 44, 45, 46, 47, 48] : List Nat)))).trans ((w_S_becomes_2 hc_5 _ (jout hp (by decide : (([38, 39] : List Nat)).all (fun x => (([25, 26, 27, 28, 29, 30, 31, 32, 33, 34, 35, 38, 39, 40, 41, 42, 43, 44, 45, 46, 47, 48] : List Nat)).contains x) = true))).trans ((w_L_becomes_1 hc_4 _ (jout hp (by decide : (([31, 32, 33, 34, 35] : List Nat)).all (fun x => (([25, 26, 27, 28, 29, 30, 31, 32, 33, 34, 35, 38, 39, 40, 41, 42, 43, 44, 45, 46, 47, 48] : List Nat)).contains x) = true))).trans ((jp_set_ne (jne hp (by decide : 30 ∈ ([25, 26, 27, 28, 29, 30, 31, 32, 33, 34, 35, 38, 39, 40, 41, 42, 43, 44, 45, 46, 47, 48] : List Nat)))).trans ((w_W_becomes_14 rfl _ (jout hp (by decide : (([26, 27, 28, 29] : List Nat)).all (fun x => (([25, 26, 27, 28, 29, 30, 31, 32, 33, 34, 35, 38, 39, 40, 41, 42, 43, 44, 45, 46, 47, 48] : List Nat)).contains x) = true))).trans rfl))))))))
theorem w_W_becomes_15 {M : jp_M} {res : jp_M} (hf : f_W_becomes_15 M = res) : ∀ p, p ∉ ([2, 3, 4, 5] : List Nat) → res p = M p := by
  intro p hp
  unfold f_W_becomes_15 at hf
  subst hf
  exact ((jp_set_ne (jne hp (by decide : 5 ∈ ([2, 3, 4, 5] : List Nat)))).trans ((jp_set_ne (jne hp (by decide : 4 ∈ ([2, 3, 4, 5] : List Nat)))).trans ((jp_set_ne (jne hp (by decide : 3 ∈ ([2, 3, 4, 5] : List Nat)))).trans ((jp_set_ne (jne hp (by decide : 2 ∈ ([2, 3, 4, 5] : List Nat)))).trans ((jp_set_ne (jne hp (by decide : 2 ∈ ([2, 3, 4, 5] : List Nat)))).trans ((jp_set_ne (jne hp (by decide : 2 ∈ ([2, 3, 4, 5] : List Nat)))).trans ((jp_set_ne (jne hp (by decide : 2 ∈ ([2, 3, 4, 5] : List Nat)))).trans ((jp_set_ne (jne hp (by decide : 2 ∈ ([2, 3, 4, 5] : List Nat)))).trans ((jp_set_ne (jne hp (by decide : 2 ∈ ([2, 3, 4, 5] : List Nat)))).trans ((jp_set_ne (jne hp (by decide : 2 ∈ ([2, 3, 4, 5] : List Nat)))).trans ((jp_set_ne (jne hp (by decide : 2 ∈ ([2, 3, 4, 5] : List Nat)))).trans rfl)))))))))))
theorem w_L_becomes_2 {M : jp_M} {res : jp_M} (hf : f_L_becomes_2 M = some res) : ∀ p, p ∉ ([7, 8, 9, 10, 11] : List Nat) → res p = M p := by
  intro p hp
  unfold f_L_becomes_2 at hf
  obtain ⟨hb4, hf⟩ := jg_some hf
  obtain ⟨hb6, hf⟩ := jg_some hf
  obtain ⟨hb8, hf⟩ := jg_some hf
  obtain ⟨hb10, hf⟩ := jg_some hf
  obtain rfl := Option.some.inj hf
  exact ((jp_set_ne (jne hp (by decide : 11 ∈ ([7, 8, 9, 10, 11] : List Nat)))).trans ((jp_set_ne (jne hp (by decide : 10 ∈ ([7, 8, 9, 10, 11] : List Nat)))).trans ((jp_set_ne (jne hp (by decide : 9 ∈ ([7, 8, 9, 10, 11] : List Nat)))).trans ((jp_set_ne (jne hp (by decide : 8 ∈ ([7, 8, 9, 10, 11] : List Nat)))).trans ((jp_set_ne (jne hp (by decide : 7 ∈ ([7, 8, 9, 10, 11] : List Nat)))).trans ((jp_set_ne (jne hp (by decide : 7 ∈ ([7, 8, 9, 10, 11] : List Nat)))).trans rfl))))))
theorem w_S_becomes_4 {M : jp_M} {res : jp_M} (hf : f_S_becomes_4 M = some res) : ∀ p, p ∉ ([14, 15] : List Nat) → res p = M p := by
  intro p hp
  unfold f_S_becomes_4 at hf
  obtain ⟨hb3, hf⟩ := jg_some hf
  obtain rfl := Option.some.inj hf
  exact ((jp_set_ne (jne hp (by decide : 15 ∈ ([14, 15] : List Nat)))).trans ((jp_set_ne (jne hp (by decide : 14 ∈ ([14, 15] : List Nat)))).trans rfl))
theorem w_S_becomes_5 {M : jp_M} {res : jp_M} (hf : f_S_becomes_5 M = some res) : ∀ p, p ∉ ([17, 18] : List Nat) → res p = M p := by
  intro p hp
  unfold f_S_becomes_5 at hf
  obtain ⟨hb3, hf⟩ := jg_some hf
  obtain rfl := Option.some.inj hf
  exact ((jp_set_ne (jne hp (by decide : 18 ∈ ([17, 18] : List Nat)))).trans ((jp_set_ne (jne hp (by decide : 17 ∈ ([17, 18] : List Nat)))).trans rfl))
theorem w_D_becomes_1 {M : jp_M} {res : jp_M} (hf : f_D_becomes_1 M = res) : ∀ p, p ∉ ([19, 20, 21, 22, 23, 24] : List Nat) → res p = M p := by
  intro p hp
  unfold f_D_becomes_1 at hf
  subst hf
  exact ((jp_set_ne (jne hp (by decide : 24 ∈ ([19, 20, 21, 22, 23, 24] : List Nat)))).trans ((jp_set_ne (jne hp (by decide : 23 ∈ ([19, 20, 21, 22, 23, 24] : List Nat)))).trans ((jp_set_ne (jne hp (by decide : 22 ∈ ([19, 20, 21, 22, 23, 24] : List Nat)))).trans ((jp_set_ne (jne hp (by decide : 21 ∈ ([19, 20, 21, 22, 23, 24] : List Nat)))).trans ((jp_set_ne (jne hp (by decide : 20 ∈ ([19, 20, 21, 22, 23, 24] : List Nat)))).trans ((jp_set_ne (jne hp (by decide : 19 ∈ ([19, 20, 21, 22, 23, 24] : List Nat)))).trans ((jp_set_ne (jne hp (by decide : 19 ∈ ([19, 20, 21, 22, 23, 24] : List Nat)))).trans ((jp_set_ne (jne hp (by decide : 19 ∈ ([19, 20, 21, 22, 23, 24] : List Nat)))).trans rfl))))))))
theorem w_A_becomes_1 {M : jp_M} {res : jp_M} (hf : f_A_becomes_1 M = some res) : ∀ p, p ∉ ([1, 2, 3, 4, 5, 6, 7, 8, 9, 10, 11, 14, 15, 16, 17, 18, 19, 20, 21, 22, 23, 24] : List Nat) → res p = M p := by
  intro p hp
  unfold f_A_becomes_1 at hf
  obtain ⟨hb3, hf⟩ := jg_some hf
  obtain ⟨q4, hc_4, hf⟩ := jbind hf
  obtain ⟨q5, hc_5, hf⟩ := jbind hf
  obtain ⟨q8, hc_8, hf⟩ := jbind hf
  obtain rfl := Option.some.inj hf
  exact ((w_D_becomes_1 rfl _ (jout hp (by decide : (([19, 20, 21, 22, 23, 24] : List Nat)).all (fun x => (([1, 2, 3, 4, 5, 6, 7, 8, 9, 10, 11, 14, 15, 16, 17, 18, 19, 20, 21, 22, 23, 24] : List Nat)).contains x) = true))).trans ((w_S_becomes_5 hc_8 _ (jout hp (by decide : (([17, 18] : List Nat)).all (fun x => (([1, 2, 3, 4, 5, 6, 7, 8, 9, 10, 11, 14, 15, 16, 17, 18, 19, 20, 21, 22, 23, 24] : List Nat)).contains x) = true))).trans ((jp_set_ne (jne hp (by decide : 1 ∈ ([1, 2, 3, 4, 5, 6, 7, 8, 9, 10, 11, 14, 15, 16, 17, 18, 19, 20, 21, 22, 23, 24] : List Nat)))).trans ((jp_set_ne (jne hp (by decide : 16 ∈ ([1, 2, 3, 4, 5, 6, 7, 8, 9, 10, 11, 14, 15, 16, 17, 18, 19, 20, 21, 22, 23, 24] : List Nat)))).trans ((w_S_becomes_4 hc_5 _ (jout hp (by decide : (([14, 15] : List Nat)).all (fun x => (([1, 2, 3, 4, 5, 6, 7, 8, 9, 10, 11, 14, 15, 16, 17, 18, 19, 20, 21, 22, 23, 24] : List Nat)).contains x) = true))).trans ((w_L_becomes_2 hc_4 _ (jout hp (by decide : (([7, 8, 9, 10, 11] : List Nat)).all (fun x => (([1, 2, 3, 4, 5, 6, 7, 8, 9, 10, 11, 14, 15, 16, 17, 18, 19, 20, 21, 22, 23, 24] : List Nat)).contains x) = true))).trans ((jp_set_ne (jne hp (by decide : 6 ∈ ([1, 2, 3, 4, 5, 6, 7, 8, 9, 10, 11, 14, 15, 16, 17, 18, 19, 20, 21, 22, 23, 24] : List Nat)))).trans ((w_W_becomes_15 rfl _ (jout hp (by decide : (([2, 3, 4, 5] : List Nat)).all (fun x => (([1, 2, 3, 4, 5, 6, 7, 8, 9, 10, 11, 14, 15, 16, 17, 18, 19, 20, 21, 22, 23, 24] : List Nat)).contains x) = true))).trans rfl))))))))
theorem w_C_image {a1 : Int32} {M : jp_M} {res : Int32 × jp_M} (hf : f_C_image a1 M = some res) : ∀ p, p ∉ ([0, 1, 2, 3, 4, 5, 6, 7, 8, 9, 10, 11, 14, 15, 16, 17, 18, 19, 20, 21, 22, 23, 24, 25, 26, 27, 28, 29, 30, 31, 32, 33, 34, 35, 38, 39, 40, 41, 42, 43, 44, 45, 46, 47, 48] : List Nat) → res.2 p = M p := by
  intro p hp
  unfold f_C_image at hf
  rcases jif_d hf with ⟨h, hf⟩ | ⟨h, hf⟩
  · rcases jif_d hf with ⟨h, hf⟩ | ⟨h, hf⟩
    · obtain ⟨q1, hc_1, hf⟩ := jbind hf
      obtain rfl := Option.some.inj hf
      exact ((w_C_forgetKept rfl _ (jout hp (by decide : (([0] : List Nat)).all (fun x => (([0, 1, 2, 3, 4, 5, 6, 7, 8, 9, 10, 11, 14, 15, 16, 17, 18, 19, 20, 21, 22, 23, 24, 25, 26, 27, 28, 29, 30, 31, 32, 33, 34, 35, 38, 39, 40, 41, 42, 43, 44, 45, 46, 47, 48] : List Nat)).contains x) = true))).trans ((w_A_becomes_1 hc_1 _ (jout hp (by decide : (([1, 2, 3, 4, 5, 6, 7, 8, 9, 10, 11, 14, 15, 16, 17, 18, 19, 20, 21, 22, 23, 24] : List Nat)).all (fun x => (([0, 1, 2, 3, 4, 5, 6, 7, 8, 9, 10, 11, 14, 15, 16, 17, 18, 19, 20, 21, 22, 23, 24, 25, 26, 27, 28, 29, 30, 31, 32, 33, 34, 35, 38, 39, 40, 41, 42, 43, 44, 45, 46, 47, 48] : List Nat)).contains x) = true))).trans rfl))
    · obtain rfl := Option.some.inj hf
      exact rfl
  · obtain ⟨q3, hc_3, hf⟩ := jbind hf
    obtain rfl := Option.some.inj hf
    exact ((jp_set_ne (jne hp (by decide : 0 ∈ ([0, 1, 2, 3, 4, 5, 6, 7, 8, 9, 10, 11, 14, 15, 16, 17, 18, 19, 20, 21, 22, 23, 24, 25, 26, 27, 28, 29, 30, 31, 32, 33, 34, 35, 38, 39, 40, 41, 42, 43, 44, 45, 46, 47, 48] : List Nat)))).trans ((w_A_becomes hc_3 _ (jout hp (by decide : (([25, 26, 27, 28, 29, 30, 31, 32, 33, 34, 35, 38, 39, 40, 41, 42, 43, 44, 45, 46, 47, 48] : List Nat)).all (fun x => (([0, 1, 2, 3, 4, 5, 6, 7, 8, 9, 10, 11, 14, 15, 16, 17, 18, 19, 20, 21, 22, 23, 24, 25, 26, 27, 28, 29, 30, 31, 32, 33, 34, 35, 38, 39, 40, 41, 42, 43, 44, 45, 46, 47, 48] : List Nat)).contains x) = true))).trans rfl))
theorem w_M_undo_26  : ∀ (n : Nat) (l1 : Int32) (M : jp_M) {res : Int32 × jp_M}, f_M_undo_26 n  l1 M = some res → ∀ p, p ∉ ([104, 105] : List Nat) → res.2 p = M p := by
  intro n
  induction n with
  | zero =>
    intro l1 M res hf
    cases hf
  | succ n ih =>
    intro l1 M res hf p hp
    rw [f_M_undo_26] at hf
    rcases jif_d hf with ⟨h, hf⟩ | ⟨h, hf⟩
    · obtain rfl := Option.some.inj hf
      exact rfl
    · obtain ⟨hb1, hf⟩ := jg_some hf
      obtain ⟨hb3, hf⟩ := jg_some hf
      exact (ih _ _ hf _ hp).trans ((jp_set_ne (jne hp (by decide : 105 ∈ ([104, 105] : List Nat)))).trans rfl)
theorem w_M_undo {M : jp_M} {res : Int32 × jp_M} (hf : f_M_undo M = some res) : ∀ p, p ∉ ([104, 105] : List Nat) → res.2 p = M p := by
  intro p hp
  unfold f_M_undo at hf
  rcases jif_d hf with ⟨h, hf⟩ | ⟨h, hf⟩
  · exact (w_M_undo_26 jFu _ _ hf _ hp).trans ((jp_set_ne (jne hp (by decide : 104 ∈ ([104, 105] : List Nat)))).trans ((jp_set_ne (jne hp (by decide : 104 ∈ ([104, 105] : List Nat)))).trans rfl))
  · obtain rfl := Option.some.inj hf
    exact ((jp_set_ne (jne hp (by decide : 104 ∈ ([104, 105] : List Nat)))).trans rfl)
theorem w_M_state {a1 : Int32} {M : jp_M} {res : Int32 × jp_M} (hf : f_M_state a1 M = res) : ∀ p, p ∉ ([104, 105] : List Nat) → res.2 p = M p := by
  intro p hp
  unfold f_M_state at hf
  subst hf
  exact ((jp_set_ne (jne hp (by decide : 104 ∈ ([104, 105] : List Nat)))).trans ((jp_set_ne (jne hp (by decide : 105 ∈ ([104, 105] : List Nat)))).trans ((jp_set_ne (jne hp (by decide : 104 ∈ ([104, 105] : List Nat)))).trans rfl)))
theorem w_M_person {a1 : Int32} {a2 : Int32} {a3 : Int32} {M : jp_M} {res : Int32 × jp_M} (hf : f_M_person a1 a2 a3 M = some res) : ∀ p, p ∉ ([104, 105, 108, 109] : List Nat) → res.2 p = M p := by
  intro p hp
  unfold f_M_person at hf
  rcases jif_d hf with ⟨h, hf⟩ | ⟨h, hf⟩
  · obtain rfl := Option.some.inj hf
    exact ((jp_set_ne (jne hp (by decide : 104 ∈ ([104, 105, 108, 109] : List Nat)))).trans rfl)
  · rcases jif_d hf with ⟨h, hf⟩ | ⟨h, hf⟩
    · obtain rfl := Option.some.inj hf
      exact ((jp_set_ne (jne hp (by decide : 104 ∈ ([104, 105, 108, 109] : List Nat)))).trans rfl)
    · rcases jif_d hf with ⟨h, hf⟩ | ⟨h, hf⟩
      · obtain rfl := Option.some.inj hf
        exact ((jp_set_ne (jne hp (by decide : 104 ∈ ([104, 105, 108, 109] : List Nat)))).trans rfl)
      · rcases jif_d hf with ⟨h, hf⟩ | ⟨h, hf⟩
        · obtain ⟨hb6, hf⟩ := jg_some hf
          obtain ⟨hb8, hf⟩ := jg_some hf
          obtain ⟨hb10, hf⟩ := jg_some hf
          obtain ⟨hb12, hf⟩ := jg_some hf
          obtain ⟨hb14, hf⟩ := jg_some hf
          obtain rfl := Option.some.inj hf
          exact ((jp_set_ne (jne hp (by decide : 104 ∈ ([104, 105, 108, 109] : List Nat)))).trans ((jp_set_ne (jne hp (by decide : 104 ∈ ([104, 105, 108, 109] : List Nat)))).trans ((jp_set_ne (jne hp (by decide : 105 ∈ ([104, 105, 108, 109] : List Nat)))).trans ((jp_set_ne (jne hp (by decide : 105 ∈ ([104, 105, 108, 109] : List Nat)))).trans ((jp_set_ne (jne hp (by decide : 105 ∈ ([104, 105, 108, 109] : List Nat)))).trans ((jp_set_ne (jne hp (by decide : 109 ∈ ([104, 105, 108, 109] : List Nat)))).trans ((jp_set_ne (jne hp (by decide : 108 ∈ ([104, 105, 108, 109] : List Nat)))).trans ((jp_set_ne (jne hp (by decide : 104 ∈ ([104, 105, 108, 109] : List Nat)))).trans rfl))))))))
        · obtain rfl := Option.some.inj hf
          exact ((jp_set_ne (jne hp (by decide : 104 ∈ ([104, 105, 108, 109] : List Nat)))).trans rfl)
theorem w_M_swallow {a1 : Int32} {a2 : Int32} {M : jp_M} {res : Int32 × jp_M} (hf : f_M_swallow a1 a2 M = some res) : ∀ p, p ∉ ([104, 105, 110] : List Nat) → res.2 p = M p := by
  intro p hp
  unfold f_M_swallow at hf
  rcases jif_d hf with ⟨h, hf⟩ | ⟨h, hf⟩
  · obtain rfl := Option.some.inj hf
    exact ((jp_set_ne (jne hp (by decide : 104 ∈ ([104, 105, 110] : List Nat)))).trans rfl)
  · rcases jif_d hf with ⟨h, hf⟩ | ⟨h, hf⟩
    · obtain rfl := Option.some.inj hf
      exact ((jp_set_ne (jne hp (by decide : 104 ∈ ([104, 105, 110] : List Nat)))).trans rfl)
    · rcases jif_d hf with ⟨h, hf⟩ | ⟨h, hf⟩
      · obtain ⟨hb5, hf⟩ := jg_some hf
        obtain ⟨hb7, hf⟩ := jg_some hf
        obtain ⟨hb9, hf⟩ := jg_some hf
        obtain rfl := Option.some.inj hf
        exact ((jp_set_ne (jne hp (by decide : 104 ∈ ([104, 105, 110] : List Nat)))).trans ((jp_set_ne (jne hp (by decide : 104 ∈ ([104, 105, 110] : List Nat)))).trans ((jp_set_ne (jne hp (by decide : 110 ∈ ([104, 105, 110] : List Nat)))).trans ((jp_set_ne (jne hp (by decide : 105 ∈ ([104, 105, 110] : List Nat)))).trans ((jp_set_ne (jne hp (by decide : 105 ∈ ([104, 105, 110] : List Nat)))).trans ((jp_set_ne (jne hp (by decide : 104 ∈ ([104, 105, 110] : List Nat)))).trans rfl))))))
      · obtain rfl := Option.some.inj hf
        exact ((jp_set_ne (jne hp (by decide : 104 ∈ ([104, 105, 110] : List Nat)))).trans rfl)
theorem w_M_set_82  (l1 : Int32) (l3 : Int32) (M : jp_M) {res : Int32 × jp_M} (hf : f_M_set_82  l1 l3 M = some res) : ∀ p, p ∉ ([104, 105, 108, 109, 110] : List Nat) → res.2 p = M p := by
  intro p hp
  unfold f_M_set_82 at hf
  rcases jif_d hf with ⟨h, hf⟩ | ⟨h, hf⟩
  · obtain rfl := Option.some.inj hf
    exact ((jp_set_ne (jne hp (by decide : 104 ∈ ([104, 105, 108, 109, 110] : List Nat)))).trans rfl)
  · obtain rfl := Option.some.inj hf
    exact ((jp_set_ne (jne hp (by decide : 104 ∈ ([104, 105, 108, 109, 110] : List Nat)))).trans ((jp_set_ne (jne hp (by decide : 105 ∈ ([104, 105, 108, 109, 110] : List Nat)))).trans rfl))
theorem w_M_set_70  (l1 : Int32) (l2 : Int32) (l3 : Int32) (M : jp_M) {res : Int32 × jp_M} (hf : f_M_set_70  l1 l2 l3 M = some res) : ∀ p, p ∉ ([104, 105, 108, 109, 110] : List Nat) → res.2 p = M p := by
  intro p hp
  unfold f_M_set_70 at hf
  rcases jif_d hf with ⟨h, hf⟩ | ⟨h, hf⟩
  · exact (w_M_set_82 _ _ _ hf _ hp).trans rfl
  · obtain ⟨hb2, hf⟩ := jg_some hf
    exact (w_M_set_82 _ _ _ hf _ hp).trans ((jp_set_ne (jne hp (by decide : 110 ∈ ([104, 105, 108, 109, 110] : List Nat)))).trans rfl)
theorem w_M_set_55  (l1 : Int32) (l2 : Int32) (l3 : Int32) (M : jp_M) {res : Int32 × jp_M} (hf : f_M_set_55  l1 l2 l3 M = some res) : ∀ p, p ∉ ([104, 105, 108, 109, 110] : List Nat) → res.2 p = M p := by
  intro p hp
  unfold f_M_set_55 at hf
  rcases jif_d hf with ⟨h, hf⟩ | ⟨h, hf⟩
  · exact (w_M_set_70 _ _ _ _ hf _ hp).trans rfl
  · obtain ⟨hb2, hf⟩ := jg_some hf
    exact (w_M_set_70 _ _ _ _ hf _ hp).trans ((jp_set_ne (jne hp (by decide : 105 ∈ ([104, 105, 108, 109, 110] : List Nat)))).trans rfl)
theorem w_M_set_43  (l1 : Int32) (l2 : Int32) (l3 : Int32) (M : jp_M) {res : Int32 × jp_M} (hf : f_M_set_43  l1 l2 l3 M = some res) : ∀ p, p ∉ ([104, 105, 108, 109, 110] : List Nat) → res.2 p = M p := by
  intro p hp
  unfold f_M_set_43 at hf
  rcases jif_d hf with ⟨h, hf⟩ | ⟨h, hf⟩
  · exact (w_M_set_55 _ _ _ _ hf _ hp).trans rfl
  · obtain ⟨hb2, hf⟩ := jg_some hf
    exact (w_M_set_55 _ _ _ _ hf _ hp).trans ((jp_set_ne (jne hp (by decide : 109 ∈ ([104, 105, 108, 109, 110] : List Nat)))).trans rfl)
theorem w_M_set_28  (l1 : Int32) (l2 : Int32) (l3 : Int32) (M : jp_M) {res : Int32 × jp_M} (hf : f_M_set_28  l1 l2 l3 M = some res) : ∀ p, p ∉ ([104, 105, 108, 109, 110] : List Nat) → res.2 p = M p := by
  intro p hp
  unfold f_M_set_28 at hf
  rcases jif_d hf with ⟨h, hf⟩ | ⟨h, hf⟩
  · exact (w_M_set_43 _ _ _ _ hf _ hp).trans rfl
  · obtain ⟨hb2, hf⟩ := jg_some hf
    exact (w_M_set_43 _ _ _ _ hf _ hp).trans ((jp_set_ne (jne hp (by decide : 105 ∈ ([104, 105, 108, 109, 110] : List Nat)))).trans rfl)
theorem w_M_set {a1 : Int32} {a2 : Int32} {a3 : Int32} {M : jp_M} {res : Int32 × jp_M} (hf : f_M_set a1 a2 a3 M = some res) : ∀ p, p ∉ ([104, 105, 108, 109, 110] : List Nat) → res.2 p = M p := by
  intro p hp
  unfold f_M_set at hf
  rcases jif_d hf with ⟨h, hf⟩ | ⟨h, hf⟩
  · rcases jif_d hf with ⟨h, hf⟩ | ⟨h, hf⟩
    · exact (w_M_set_28 _ _ _ _ hf _ hp).trans ((jp_set_ne (jne hp (by decide : 104 ∈ ([104, 105, 108, 109, 110] : List Nat)))).trans rfl)
    · obtain ⟨hb4, hf⟩ := jg_some hf
      exact (w_M_set_28 _ _ _ _ hf _ hp).trans ((jp_set_ne (jne hp (by decide : 108 ∈ ([104, 105, 108, 109, 110] : List Nat)))).trans ((jp_set_ne (jne hp (by decide : 104 ∈ ([104, 105, 108, 109, 110] : List Nat)))).trans rfl))
  · obtain rfl := Option.some.inj hf
    exact ((jp_set_ne (jne hp (by decide : 104 ∈ ([104, 105, 108, 109, 110] : List Nat)))).trans rfl)
theorem w_M_types_3  : ∀ (n : Nat) (l1 : Int32) (l2 : Int32) (M : jp_M) {res : jp_M}, f_M_types_3 n  l1 l2 M = some res → ∀ p, p ∉ ([104, 112] : List Nat) → res p = M p := by
  intro n
  induction n with
  | zero =>
    intro l1 l2 M res hf
    cases hf
  | succ n ih =>
    intro l1 l2 M res hf p hp
    rw [f_M_types_3] at hf
    rcases jif_d hf with ⟨h, hf⟩ | ⟨h, hf⟩
    · obtain rfl := Option.some.inj hf
      exact rfl
    · obtain ⟨hb2, hf⟩ := jg_some hf
      exact (ih _ _ _ hf _ hp).trans ((jp_set_ne (jne hp (by decide : 104 ∈ ([104, 112] : List Nat)))).trans ((jp_set_ne (jne hp (by decide : 112 ∈ ([104, 112] : List Nat)))).trans rfl))
theorem w_M_types {a1 : Int32} {M : jp_M} {res : jp_M} (hf : f_M_types a1 M = some res) : ∀ p, p ∉ ([104, 112] : List Nat) → res p = M p := by
  intro p hp
  unfold f_M_types at hf
  exact (w_M_types_3 jFu _ _ _ hf _ hp).trans rfl
theorem w_M_feed {a1 : Int32} {a2 : Int32} {a3 : Int32} {a4 : Int32} {a5 : Int32} {M : jp_M} {res : Int32 × jp_M} (hf : f_M_feed a1 a2 a3 a4 a5 M = some res) : ∀ p, p ∉ ([104, 112] : List Nat) → res.2 p = M p := by
  intro p hp
  unfold f_M_feed at hf
  rcases jif_d hf with ⟨h, hf⟩ | ⟨h, hf⟩
  · obtain ⟨q2, hc_2, hf⟩ := jbind hf
    obtain ⟨q3, hc_3, hf⟩ := jbind hf
    obtain ⟨q4, hc_4, hf⟩ := jbind hf
    obtain ⟨q5, hc_5, hf⟩ := jbind hf
    obtain ⟨q6, hc_6, hf⟩ := jbind hf
    obtain rfl := Option.some.inj hf
    exact ((w_M_types hc_6 _ (jout hp (by decide : (([104, 112] : List Nat)).all (fun x => (([104, 112] : List Nat)).contains x) = true))).trans ((w_M_types hc_5 _ (jout hp (by decide : (([104, 112] : List Nat)).all (fun x => (([104, 112] : List Nat)).contains x) = true))).trans ((w_M_types hc_4 _ (jout hp (by decide : (([104, 112] : List Nat)).all (fun x => (([104, 112] : List Nat)).contains x) = true))).trans ((w_M_types hc_3 _ (jout hp (by decide : (([104, 112] : List Nat)).all (fun x => (([104, 112] : List Nat)).contains x) = true))).trans ((w_M_types hc_2 _ (jout hp (by decide : (([104, 112] : List Nat)).all (fun x => (([104, 112] : List Nat)).contains x) = true))).trans ((jp_set_ne (jne hp (by decide : 104 ∈ ([104, 112] : List Nat)))).trans rfl))))))
  · obtain rfl := Option.some.inj hf
    exact ((jp_set_ne (jne hp (by decide : 104 ∈ ([104, 112] : List Nat)))).trans rfl)
theorem w_M_end {a1 : Int32} {M : jp_M} {res : Int32 × jp_M} (hf : f_M_end a1 M = res) : ∀ p, p ∉ ([104] : List Nat) → res.2 p = M p := by
  intro p hp
  unfold f_M_end at hf
  rcases jif_d hf with ⟨h, hf⟩ | ⟨h, hf⟩
  · subst hf
    exact ((jp_set_ne (jne hp (by decide : 104 ∈ ([104] : List Nat)))).trans ((jp_set_ne (jne hp (by decide : 104 ∈ ([104] : List Nat)))).trans rfl))
  · subst hf
    exact ((jp_set_ne (jne hp (by decide : 104 ∈ ([104] : List Nat)))).trans rfl)
theorem w_M_reads_26 {c0 : jp_M → Option (jp_M)} (hc0 : ∀ (M : jp_M) (res : jp_M), c0 M = some res → ∀ p, p ∉ ([104] : List Nat) → res p = M p) (M : jp_M) {res : jp_M} (hf : f_M_reads_26 c0 M = some res) : ∀ p, p ∉ ([104] : List Nat) → res p = M p := by
  intro p hp
  unfold f_M_reads_26 at hf
  exact (hc0 _ _ hf _ hp).trans ((jp_set_ne (jne hp (by decide : 104 ∈ ([104] : List Nat)))).trans rfl)
theorem w_M_reads_95  : ∀ (n : Nat) (M : jp_M) {res : jp_M}, f_M_reads_95 n  M = some res → ∀ p, p ∉ ([104] : List Nat) → res p = M p := by
  intro n
  induction n with
  | zero =>
    intro M res hf
    cases hf
  | succ n ih =>
    intro M res hf p hp
    rw [f_M_reads_95] at hf
    obtain ⟨q1, hc_1, hf⟩ := jbind hf
    rcases jif_d hf with ⟨h, hf⟩ | ⟨h, hf⟩
    · obtain ⟨q3, hc_3, hf⟩ := jbind hf
      rcases jif_d hf with ⟨h, hf⟩ | ⟨h, hf⟩
      · obtain rfl := Option.some.inj hf
        exact ((jp_set_ne (jne hp (by decide : 104 ∈ ([104] : List Nat)))).trans rfl)
      · obtain rfl := Option.some.inj hf
        exact ((jp_set_ne (jne hp (by decide : 104 ∈ ([104] : List Nat)))).trans ((jp_set_ne (jne hp (by decide : 104 ∈ ([104] : List Nat)))).trans rfl))
    · exact (ih _ hf _ hp).trans ((jp_set_ne (jne hp (by decide : 104 ∈ ([104] : List Nat)))).trans rfl)
theorem w_M_reads_223 {c90 : jp_M → Option (jp_M)} (hc90 : ∀ (M : jp_M) (res : jp_M), c90 M = some res → ∀ p, p ∉ ([104] : List Nat) → res p = M p) (s1 : Int32) (M : jp_M) {res : jp_M} (hf : f_M_reads_223 c90 s1 M = some res) : ∀ p, p ∉ ([104] : List Nat) → res p = M p := by
  intro p hp
  unfold f_M_reads_223 at hf
  exact (hc90 _ _ hf _ hp).trans ((jp_set_ne (jne hp (by decide : 104 ∈ ([104] : List Nat)))).trans ((jp_set_ne (jne hp (by decide : 104 ∈ ([104] : List Nat)))).trans rfl))
theorem w_M_reads_171  : ∀ (n : Nat) (M : jp_M) {res : jp_M}, f_M_reads_171 n  M = some res → ∀ p, p ∉ ([104] : List Nat) → res p = M p := by
  intro n
  induction n with
  | zero =>
    intro M res hf
    cases hf
  | succ n ih =>
    intro M res hf p hp
    rw [f_M_reads_171] at hf
    obtain ⟨q1, hc_1, hf⟩ := jbind hf
    rcases jif_d hf with ⟨h, hf⟩ | ⟨h, hf⟩
    · rcases jif_d hf with ⟨h, hf⟩ | ⟨h, hf⟩
      · obtain rfl := Option.some.inj hf
        exact rfl
      · obtain rfl := Option.some.inj hf
        exact ((jp_set_ne (jne hp (by decide : 104 ∈ ([104] : List Nat)))).trans rfl)
    · rcases jif_d hf with ⟨h, hf⟩ | ⟨h, hf⟩
      · exact (w_M_reads_223 (fun M res hf => ih M hf) _ _ hf _ hp).trans rfl
      · obtain ⟨q4, hc_4, hf⟩ := jbind hf
        exact (w_M_reads_223 (fun M res hf => ih M hf) _ _ hf _ hp).trans rfl
theorem w_M_reads_0  : ∀ (n : Nat) (M : jp_M) {res : jp_M}, f_M_reads_0 n  M = some res → ∀ p, p ∉ ([104] : List Nat) → res p = M p := by
  intro n
  induction n with
  | zero =>
    intro M res hf
    cases hf
  | succ n ih =>
    intro M res hf p hp
    rw [f_M_reads_0] at hf
    obtain ⟨q1, hc_1, hf⟩ := jbind hf
    rcases jif_d hf with ⟨h, hf⟩ | ⟨h, hf⟩
    · exact (w_M_reads_26 (fun M res hf => ih M hf) _ hf _ hp).trans rfl
    · obtain ⟨q2, hc_2, hf⟩ := jbind hf
      rcases jif_d hf with ⟨h, hf⟩ | ⟨h, hf⟩
      · obtain ⟨q5, hc_5, hf⟩ := jbind hf
        rcases jif_d hf with ⟨h, hf⟩ | ⟨h, hf⟩
        · rcases jif_d hf with ⟨h, hf⟩ | ⟨h, hf⟩
          · rcases jif_d hf with ⟨h, hf⟩ | ⟨h, hf⟩
            · rcases jif_d hf with ⟨h, hf⟩ | ⟨h, hf⟩
              · obtain rfl := Option.some.inj hf
                exact ((jp_set_ne (jne hp (by decide : 104 ∈ ([104] : List Nat)))).trans ((jp_set_ne (jne hp (by decide : 104 ∈ ([104] : List Nat)))).trans ((jp_set_ne (jne hp (by decide : 104 ∈ ([104] : List Nat)))).trans ((jp_set_ne (jne hp (by decide : 104 ∈ ([104] : List Nat)))).trans rfl))))
              · obtain rfl := Option.some.inj hf
                exact ((jp_set_ne (jne hp (by decide : 104 ∈ ([104] : List Nat)))).trans ((jp_set_ne (jne hp (by decide : 104 ∈ ([104] : List Nat)))).trans ((jp_set_ne (jne hp (by decide : 104 ∈ ([104] : List Nat)))).trans ((jp_set_ne (jne hp (by decide : 104 ∈ ([104] : List Nat)))).trans ((jp_set_ne (jne hp (by decide : 104 ∈ ([104] : List Nat)))).trans rfl)))))
            · exact (w_M_reads_171 jFu _ hf _ hp).trans ((jp_set_ne (jne hp (by decide : 104 ∈ ([104] : List Nat)))).trans ((jp_set_ne (jne hp (by decide : 104 ∈ ([104] : List Nat)))).trans ((jp_set_ne (jne hp (by decide : 104 ∈ ([104] : List Nat)))).trans ((jp_set_ne (jne hp (by decide : 104 ∈ ([104] : List Nat)))).trans ((jp_set_ne (jne hp (by decide : 104 ∈ ([104] : List Nat)))).trans rfl)))))
          · exact (w_M_reads_95 jFu _ hf _ hp).trans ((jp_set_ne (jne hp (by decide : 104 ∈ ([104] : List Nat)))).trans ((jp_set_ne (jne hp (by decide : 104 ∈ ([104] : List Nat)))).trans ((jp_set_ne (jne hp (by decide : 104 ∈ ([104] : List Nat)))).trans ((jp_set_ne (jne hp (by decide : 104 ∈ ([104] : List Nat)))).trans rfl))))
        · obtain rfl := Option.some.inj hf
          exact ((jp_set_ne (jne hp (by decide : 104 ∈ ([104] : List Nat)))).trans ((jp_set_ne (jne hp (by decide : 104 ∈ ([104] : List Nat)))).trans ((jp_set_ne (jne hp (by decide : 104 ∈ ([104] : List Nat)))).trans rfl)))
      · exact (w_M_reads_26 (fun M res hf => ih M hf) _ hf _ hp).trans rfl
theorem w_M_reads {M : jp_M} {res : jp_M} (hf : f_M_reads M = some res) : ∀ p, p ∉ ([104] : List Nat) → res p = M p := by
  intro p hp
  unfold f_M_reads at hf
  exact (w_M_reads_0 jFu _ hf _ hp).trans rfl
theorem w_M_errs {a1 : Int32} {M : jp_M} {res : Int32 × jp_M} (hf : f_M_errs a1 M = res) : ∀ p, p ∉ ([104] : List Nat) → res.2 p = M p := by
  intro p hp
  unfold f_M_errs at hf
  subst hf
  exact ((jp_set_ne (jne hp (by decide : 104 ∈ ([104] : List Nat)))).trans ((jp_set_ne (jne hp (by decide : 104 ∈ ([104] : List Nat)))).trans rfl))
theorem w_M_readNumber {a1 : Int32} {a2 : Int32} {M : jp_M} {res : Int32 × jp_M} (hf : f_M_readNumber a1 a2 M = some res) : ∀ p, p ∉ ([104] : List Nat) → res.2 p = M p := by
  intro p hp
  unfold f_M_readNumber at hf
  rcases jif_d hf with ⟨h, hf⟩ | ⟨h, hf⟩
  · rcases jif_d hf with ⟨h, hf⟩ | ⟨h, hf⟩
    · obtain ⟨q2, hc_2, hf⟩ := jbind hf
      obtain rfl := Option.some.inj hf
      exact ((w_M_reads hc_2 _ (jout hp (by decide : (([104] : List Nat)).all (fun x => (([104] : List Nat)).contains x) = true))).trans rfl)
    · obtain rfl := Option.some.inj hf
      exact ((w_M_errs rfl _ (jout hp (by decide : (([104] : List Nat)).all (fun x => (([104] : List Nat)).contains x) = true))).trans rfl)
  · obtain rfl := Option.some.inj hf
    exact ((w_M_errs rfl _ (jout hp (by decide : (([104] : List Nat)).all (fun x => (([104] : List Nat)).contains x) = true))).trans rfl)
theorem w_M_readTold {a1 : Int32} {a2 : Int32} {a3 : Int32} {M : jp_M} {res : Int32 × jp_M} (hf : f_M_readTold a1 a2 a3 M = some res) : ∀ p, p ∉ ([104] : List Nat) → res.2 p = M p := by
  intro p hp
  unfold f_M_readTold at hf
  rcases jif_d hf with ⟨h, hf⟩ | ⟨h, hf⟩
  · obtain ⟨q2, hc_2, hf⟩ := jbind hf
    obtain ⟨q3, hc_3, hf⟩ := jbind hf
    obtain rfl := Option.some.inj hf
    exact ((w_M_readNumber hc_3 _ (jout hp (by decide : (([104] : List Nat)).all (fun x => (([104] : List Nat)).contains x) = true))).trans ((w_M_reads hc_2 _ (jout hp (by decide : (([104] : List Nat)).all (fun x => (([104] : List Nat)).contains x) = true))).trans rfl))
  · obtain rfl := Option.some.inj hf
    exact ((w_M_errs rfl _ (jout hp (by decide : (([104] : List Nat)).all (fun x => (([104] : List Nat)).contains x) = true))).trans rfl)
theorem w_M_readAir {a1 : Int32} {M : jp_M} {res : Int32 × jp_M} (hf : f_M_readAir a1 M = some res) : ∀ p, p ∉ ([104, 122] : List Nat) → res.2 p = M p := by
  intro p hp
  unfold f_M_readAir at hf
  obtain ⟨q1, hc_1, hf⟩ := jbind hf
  obtain ⟨hb3, hf⟩ := jg_some hf
  obtain ⟨hb4, hf⟩ := jg_some hf
  rcases jif_d hf with ⟨h, hf⟩ | ⟨h, hf⟩
  · obtain ⟨q5, hc_5, hf⟩ := jbind hf
    obtain ⟨hb7, hf⟩ := jg_some hf
    obtain ⟨hb8, hf⟩ := jg_some hf
    rcases jif_d hf with ⟨h, hf⟩ | ⟨h, hf⟩
    · obtain ⟨hb9, hf⟩ := jg_some hf
      obtain ⟨q10, hc_10, hf⟩ := jbind hf
      obtain ⟨hb12, hf⟩ := jg_some hf
      obtain ⟨hb13, hf⟩ := jg_some hf
      obtain rfl := Option.some.inj hf
      exact ((jp_set_ne (jne hp (by decide : 122 ∈ ([104, 122] : List Nat)))).trans ((w_M_readNumber hc_10 _ (jout hp (by decide : (([104] : List Nat)).all (fun x => (([104, 122] : List Nat)).contains x) = true))).trans ((jp_set_ne (jne hp (by decide : 122 ∈ ([104, 122] : List Nat)))).trans ((w_M_readNumber hc_5 _ (jout hp (by decide : (([104] : List Nat)).all (fun x => (([104, 122] : List Nat)).contains x) = true))).trans ((jp_set_ne (jne hp (by decide : 122 ∈ ([104, 122] : List Nat)))).trans ((w_M_readTold hc_1 _ (jout hp (by decide : (([104] : List Nat)).all (fun x => (([104, 122] : List Nat)).contains x) = true))).trans rfl))))))
    · obtain rfl := Option.some.inj hf
      exact ((jp_set_ne (jne hp (by decide : 122 ∈ ([104, 122] : List Nat)))).trans ((w_M_readNumber hc_5 _ (jout hp (by decide : (([104] : List Nat)).all (fun x => (([104, 122] : List Nat)).contains x) = true))).trans ((jp_set_ne (jne hp (by decide : 122 ∈ ([104, 122] : List Nat)))).trans ((w_M_readTold hc_1 _ (jout hp (by decide : (([104] : List Nat)).all (fun x => (([104, 122] : List Nat)).contains x) = true))).trans rfl))))
  · obtain rfl := Option.some.inj hf
    exact ((jp_set_ne (jne hp (by decide : 122 ∈ ([104, 122] : List Nat)))).trans ((w_M_readTold hc_1 _ (jout hp (by decide : (([104] : List Nat)).all (fun x => (([104, 122] : List Nat)).contains x) = true))).trans rfl))
theorem w_M_readMark {a1 : Int32} {M : jp_M} {res : Int32 × jp_M} (hf : f_M_readMark a1 M = some res) : ∀ p, p ∉ ([104] : List Nat) → res.2 p = M p := by
  intro p hp
  unfold f_M_readMark at hf
  rcases jif_d hf with ⟨h, hf⟩ | ⟨h, hf⟩
  · obtain ⟨q2, hc_2, hf⟩ := jbind hf
    obtain rfl := Option.some.inj hf
    exact ((w_M_reads hc_2 _ (jout hp (by decide : (([104] : List Nat)).all (fun x => (([104] : List Nat)).contains x) = true))).trans rfl)
  · obtain rfl := Option.some.inj hf
    exact ((w_M_errs rfl _ (jout hp (by decide : (([104] : List Nat)).all (fun x => (([104] : List Nat)).contains x) = true))).trans rfl)
theorem w_M_readPetition_86  (M : jp_M) {res : Int32 × jp_M} (hf : f_M_readPetition_86  M = some res) : ∀ p, p ∉ ([104, 122] : List Nat) → res.2 p = M p := by
  intro p hp
  unfold f_M_readPetition_86 at hf
  obtain rfl := Option.some.inj hf
  exact ((w_M_errs rfl _ (jout hp (by decide : (([104] : List Nat)).all (fun x => (([104, 122] : List Nat)).contains x) = true))).trans rfl)
theorem w_M_readPetition {a1 : Int32} {M : jp_M} {res : Int32 × jp_M} (hf : f_M_readPetition a1 M = some res) : ∀ p, p ∉ ([104, 122] : List Nat) → res.2 p = M p := by
  intro p hp
  unfold f_M_readPetition at hf
  obtain ⟨q1, hc_1, hf⟩ := jbind hf
  obtain ⟨hb3, hf⟩ := jg_some hf
  obtain ⟨hb4, hf⟩ := jg_some hf
  rcases jif_d hf with ⟨h, hf⟩ | ⟨h, hf⟩
  · obtain ⟨q5, hc_5, hf⟩ := jbind hf
    obtain ⟨hb7, hf⟩ := jg_some hf
    obtain ⟨hb8, hf⟩ := jg_some hf
    rcases jif_d hf with ⟨h, hf⟩ | ⟨h, hf⟩
    · rcases jif_d hf with ⟨h, hf⟩ | ⟨h, hf⟩
      · exact (w_M_readPetition_86 _ hf _ hp).trans ((jp_set_ne (jne hp (by decide : 122 ∈ ([104, 122] : List Nat)))).trans ((w_M_readTold hc_5 _ (jout hp (by decide : (([104] : List Nat)).all (fun x => (([104, 122] : List Nat)).contains x) = true))).trans ((jp_set_ne (jne hp (by decide : 122 ∈ ([104, 122] : List Nat)))).trans ((w_M_readTold hc_1 _ (jout hp (by decide : (([104] : List Nat)).all (fun x => (([104, 122] : List Nat)).contains x) = true))).trans rfl))))
      · rcases jif_d hf with ⟨h, hf⟩ | ⟨h, hf⟩
        · obtain ⟨hb11, hf⟩ := jg_some hf
          obtain ⟨q12, hc_12, hf⟩ := jbind hf
          obtain ⟨q13, hc_13, hf⟩ := jbind hf
          rcases jif_d hf with ⟨h, hf⟩ | ⟨h, hf⟩
          · obtain ⟨q14, hc_14, hf⟩ := jbind hf
            obtain ⟨hb16, hf⟩ := jg_some hf
            obtain ⟨hb17, hf⟩ := jg_some hf
            rcases jif_d hf with ⟨h, hf⟩ | ⟨h, hf⟩
            · obtain ⟨q18, hc_18, hf⟩ := jbind hf
              obtain rfl := Option.some.inj hf
              exact ((w_M_readMark hc_18 _ (jout hp (by decide : (([104] : List Nat)).all (fun x => (([104, 122] : List Nat)).contains x) = true))).trans ((jp_set_ne (jne hp (by decide : 122 ∈ ([104, 122] : List Nat)))).trans ((w_M_readTold hc_14 _ (jout hp (by decide : (([104] : List Nat)).all (fun x => (([104, 122] : List Nat)).contains x) = true))).trans ((w_M_readAir hc_13 _ (jout hp (by decide : (([104, 122] : List Nat)).all (fun x => (([104, 122] : List Nat)).contains x) = true))).trans ((w_M_reads hc_12 _ (jout hp (by decide : (([104] : List Nat)).all (fun x => (([104, 122] : List Nat)).contains x) = true))).trans ((jp_set_ne (jne hp (by decide : 122 ∈ ([104, 122] : List Nat)))).trans ((jp_set_ne (jne hp (by decide : 122 ∈ ([104, 122] : List Nat)))).trans ((w_M_readTold hc_5 _ (jout hp (by decide : (([104] : List Nat)).all (fun x => (([104, 122] : List Nat)).contains x) = true))).trans ((jp_set_ne (jne hp (by decide : 122 ∈ ([104, 122] : List Nat)))).trans ((w_M_readTold hc_1 _ (jout hp (by decide : (([104] : List Nat)).all (fun x => (([104, 122] : List Nat)).contains x) = true))).trans rfl))))))))))
            · obtain rfl := Option.some.inj hf
              exact ((jp_set_ne (jne hp (by decide : 122 ∈ ([104, 122] : List Nat)))).trans ((w_M_readTold hc_14 _ (jout hp (by decide : (([104] : List Nat)).all (fun x => (([104, 122] : List Nat)).contains x) = true))).trans ((w_M_readAir hc_13 _ (jout hp (by decide : (([104, 122] : List Nat)).all (fun x => (([104, 122] : List Nat)).contains x) = true))).trans ((w_M_reads hc_12 _ (jout hp (by decide : (([104] : List Nat)).all (fun x => (([104, 122] : List Nat)).contains x) = true))).trans ((jp_set_ne (jne hp (by decide : 122 ∈ ([104, 122] : List Nat)))).trans ((jp_set_ne (jne hp (by decide : 122 ∈ ([104, 122] : List Nat)))).trans ((w_M_readTold hc_5 _ (jout hp (by decide : (([104] : List Nat)).all (fun x => (([104, 122] : List Nat)).contains x) = true))).trans ((jp_set_ne (jne hp (by decide : 122 ∈ ([104, 122] : List Nat)))).trans ((w_M_readTold hc_1 _ (jout hp (by decide : (([104] : List Nat)).all (fun x => (([104, 122] : List Nat)).contains x) = true))).trans rfl)))))))))
          · obtain rfl := Option.some.inj hf
            exact ((w_M_readAir hc_13 _ (jout hp (by decide : (([104, 122] : List Nat)).all (fun x => (([104, 122] : List Nat)).contains x) = true))).trans ((w_M_reads hc_12 _ (jout hp (by decide : (([104] : List Nat)).all (fun x => (([104, 122] : List Nat)).contains x) = true))).trans ((jp_set_ne (jne hp (by decide : 122 ∈ ([104, 122] : List Nat)))).trans ((jp_set_ne (jne hp (by decide : 122 ∈ ([104, 122] : List Nat)))).trans ((w_M_readTold hc_5 _ (jout hp (by decide : (([104] : List Nat)).all (fun x => (([104, 122] : List Nat)).contains x) = true))).trans ((jp_set_ne (jne hp (by decide : 122 ∈ ([104, 122] : List Nat)))).trans ((w_M_readTold hc_1 _ (jout hp (by decide : (([104] : List Nat)).all (fun x => (([104, 122] : List Nat)).contains x) = true))).trans rfl)))))))
        · exact (w_M_readPetition_86 _ hf _ hp).trans ((jp_set_ne (jne hp (by decide : 122 ∈ ([104, 122] : List Nat)))).trans ((w_M_readTold hc_5 _ (jout hp (by decide : (([104] : List Nat)).all (fun x => (([104, 122] : List Nat)).contains x) = true))).trans ((jp_set_ne (jne hp (by decide : 122 ∈ ([104, 122] : List Nat)))).trans ((w_M_readTold hc_1 _ (jout hp (by decide : (([104] : List Nat)).all (fun x => (([104, 122] : List Nat)).contains x) = true))).trans rfl))))
    · obtain rfl := Option.some.inj hf
      exact ((jp_set_ne (jne hp (by decide : 122 ∈ ([104, 122] : List Nat)))).trans ((w_M_readTold hc_5 _ (jout hp (by decide : (([104] : List Nat)).all (fun x => (([104, 122] : List Nat)).contains x) = true))).trans ((jp_set_ne (jne hp (by decide : 122 ∈ ([104, 122] : List Nat)))).trans ((w_M_readTold hc_1 _ (jout hp (by decide : (([104] : List Nat)).all (fun x => (([104, 122] : List Nat)).contains x) = true))).trans rfl))))
  · obtain rfl := Option.some.inj hf
    exact ((jp_set_ne (jne hp (by decide : 122 ∈ ([104, 122] : List Nat)))).trans ((w_M_readTold hc_1 _ (jout hp (by decide : (([104] : List Nat)).all (fun x => (([104, 122] : List Nat)).contains x) = true))).trans rfl))
theorem w_M_readPetitions_2  : ∀ (n : Nat) (l1 : Int32) (M : jp_M) {res : Int32 × jp_M}, f_M_readPetitions_2 n  l1 M = some res → ∀ p, p ∉ ([104, 122] : List Nat) → res.2 p = M p := by
  intro n
  induction n with
  | zero =>
    intro l1 M res hf
    cases hf
  | succ n ih =>
    intro l1 M res hf p hp
    rw [f_M_readPetitions_2] at hf
    rcases jif_d hf with ⟨h, hf⟩ | ⟨h, hf⟩
    · rcases jif_d hf with ⟨h, hf⟩ | ⟨h, hf⟩
      · obtain rfl := Option.some.inj hf
        exact ((w_M_errs rfl _ (jout hp (by decide : (([104] : List Nat)).all (fun x => (([104, 122] : List Nat)).contains x) = true))).trans rfl)
      · obtain rfl := Option.some.inj hf
        exact rfl
    · rcases jif_d hf with ⟨h, hf⟩ | ⟨h, hf⟩
      · obtain ⟨q3, hc_3, hf⟩ := jbind hf
        rcases jif_d hf with ⟨h, hf⟩ | ⟨h, hf⟩
        · exact (ih _ _ hf _ hp).trans ((w_M_readPetition hc_3 _ (jout hp (by decide : (([104, 122] : List Nat)).all (fun x => (([104, 122] : List Nat)).contains x) = true))).trans rfl)
        · obtain rfl := Option.some.inj hf
          exact ((w_M_readPetition hc_3 _ (jout hp (by decide : (([104, 122] : List Nat)).all (fun x => (([104, 122] : List Nat)).contains x) = true))).trans rfl)
      · obtain rfl := Option.some.inj hf
        exact ((w_M_errs rfl _ (jout hp (by decide : (([104] : List Nat)).all (fun x => (([104, 122] : List Nat)).contains x) = true))).trans rfl)
theorem w_M_readPetitions {M : jp_M} {res : Int32 × jp_M} (hf : f_M_readPetitions M = some res) : ∀ p, p ∉ ([104, 122] : List Nat) → res.2 p = M p := by
  intro p hp
  unfold f_M_readPetitions at hf
  exact (w_M_readPetitions_2 jFu _ _ hf _ hp).trans rfl
theorem w_M_readTurn {M : jp_M} {res : Int32 × jp_M} (hf : f_M_readTurn M = some res) : ∀ p, p ∉ ([104, 123] : List Nat) → res.2 p = M p := by
  intro p hp
  unfold f_M_readTurn at hf
  obtain ⟨q1, hc_1, hf⟩ := jbind hf
  rcases jif_d hf with ⟨h, hf⟩ | ⟨h, hf⟩
  · obtain ⟨q2, hc_2, hf⟩ := jbind hf
    rcases jif_d hf with ⟨h, hf⟩ | ⟨h, hf⟩
    · obtain ⟨hb4, hf⟩ := jg_some hf
      obtain ⟨q5, hc_5, hf⟩ := jbind hf
      obtain rfl := Option.some.inj hf
      exact ((w_M_readMark hc_5 _ (jout hp (by decide : (([104] : List Nat)).all (fun x => (([104, 123] : List Nat)).contains x) = true))).trans ((jp_set_ne (jne hp (by decide : 123 ∈ ([104, 123] : List Nat)))).trans ((w_M_readTold hc_2 _ (jout hp (by decide : (([104] : List Nat)).all (fun x => (([104, 123] : List Nat)).contains x) = true))).trans ((w_M_readTold hc_1 _ (jout hp (by decide : (([104] : List Nat)).all (fun x => (([104, 123] : List Nat)).contains x) = true))).trans rfl))))
    · obtain rfl := Option.some.inj hf
      exact ((w_M_readTold hc_2 _ (jout hp (by decide : (([104] : List Nat)).all (fun x => (([104, 123] : List Nat)).contains x) = true))).trans ((w_M_readTold hc_1 _ (jout hp (by decide : (([104] : List Nat)).all (fun x => (([104, 123] : List Nat)).contains x) = true))).trans rfl))
  · obtain rfl := Option.some.inj hf
    exact ((w_M_readTold hc_1 _ (jout hp (by decide : (([104] : List Nat)).all (fun x => (([104, 123] : List Nat)).contains x) = true))).trans rfl)
theorem w_M_readLease_26  : ∀ (n : Nat) (l1 : Int32) (M : jp_M) {res : Int32 × jp_M}, f_M_readLease_26 n  l1 M = some res → ∀ p, p ∉ ([104, 123] : List Nat) → res.2 p = M p := by
  intro n
  induction n with
  | zero =>
    intro l1 M res hf
    cases hf
  | succ n ih =>
    intro l1 M res hf p hp
    rw [f_M_readLease_26] at hf
    rcases jif_d hf with ⟨h, hf⟩ | ⟨h, hf⟩
    · rcases jif_d hf with ⟨h, hf⟩ | ⟨h, hf⟩
      · obtain rfl := Option.some.inj hf
        exact ((w_M_errs rfl _ (jout hp (by decide : (([104] : List Nat)).all (fun x => (([104, 123] : List Nat)).contains x) = true))).trans rfl)
      · obtain rfl := Option.some.inj hf
        exact rfl
    · rcases jif_d hf with ⟨h, hf⟩ | ⟨h, hf⟩
      · obtain ⟨q3, hc_3, hf⟩ := jbind hf
        rcases jif_d hf with ⟨h, hf⟩ | ⟨h, hf⟩
        · exact (ih _ _ hf _ hp).trans ((w_M_readTurn hc_3 _ (jout hp (by decide : (([104, 123] : List Nat)).all (fun x => (([104, 123] : List Nat)).contains x) = true))).trans rfl)
        · obtain rfl := Option.some.inj hf
          exact ((w_M_readTurn hc_3 _ (jout hp (by decide : (([104, 123] : List Nat)).all (fun x => (([104, 123] : List Nat)).contains x) = true))).trans rfl)
      · obtain rfl := Option.some.inj hf
        exact ((w_M_errs rfl _ (jout hp (by decide : (([104] : List Nat)).all (fun x => (([104, 123] : List Nat)).contains x) = true))).trans rfl)
theorem w_M_readLease_2  : ∀ (n : Nat) (l1 : Int32) (M : jp_M) {res : Int32 × jp_M}, f_M_readLease_2 n  l1 M = some res → ∀ p, p ∉ ([104, 123] : List Nat) → res.2 p = M p := by
  intro n
  induction n with
  | zero =>
    intro l1 M res hf
    cases hf
  | succ n ih =>
    intro l1 M res hf p hp
    rw [f_M_readLease_2] at hf
    rcases jif_d hf with ⟨h, hf⟩ | ⟨h, hf⟩
    · exact (w_M_readLease_26 jFu _ _ hf _ hp).trans rfl
    · obtain ⟨hb2, hf⟩ := jg_some hf
      exact (ih _ _ hf _ hp).trans ((jp_set_ne (jne hp (by decide : 123 ∈ ([104, 123] : List Nat)))).trans rfl)
theorem w_M_readLease {M : jp_M} {res : Int32 × jp_M} (hf : f_M_readLease M = some res) : ∀ p, p ∉ ([104, 123] : List Nat) → res.2 p = M p := by
  intro p hp
  unfold f_M_readLease at hf
  exact (w_M_readLease_2 jFu _ _ hf _ hp).trans rfl
theorem w_M_readCite_58  (l1 : Int32) (M : jp_M) {res : Int32 × jp_M} (hf : f_M_readCite_58  l1 M = some res) : ∀ p, p ∉ ([104, 124] : List Nat) → res.2 p = M p := by
  intro p hp
  unfold f_M_readCite_58 at hf
  obtain ⟨q1, hc_1, hf⟩ := jbind hf
  rcases jif_d hf with ⟨h, hf⟩ | ⟨h, hf⟩
  · obtain ⟨hb2, hf⟩ := jg_some hf
    obtain ⟨hb4, hf⟩ := jg_some hf
    obtain ⟨q5, hc_5, hf⟩ := jbind hf
    obtain rfl := Option.some.inj hf
    exact ((w_M_readMark hc_5 _ (jout hp (by decide : (([104] : List Nat)).all (fun x => (([104, 124] : List Nat)).contains x) = true))).trans ((jp_set_ne (jne hp (by decide : 124 ∈ ([104, 124] : List Nat)))).trans ((w_M_readNumber hc_1 _ (jout hp (by decide : (([104] : List Nat)).all (fun x => (([104, 124] : List Nat)).contains x) = true))).trans rfl)))
  · obtain rfl := Option.some.inj hf
    exact ((w_M_readNumber hc_1 _ (jout hp (by decide : (([104] : List Nat)).all (fun x => (([104, 124] : List Nat)).contains x) = true))).trans rfl)
theorem w_M_readCite {M : jp_M} {res : Int32 × jp_M} (hf : f_M_readCite M = some res) : ∀ p, p ∉ ([104, 124] : List Nat) → res.2 p = M p := by
  intro p hp
  unfold f_M_readCite at hf
  obtain ⟨q1, hc_1, hf⟩ := jbind hf
  rcases jif_d hf with ⟨h, hf⟩ | ⟨h, hf⟩
  · rcases jif_d hf with ⟨h, hf⟩ | ⟨h, hf⟩
    · obtain ⟨q3, hc_3, hf⟩ := jbind hf
      rcases jif_d hf with ⟨h, hf⟩ | ⟨h, hf⟩
      · exact (w_M_readCite_58 _ _ hf _ hp).trans ((w_M_reads hc_3 _ (jout hp (by decide : (([104] : List Nat)).all (fun x => (([104, 124] : List Nat)).contains x) = true))).trans ((w_M_readTold hc_1 _ (jout hp (by decide : (([104] : List Nat)).all (fun x => (([104, 124] : List Nat)).contains x) = true))).trans rfl))
      · rcases jif_d hf with ⟨h, hf⟩ | ⟨h, hf⟩
        · exact (w_M_readCite_58 _ _ hf _ hp).trans ((w_M_reads hc_3 _ (jout hp (by decide : (([104] : List Nat)).all (fun x => (([104, 124] : List Nat)).contains x) = true))).trans ((w_M_readTold hc_1 _ (jout hp (by decide : (([104] : List Nat)).all (fun x => (([104, 124] : List Nat)).contains x) = true))).trans rfl))
        · obtain rfl := Option.some.inj hf
          exact ((w_M_errs rfl _ (jout hp (by decide : (([104] : List Nat)).all (fun x => (([104, 124] : List Nat)).contains x) = true))).trans ((w_M_reads hc_3 _ (jout hp (by decide : (([104] : List Nat)).all (fun x => (([104, 124] : List Nat)).contains x) = true))).trans ((w_M_readTold hc_1 _ (jout hp (by decide : (([104] : List Nat)).all (fun x => (([104, 124] : List Nat)).contains x) = true))).trans rfl)))
    · obtain rfl := Option.some.inj hf
      exact ((w_M_errs rfl _ (jout hp (by decide : (([104] : List Nat)).all (fun x => (([104, 124] : List Nat)).contains x) = true))).trans ((w_M_readTold hc_1 _ (jout hp (by decide : (([104] : List Nat)).all (fun x => (([104, 124] : List Nat)).contains x) = true))).trans rfl))
  · obtain rfl := Option.some.inj hf
    exact ((w_M_readTold hc_1 _ (jout hp (by decide : (([104] : List Nat)).all (fun x => (([104, 124] : List Nat)).contains x) = true))).trans rfl)
theorem w_M_readCites_26  : ∀ (n : Nat) (l1 : Int32) (M : jp_M) {res : Int32 × jp_M}, f_M_readCites_26 n  l1 M = some res → ∀ p, p ∉ ([104, 124] : List Nat) → res.2 p = M p := by
  intro n
  induction n with
  | zero =>
    intro l1 M res hf
    cases hf
  | succ n ih =>
    intro l1 M res hf p hp
    rw [f_M_readCites_26] at hf
    rcases jif_d hf with ⟨h, hf⟩ | ⟨h, hf⟩
    · rcases jif_d hf with ⟨h, hf⟩ | ⟨h, hf⟩
      · obtain rfl := Option.some.inj hf
        exact ((w_M_errs rfl _ (jout hp (by decide : (([104] : List Nat)).all (fun x => (([104, 124] : List Nat)).contains x) = true))).trans rfl)
      · obtain rfl := Option.some.inj hf
        exact rfl
    · rcases jif_d hf with ⟨h, hf⟩ | ⟨h, hf⟩
      · obtain ⟨q3, hc_3, hf⟩ := jbind hf
        rcases jif_d hf with ⟨h, hf⟩ | ⟨h, hf⟩
        · exact (ih _ _ hf _ hp).trans ((w_M_readCite hc_3 _ (jout hp (by decide : (([104, 124] : List Nat)).all (fun x => (([104, 124] : List Nat)).contains x) = true))).trans rfl)
        · obtain rfl := Option.some.inj hf
          exact ((w_M_readCite hc_3 _ (jout hp (by decide : (([104, 124] : List Nat)).all (fun x => (([104, 124] : List Nat)).contains x) = true))).trans rfl)
      · obtain rfl := Option.some.inj hf
        exact ((w_M_errs rfl _ (jout hp (by decide : (([104] : List Nat)).all (fun x => (([104, 124] : List Nat)).contains x) = true))).trans rfl)
theorem w_M_readCites_2  : ∀ (n : Nat) (l1 : Int32) (M : jp_M) {res : Int32 × jp_M}, f_M_readCites_2 n  l1 M = some res → ∀ p, p ∉ ([104, 124] : List Nat) → res.2 p = M p := by
  intro n
  induction n with
  | zero =>
    intro l1 M res hf
    cases hf
  | succ n ih =>
    intro l1 M res hf p hp
    rw [f_M_readCites_2] at hf
    rcases jif_d hf with ⟨h, hf⟩ | ⟨h, hf⟩
    · exact (w_M_readCites_26 jFu _ _ hf _ hp).trans rfl
    · obtain ⟨hb2, hf⟩ := jg_some hf
      exact (ih _ _ hf _ hp).trans ((jp_set_ne (jne hp (by decide : 124 ∈ ([104, 124] : List Nat)))).trans rfl)
theorem w_M_readCites {M : jp_M} {res : Int32 × jp_M} (hf : f_M_readCites M = some res) : ∀ p, p ∉ ([104, 124] : List Nat) → res.2 p = M p := by
  intro p hp
  unfold f_M_readCites at hf
  exact (w_M_readCites_2 jFu _ _ hf _ hp).trans rfl
theorem w_M_emits {a1 : Int32} {a2 : Int32} {M : jp_M} {res : jp_M} (hf : f_M_emits a1 a2 M = some res) : ∀ p, p ∉ ([104, 119, 120] : List Nat) → res p = M p := by
  intro p hp
  unfold f_M_emits at hf
  obtain ⟨hb2, hf⟩ := jg_some hf
  obtain ⟨hb4, hf⟩ := jg_some hf
  obtain rfl := Option.some.inj hf
  exact ((jp_set_ne (jne hp (by decide : 104 ∈ ([104, 119, 120] : List Nat)))).trans ((jp_set_ne (jne hp (by decide : 120 ∈ ([104, 119, 120] : List Nat)))).trans ((jp_set_ne (jne hp (by decide : 119 ∈ ([104, 119, 120] : List Nat)))).trans rfl)))
theorem w_M_readUnit_71  (s1 : Int32) (s2 : Int32) (M : jp_M) {res : Int32 × jp_M} (hf : f_M_readUnit_71  s1 s2 M = some res) : ∀ p, p ∉ ([104, 119, 120] : List Nat) → res.2 p = M p := by
  intro p hp
  unfold f_M_readUnit_71 at hf
  obtain ⟨q1, hc_1, hf⟩ := jbind hf
  obtain ⟨q2, hc_2, hf⟩ := jbind hf
  obtain rfl := Option.some.inj hf
  exact ((w_M_reads hc_2 _ (jout hp (by decide : (([104] : List Nat)).all (fun x => (([104, 119, 120] : List Nat)).contains x) = true))).trans ((w_M_emits hc_1 _ (jout hp (by decide : (([104, 119, 120] : List Nat)).all (fun x => (([104, 119, 120] : List Nat)).contains x) = true))).trans rfl))
theorem w_M_readUnit_53  (l1 : Int32) (s1 : Int32) (M : jp_M) {res : Int32 × jp_M} (hf : f_M_readUnit_53  l1 s1 M = some res) : ∀ p, p ∉ ([104, 119, 120] : List Nat) → res.2 p = M p := by
  intro p hp
  unfold f_M_readUnit_53 at hf
  rcases jif_d hf with ⟨h, hf⟩ | ⟨h, hf⟩
  · exact (w_M_readUnit_71 _ _ _ hf _ hp).trans rfl
  · exact (w_M_readUnit_71 _ _ _ hf _ hp).trans rfl
theorem w_M_readUnit_43  (l1 : Int32) (M : jp_M) {res : Int32 × jp_M} (hf : f_M_readUnit_43  l1 M = some res) : ∀ p, p ∉ ([104, 119, 120] : List Nat) → res.2 p = M p := by
  intro p hp
  unfold f_M_readUnit_43 at hf
  rcases jif_d hf with ⟨h, hf⟩ | ⟨h, hf⟩
  · exact (w_M_readUnit_53 _ _ _ hf _ hp).trans rfl
  · exact (w_M_readUnit_53 _ _ _ hf _ hp).trans rfl
theorem w_M_readUnit_24  (s0 : Int32) (M : jp_M) {res : Int32 × jp_M} (hf : f_M_readUnit_24  s0 M = some res) : ∀ p, p ∉ ([104, 119, 120] : List Nat) → res.2 p = M p := by
  intro p hp
  unfold f_M_readUnit_24 at hf
  rcases jif_d hf with ⟨h, hf⟩ | ⟨h, hf⟩
  · exact (w_M_readUnit_43 _ _ hf _ hp).trans rfl
  · rcases jif_d hf with ⟨h, hf⟩ | ⟨h, hf⟩
    · exact (w_M_readUnit_43 _ _ hf _ hp).trans rfl
    · obtain rfl := Option.some.inj hf
      exact ((w_M_errs rfl _ (jout hp (by decide : (([104] : List Nat)).all (fun x => (([104, 119, 120] : List Nat)).contains x) = true))).trans rfl)
theorem w_M_readUnit_23  (M : jp_M) {res : Int32 × jp_M} (hf : f_M_readUnit_23  M = some res) : ∀ p, p ∉ ([104, 119, 120] : List Nat) → res.2 p = M p := by
  intro p hp
  unfold f_M_readUnit_23 at hf
  exact (w_M_readUnit_24 _ _ hf _ hp).trans rfl
theorem w_M_readUnit {M : jp_M} {res : Int32 × jp_M} (hf : f_M_readUnit M = some res) : ∀ p, p ∉ ([104, 119, 120] : List Nat) → res.2 p = M p := by
  intro p hp
  unfold f_M_readUnit at hf
  rcases jif_d hf with ⟨h, hf⟩ | ⟨h, hf⟩
  · exact (w_M_readUnit_23 _ hf _ hp).trans rfl
  · rcases jif_d hf with ⟨h, hf⟩ | ⟨h, hf⟩
    · exact (w_M_readUnit_23 _ hf _ hp).trans rfl
    · exact (w_M_readUnit_24 _ _ hf _ hp).trans rfl
theorem w_M_readProduct_94 {c6 : jp_M → Option (Int32 × jp_M)} (hc6 : ∀ (M : jp_M) (res : Int32 × jp_M), c6 M = some res → ∀ p, p ∉ ([104, 119, 120] : List Nat) → res.2 p = M p) (s1 : Int32) (M : jp_M) {res : Int32 × jp_M} (hf : f_M_readProduct_94 c6 s1 M = some res) : ∀ p, p ∉ ([104, 119, 120] : List Nat) → res.2 p = M p := by
  intro p hp
  unfold f_M_readProduct_94 at hf
  obtain ⟨q1, hc_1, hf⟩ := jbind hf
  exact (hc6 _ _ hf _ hp).trans ((w_M_emits hc_1 _ (jout hp (by decide : (([104, 119, 120] : List Nat)).all (fun x => (([104, 119, 120] : List Nat)).contains x) = true))).trans rfl)
theorem w_M_readProduct_74 {c6 : jp_M → Option (Int32 × jp_M)} (hc6 : ∀ (M : jp_M) (res : Int32 × jp_M), c6 M = some res → ∀ p, p ∉ ([104, 119, 120] : List Nat) → res.2 p = M p) (l1 : Int32) (M : jp_M) {res : Int32 × jp_M} (hf : f_M_readProduct_74 c6 l1 M = some res) : ∀ p, p ∉ ([104, 119, 120] : List Nat) → res.2 p = M p := by
  intro p hp
  unfold f_M_readProduct_74 at hf
  obtain ⟨q1, hc_1, hf⟩ := jbind hf
  rcases jif_d hf with ⟨h, hf⟩ | ⟨h, hf⟩
  · rcases jif_d hf with ⟨h, hf⟩ | ⟨h, hf⟩
    · exact (w_M_readProduct_94 hc6 _ _ hf _ hp).trans ((w_M_readUnit hc_1 _ (jout hp (by decide : (([104, 119, 120] : List Nat)).all (fun x => (([104, 119, 120] : List Nat)).contains x) = true))).trans rfl)
    · exact (w_M_readProduct_94 hc6 _ _ hf _ hp).trans ((w_M_readUnit hc_1 _ (jout hp (by decide : (([104, 119, 120] : List Nat)).all (fun x => (([104, 119, 120] : List Nat)).contains x) = true))).trans rfl)
  · obtain rfl := Option.some.inj hf
    exact ((w_M_readUnit hc_1 _ (jout hp (by decide : (([104, 119, 120] : List Nat)).all (fun x => (([104, 119, 120] : List Nat)).contains x) = true))).trans rfl)
theorem w_M_readProduct_57 {c6 : jp_M → Option (Int32 × jp_M)} (hc6 : ∀ (M : jp_M) (res : Int32 × jp_M), c6 M = some res → ∀ p, p ∉ ([104, 119, 120] : List Nat) → res.2 p = M p) (l1 : Int32) (M : jp_M) {res : Int32 × jp_M} (hf : f_M_readProduct_57 c6 l1 M = some res) : ∀ p, p ∉ ([104, 119, 120] : List Nat) → res.2 p = M p := by
  intro p hp
  unfold f_M_readProduct_57 at hf
  rcases jif_d hf with ⟨h, hf⟩ | ⟨h, hf⟩
  · exact (w_M_readProduct_74 hc6 _ _ hf _ hp).trans rfl
  · rcases jif_d hf with ⟨h, hf⟩ | ⟨h, hf⟩
    · exact (w_M_readProduct_74 hc6 _ _ hf _ hp).trans rfl
    · obtain rfl := Option.some.inj hf
      exact ((w_M_errs rfl _ (jout hp (by decide : (([104] : List Nat)).all (fun x => (([104, 119, 120] : List Nat)).contains x) = true))).trans rfl)
theorem w_M_readProduct_28 {c6 : jp_M → Option (Int32 × jp_M)} (hc6 : ∀ (M : jp_M) (res : Int32 × jp_M), c6 M = some res → ∀ p, p ∉ ([104, 119, 120] : List Nat) → res.2 p = M p) (M : jp_M) {res : Int32 × jp_M} (hf : f_M_readProduct_28 c6 M = some res) : ∀ p, p ∉ ([104, 119, 120] : List Nat) → res.2 p = M p := by
  intro p hp
  unfold f_M_readProduct_28 at hf
  obtain ⟨q2, hc_2, hf⟩ := jbind hf
  rcases jif_d hf with ⟨h, hf⟩ | ⟨h, hf⟩
  · exact (w_M_readProduct_57 hc6 _ _ hf _ hp).trans ((w_M_reads hc_2 _ (jout hp (by decide : (([104] : List Nat)).all (fun x => (([104, 119, 120] : List Nat)).contains x) = true))).trans rfl)
  · rcases jif_d hf with ⟨h, hf⟩ | ⟨h, hf⟩
    · exact (w_M_readProduct_57 hc6 _ _ hf _ hp).trans ((w_M_reads hc_2 _ (jout hp (by decide : (([104] : List Nat)).all (fun x => (([104, 119, 120] : List Nat)).contains x) = true))).trans rfl)
    · obtain rfl := Option.some.inj hf
      exact ((w_M_errs rfl _ (jout hp (by decide : (([104] : List Nat)).all (fun x => (([104, 119, 120] : List Nat)).contains x) = true))).trans ((w_M_reads hc_2 _ (jout hp (by decide : (([104] : List Nat)).all (fun x => (([104, 119, 120] : List Nat)).contains x) = true))).trans rfl))
theorem w_M_readProduct_10  : ∀ (n : Nat) (M : jp_M) {res : Int32 × jp_M}, f_M_readProduct_10 n  M = some res → ∀ p, p ∉ ([104, 119, 120] : List Nat) → res.2 p = M p := by
  intro n
  induction n with
  | zero =>
    intro M res hf
    cases hf
  | succ n ih =>
    intro M res hf p hp
    rw [f_M_readProduct_10] at hf
    rcases jif_d hf with ⟨h, hf⟩ | ⟨h, hf⟩
    · exact (w_M_readProduct_28 (fun M res hf => ih M hf) _ hf _ hp).trans rfl
    · rcases jif_d hf with ⟨h, hf⟩ | ⟨h, hf⟩
      · obtain rfl := Option.some.inj hf
        exact rfl
      · exact (w_M_readProduct_28 (fun M res hf => ih M hf) _ hf _ hp).trans rfl
theorem w_M_readProduct {M : jp_M} {res : Int32 × jp_M} (hf : f_M_readProduct M = some res) : ∀ p, p ∉ ([104, 119, 120] : List Nat) → res.2 p = M p := by
  intro p hp
  unfold f_M_readProduct at hf
  obtain ⟨q1, hc_1, hf⟩ := jbind hf
  rcases jif_d hf with ⟨h, hf⟩ | ⟨h, hf⟩
  · exact (w_M_readProduct_10 jFu _ hf _ hp).trans ((w_M_readUnit hc_1 _ (jout hp (by decide : (([104, 119, 120] : List Nat)).all (fun x => (([104, 119, 120] : List Nat)).contains x) = true))).trans rfl)
  · obtain rfl := Option.some.inj hf
    exact ((w_M_readUnit hc_1 _ (jout hp (by decide : (([104, 119, 120] : List Nat)).all (fun x => (([104, 119, 120] : List Nat)).contains x) = true))).trans rfl)
theorem w_M_readSum_42 {c6 : jp_M → Option (Int32 × jp_M)} (hc6 : ∀ (M : jp_M) (res : Int32 × jp_M), c6 M = some res → ∀ p, p ∉ ([104, 119, 120] : List Nat) → res.2 p = M p) (s0 : Int32) (M : jp_M) {res : Int32 × jp_M} (hf : f_M_readSum_42 c6 s0 M = some res) : ∀ p, p ∉ ([104, 119, 120] : List Nat) → res.2 p = M p := by
  intro p hp
  unfold f_M_readSum_42 at hf
  obtain ⟨q1, hc_1, hf⟩ := jbind hf
  obtain ⟨q2, hc_2, hf⟩ := jbind hf
  rcases jif_d hf with ⟨h, hf⟩ | ⟨h, hf⟩
  · obtain ⟨q3, hc_3, hf⟩ := jbind hf
    exact (hc6 _ _ hf _ hp).trans ((w_M_emits hc_3 _ (jout hp (by decide : (([104, 119, 120] : List Nat)).all (fun x => (([104, 119, 120] : List Nat)).contains x) = true))).trans ((w_M_readProduct hc_2 _ (jout hp (by decide : (([104, 119, 120] : List Nat)).all (fun x => (([104, 119, 120] : List Nat)).contains x) = true))).trans ((w_M_reads hc_1 _ (jout hp (by decide : (([104] : List Nat)).all (fun x => (([104, 119, 120] : List Nat)).contains x) = true))).trans rfl)))
  · obtain rfl := Option.some.inj hf
    exact ((w_M_readProduct hc_2 _ (jout hp (by decide : (([104, 119, 120] : List Nat)).all (fun x => (([104, 119, 120] : List Nat)).contains x) = true))).trans ((w_M_reads hc_1 _ (jout hp (by decide : (([104] : List Nat)).all (fun x => (([104, 119, 120] : List Nat)).contains x) = true))).trans rfl))
theorem w_M_readSum_28 {c6 : jp_M → Option (Int32 × jp_M)} (hc6 : ∀ (M : jp_M) (res : Int32 × jp_M), c6 M = some res → ∀ p, p ∉ ([104, 119, 120] : List Nat) → res.2 p = M p) (M : jp_M) {res : Int32 × jp_M} (hf : f_M_readSum_28 c6 M = some res) : ∀ p, p ∉ ([104, 119, 120] : List Nat) → res.2 p = M p := by
  intro p hp
  unfold f_M_readSum_28 at hf
  rcases jif_d hf with ⟨h, hf⟩ | ⟨h, hf⟩
  · exact (w_M_readSum_42 hc6 _ _ hf _ hp).trans rfl
  · exact (w_M_readSum_42 hc6 _ _ hf _ hp).trans rfl
theorem w_M_readSum_10  : ∀ (n : Nat) (M : jp_M) {res : Int32 × jp_M}, f_M_readSum_10 n  M = some res → ∀ p, p ∉ ([104, 119, 120] : List Nat) → res.2 p = M p := by
  intro n
  induction n with
  | zero =>
    intro M res hf
    cases hf
  | succ n ih =>
    intro M res hf p hp
    rw [f_M_readSum_10] at hf
    rcases jif_d hf with ⟨h, hf⟩ | ⟨h, hf⟩
    · exact (w_M_readSum_28 (fun M res hf => ih M hf) _ hf _ hp).trans rfl
    · rcases jif_d hf with ⟨h, hf⟩ | ⟨h, hf⟩
      · obtain rfl := Option.some.inj hf
        exact rfl
      · exact (w_M_readSum_28 (fun M res hf => ih M hf) _ hf _ hp).trans rfl
theorem w_M_readSum {M : jp_M} {res : Int32 × jp_M} (hf : f_M_readSum M = some res) : ∀ p, p ∉ ([104, 119, 120] : List Nat) → res.2 p = M p := by
  intro p hp
  unfold f_M_readSum at hf
  obtain ⟨q1, hc_1, hf⟩ := jbind hf
  rcases jif_d hf with ⟨h, hf⟩ | ⟨h, hf⟩
  · exact (w_M_readSum_10 jFu _ hf _ hp).trans ((w_M_readProduct hc_1 _ (jout hp (by decide : (([104, 119, 120] : List Nat)).all (fun x => (([104, 119, 120] : List Nat)).contains x) = true))).trans rfl)
  · obtain rfl := Option.some.inj hf
    exact ((w_M_readProduct hc_1 _ (jout hp (by decide : (([104, 119, 120] : List Nat)).all (fun x => (([104, 119, 120] : List Nat)).contains x) = true))).trans rfl)
theorem w_M_waits {a1 : Int32} {M : jp_M} {res : jp_M} (hf : f_M_waits a1 M = some res) : ∀ p, p ∉ ([104, 121] : List Nat) → res p = M p := by
  intro p hp
  unfold f_M_waits at hf
  obtain ⟨hb2, hf⟩ := jg_some hf
  obtain rfl := Option.some.inj hf
  exact ((jp_set_ne (jne hp (by decide : 104 ∈ ([104, 121] : List Nat)))).trans ((jp_set_ne (jne hp (by decide : 121 ∈ ([104, 121] : List Nat)))).trans rfl))
theorem w_M_readCompared_73  (s0 : Int32) (M : jp_M) {res : Int32 × jp_M} (hf : f_M_readCompared_73  s0 M = some res) : ∀ p, p ∉ ([104, 119, 120] : List Nat) → res.2 p = M p := by
  intro p hp
  unfold f_M_readCompared_73 at hf
  obtain ⟨q1, hc_1, hf⟩ := jbind hf
  obtain ⟨q2, hc_2, hf⟩ := jbind hf
  rcases jif_d hf with ⟨h, hf⟩ | ⟨h, hf⟩
  · obtain ⟨q3, hc_3, hf⟩ := jbind hf
    obtain rfl := Option.some.inj hf
    exact ((w_M_emits hc_3 _ (jout hp (by decide : (([104, 119, 120] : List Nat)).all (fun x => (([104, 119, 120] : List Nat)).contains x) = true))).trans ((w_M_readSum hc_2 _ (jout hp (by decide : (([104, 119, 120] : List Nat)).all (fun x => (([104, 119, 120] : List Nat)).contains x) = true))).trans ((w_M_reads hc_1 _ (jout hp (by decide : (([104] : List Nat)).all (fun x => (([104, 119, 120] : List Nat)).contains x) = true))).trans rfl)))
  · obtain rfl := Option.some.inj hf
    exact ((w_M_readSum hc_2 _ (jout hp (by decide : (([104, 119, 120] : List Nat)).all (fun x => (([104, 119, 120] : List Nat)).contains x) = true))).trans ((w_M_reads hc_1 _ (jout hp (by decide : (([104] : List Nat)).all (fun x => (([104, 119, 120] : List Nat)).contains x) = true))).trans rfl))
theorem w_M_readCompared_43  (M : jp_M) {res : Int32 × jp_M} (hf : f_M_readCompared_43  M = some res) : ∀ p, p ∉ ([104, 119, 120] : List Nat) → res.2 p = M p := by
  intro p hp
  unfold f_M_readCompared_43 at hf
  rcases jif_d hf with ⟨h, hf⟩ | ⟨h, hf⟩
  · rcases jif_d hf with ⟨h, hf⟩ | ⟨h, hf⟩
    · exact (w_M_readCompared_73 _ _ hf _ hp).trans rfl
    · exact (w_M_readCompared_73 _ _ hf _ hp).trans rfl
  · exact (w_M_readCompared_73 _ _ hf _ hp).trans rfl
theorem w_M_readCompared {M : jp_M} {res : Int32 × jp_M} (hf : f_M_readCompared M = some res) : ∀ p, p ∉ ([104, 119, 120] : List Nat) → res.2 p = M p := by
  intro p hp
  unfold f_M_readCompared at hf
  obtain ⟨q1, hc_1, hf⟩ := jbind hf
  rcases jif_d hf with ⟨h, hf⟩ | ⟨h, hf⟩
  · rcases jif_d hf with ⟨h, hf⟩ | ⟨h, hf⟩
    · exact (w_M_readCompared_43 _ hf _ hp).trans ((w_M_readSum hc_1 _ (jout hp (by decide : (([104, 119, 120] : List Nat)).all (fun x => (([104, 119, 120] : List Nat)).contains x) = true))).trans rfl)
    · rcases jif_d hf with ⟨h, hf⟩ | ⟨h, hf⟩
      · exact (w_M_readCompared_43 _ hf _ hp).trans ((w_M_readSum hc_1 _ (jout hp (by decide : (([104, 119, 120] : List Nat)).all (fun x => (([104, 119, 120] : List Nat)).contains x) = true))).trans rfl)
      · rcases jif_d hf with ⟨h, hf⟩ | ⟨h, hf⟩
        · exact (w_M_readCompared_43 _ hf _ hp).trans ((w_M_readSum hc_1 _ (jout hp (by decide : (([104, 119, 120] : List Nat)).all (fun x => (([104, 119, 120] : List Nat)).contains x) = true))).trans rfl)
        · obtain rfl := Option.some.inj hf
          exact ((w_M_errs rfl _ (jout hp (by decide : (([104] : List Nat)).all (fun x => (([104, 119, 120] : List Nat)).contains x) = true))).trans ((w_M_readSum hc_1 _ (jout hp (by decide : (([104, 119, 120] : List Nat)).all (fun x => (([104, 119, 120] : List Nat)).contains x) = true))).trans rfl))
  · obtain rfl := Option.some.inj hf
    exact ((w_M_readSum hc_1 _ (jout hp (by decide : (([104, 119, 120] : List Nat)).all (fun x => (([104, 119, 120] : List Nat)).contains x) = true))).trans rfl)
theorem w_M_settles_0  : ∀ (n : Nat) (l1 : Int32) (M : jp_M) {res : jp_M}, f_M_settles_0 n  l1 M = some res → ∀ p, p ∉ ([104, 119, 120] : List Nat) → res p = M p := by
  intro n
  induction n with
  | zero =>
    intro l1 M res hf
    cases hf
  | succ n ih =>
    intro l1 M res hf p hp
    rw [f_M_settles_0] at hf
    rcases jif_d hf with ⟨h, hf⟩ | ⟨h, hf⟩
    · obtain rfl := Option.some.inj hf
      exact rfl
    · obtain ⟨hb1, hf⟩ := jg_some hf
      rcases jif_d hf with ⟨h, hf⟩ | ⟨h, hf⟩
      · obtain rfl := Option.some.inj hf
        exact rfl
      · obtain ⟨q3, hc_3, hf⟩ := jbind hf
        rcases jif_d hf with ⟨h, hf⟩ | ⟨h, hf⟩
        · exact (ih _ _ hf _ hp).trans ((w_M_emits hc_3 _ (jout hp (by decide : (([104, 119, 120] : List Nat)).all (fun x => (([104, 119, 120] : List Nat)).contains x) = true))).trans ((jp_set_ne (jne hp (by decide : 104 ∈ ([104, 119, 120] : List Nat)))).trans rfl))
        · exact (ih _ _ hf _ hp).trans ((jp_set_ne (jne hp (by decide : 104 ∈ ([104, 119, 120] : List Nat)))).trans ((w_M_emits hc_3 _ (jout hp (by decide : (([104, 119, 120] : List Nat)).all (fun x => (([104, 119, 120] : List Nat)).contains x) = true))).trans ((jp_set_ne (jne hp (by decide : 104 ∈ ([104, 119, 120] : List Nat)))).trans rfl)))
theorem w_M_settles {a1 : Int32} {M : jp_M} {res : jp_M} (hf : f_M_settles a1 M = some res) : ∀ p, p ∉ ([104, 119, 120] : List Nat) → res p = M p := by
  intro p hp
  unfold f_M_settles at hf
  exact (w_M_settles_0 jFu _ _ hf _ hp).trans rfl
theorem w_M_readAny_78 {c7 : Int32 → Int32 → jp_M → Option (Int32 × jp_M)} (hc7 : ∀ (l1 : Int32) (l2 : Int32) (M : jp_M) (res : Int32 × jp_M), c7 l1 l2 M = some res → ∀ p, p ∉ ([104, 119, 120, 121] : List Nat) → res.2 p = M p) (l1 : Int32) (l2 : Int32) (s1 : Int32) (M : jp_M) {res : Int32 × jp_M} (hf : f_M_readAny_78 c7 l1 l2 s1 M = some res) : ∀ p, p ∉ ([104, 119, 120, 121] : List Nat) → res.2 p = M p := by
  intro p hp
  unfold f_M_readAny_78 at hf
  obtain ⟨q1, hc_1, hf⟩ := jbind hf
  obtain ⟨q2, hc_2, hf⟩ := jbind hf
  exact (hc7 _ _ _ _ hf _ hp).trans ((w_M_reads hc_2 _ (jout hp (by decide : (([104] : List Nat)).all (fun x => (([104, 119, 120, 121] : List Nat)).contains x) = true))).trans ((w_M_waits hc_1 _ (jout hp (by decide : (([104, 121] : List Nat)).all (fun x => (([104, 119, 120, 121] : List Nat)).contains x) = true))).trans rfl))
theorem w_M_readAny_66 {c7 : Int32 → Int32 → jp_M → Option (Int32 × jp_M)} (hc7 : ∀ (l1 : Int32) (l2 : Int32) (M : jp_M) (res : Int32 × jp_M), c7 l1 l2 M = some res → ∀ p, p ∉ ([104, 119, 120, 121] : List Nat) → res.2 p = M p) (l1 : Int32) (l2 : Int32) (l3 : Int32) (M : jp_M) {res : Int32 × jp_M} (hf : f_M_readAny_66 c7 l1 l2 l3 M = some res) : ∀ p, p ∉ ([104, 119, 120, 121] : List Nat) → res.2 p = M p := by
  intro p hp
  unfold f_M_readAny_66 at hf
  rcases jif_d hf with ⟨h, hf⟩ | ⟨h, hf⟩
  · exact (w_M_readAny_78 hc7 _ _ _ _ hf _ hp).trans rfl
  · exact (w_M_readAny_78 hc7 _ _ _ _ hf _ hp).trans rfl
theorem w_M_readAny_33 {c7 : Int32 → Int32 → jp_M → Option (Int32 × jp_M)} (hc7 : ∀ (l1 : Int32) (l2 : Int32) (M : jp_M) (res : Int32 × jp_M), c7 l1 l2 M = some res → ∀ p, p ∉ ([104, 119, 120, 121] : List Nat) → res.2 p = M p) (l1 : Int32) (l2 : Int32) (l3 : Int32) (M : jp_M) {res : Int32 × jp_M} (hf : f_M_readAny_33 c7 l1 l2 l3 M = some res) : ∀ p, p ∉ ([104, 119, 120, 121] : List Nat) → res.2 p = M p := by
  intro p hp
  unfold f_M_readAny_33 at hf
  rcases jif_d hf with ⟨h, hf⟩ | ⟨h, hf⟩
  · rcases jif_d hf with ⟨h, hf⟩ | ⟨h, hf⟩
    · exact (w_M_readAny_66 hc7 _ _ _ _ hf _ hp).trans ((jp_set_ne (jne hp (by decide : 104 ∈ ([104, 119, 120, 121] : List Nat)))).trans rfl)
    · exact (w_M_readAny_66 hc7 _ _ _ _ hf _ hp).trans ((jp_set_ne (jne hp (by decide : 104 ∈ ([104, 119, 120, 121] : List Nat)))).trans rfl)
  · obtain rfl := Option.some.inj hf
    exact ((w_M_errs rfl _ (jout hp (by decide : (([104] : List Nat)).all (fun x => (([104, 119, 120, 121] : List Nat)).contains x) = true))).trans rfl)
theorem w_M_readAny_9  : ∀ (n : Nat) (l1 : Int32) (l2 : Int32) (M : jp_M) {res : Int32 × jp_M}, f_M_readAny_9 n  l1 l2 M = some res → ∀ p, p ∉ ([104, 119, 120, 121] : List Nat) → res.2 p = M p := by
  intro n
  induction n with
  | zero =>
    intro l1 l2 M res hf
    cases hf
  | succ n ih =>
    intro l1 l2 M res hf p hp
    rw [f_M_readAny_9] at hf
    rcases jif_d hf with ⟨h, hf⟩ | ⟨h, hf⟩
    · rcases jif_d hf with ⟨h, hf⟩ | ⟨h, hf⟩
      · rcases jif_d hf with ⟨h, hf⟩ | ⟨h, hf⟩
        · obtain ⟨q3, hc_3, hf⟩ := jbind hf
          obtain ⟨q4, hc_4, hf⟩ := jbind hf
          rcases jif_d hf with ⟨h, hf⟩ | ⟨h, hf⟩
          · rcases jif_d hf with ⟨h, hf⟩ | ⟨h, hf⟩
            · obtain ⟨q8, hc_8, hf⟩ := jbind hf
              obtain ⟨q9, hc_9, hf⟩ := jbind hf
              exact (ih _ _ _ hf _ hp).trans ((w_M_reads hc_9 _ (jout hp (by decide : (([104] : List Nat)).all (fun x => (([104, 119, 120, 121] : List Nat)).contains x) = true))).trans ((w_M_settles hc_8 _ (jout hp (by decide : (([104, 119, 120] : List Nat)).all (fun x => (([104, 119, 120, 121] : List Nat)).contains x) = true))).trans ((jp_set_ne (jne hp (by decide : 104 ∈ ([104, 119, 120, 121] : List Nat)))).trans ((jp_set_ne (jne hp (by decide : 104 ∈ ([104, 119, 120, 121] : List Nat)))).trans ((w_M_settles hc_4 _ (jout hp (by decide : (([104, 119, 120] : List Nat)).all (fun x => (([104, 119, 120, 121] : List Nat)).contains x) = true))).trans ((w_M_settles hc_3 _ (jout hp (by decide : (([104, 119, 120] : List Nat)).all (fun x => (([104, 119, 120, 121] : List Nat)).contains x) = true))).trans rfl))))))
            · obtain rfl := Option.some.inj hf
              exact ((w_M_errs rfl _ (jout hp (by decide : (([104] : List Nat)).all (fun x => (([104, 119, 120, 121] : List Nat)).contains x) = true))).trans ((w_M_settles hc_4 _ (jout hp (by decide : (([104, 119, 120] : List Nat)).all (fun x => (([104, 119, 120, 121] : List Nat)).contains x) = true))).trans ((w_M_settles hc_3 _ (jout hp (by decide : (([104, 119, 120] : List Nat)).all (fun x => (([104, 119, 120, 121] : List Nat)).contains x) = true))).trans rfl)))
          · obtain rfl := Option.some.inj hf
            exact ((w_M_settles hc_4 _ (jout hp (by decide : (([104, 119, 120] : List Nat)).all (fun x => (([104, 119, 120, 121] : List Nat)).contains x) = true))).trans ((w_M_settles hc_3 _ (jout hp (by decide : (([104, 119, 120] : List Nat)).all (fun x => (([104, 119, 120, 121] : List Nat)).contains x) = true))).trans rfl))
        · obtain ⟨q11, hc_11, hf⟩ := jbind hf
          obtain ⟨q12, hc_12, hf⟩ := jbind hf
          obtain ⟨q13, hc_13, hf⟩ := jbind hf
          obtain ⟨q14, hc_14, hf⟩ := jbind hf
          exact (ih _ _ _ hf _ hp).trans ((w_M_reads hc_14 _ (jout hp (by decide : (([104] : List Nat)).all (fun x => (([104, 119, 120, 121] : List Nat)).contains x) = true))).trans ((w_M_waits hc_13 _ (jout hp (by decide : (([104, 121] : List Nat)).all (fun x => (([104, 119, 120, 121] : List Nat)).contains x) = true))).trans ((w_M_settles hc_12 _ (jout hp (by decide : (([104, 119, 120] : List Nat)).all (fun x => (([104, 119, 120, 121] : List Nat)).contains x) = true))).trans ((w_M_settles hc_11 _ (jout hp (by decide : (([104, 119, 120] : List Nat)).all (fun x => (([104, 119, 120, 121] : List Nat)).contains x) = true))).trans rfl))))
      · obtain ⟨q15, hc_15, hf⟩ := jbind hf
        obtain ⟨q16, hc_16, hf⟩ := jbind hf
        obtain ⟨q17, hc_17, hf⟩ := jbind hf
        exact (ih _ _ _ hf _ hp).trans ((w_M_reads hc_17 _ (jout hp (by decide : (([104] : List Nat)).all (fun x => (([104, 119, 120, 121] : List Nat)).contains x) = true))).trans ((w_M_waits hc_16 _ (jout hp (by decide : (([104, 121] : List Nat)).all (fun x => (([104, 119, 120, 121] : List Nat)).contains x) = true))).trans ((w_M_settles hc_15 _ (jout hp (by decide : (([104, 119, 120] : List Nat)).all (fun x => (([104, 119, 120, 121] : List Nat)).contains x) = true))).trans rfl)))
    · rcases jif_d hf with ⟨h, hf⟩ | ⟨h, hf⟩
      · exact (w_M_readAny_33 (fun l1 l2 M res hf => ih l1 l2 M hf) _ _ _ _ hf _ hp).trans rfl
      · rcases jif_d hf with ⟨h, hf⟩ | ⟨h, hf⟩
        · obtain ⟨q20, hc_20, hf⟩ := jbind hf
          rcases jif_d hf with ⟨h, hf⟩ | ⟨h, hf⟩
          · obtain ⟨q21, hc_21, hf⟩ := jbind hf
            exact (ih _ _ _ hf _ hp).trans ((w_M_settles hc_21 _ (jout hp (by decide : (([104, 119, 120] : List Nat)).all (fun x => (([104, 119, 120, 121] : List Nat)).contains x) = true))).trans ((w_M_readCompared hc_20 _ (jout hp (by decide : (([104, 119, 120] : List Nat)).all (fun x => (([104, 119, 120, 121] : List Nat)).contains x) = true))).trans rfl))
          · obtain rfl := Option.some.inj hf
            exact ((w_M_readCompared hc_20 _ (jout hp (by decide : (([104, 119, 120] : List Nat)).all (fun x => (([104, 119, 120, 121] : List Nat)).contains x) = true))).trans rfl)
        · exact (w_M_readAny_33 (fun l1 l2 M res hf => ih l1 l2 M hf) _ _ _ _ hf _ hp).trans rfl
theorem w_M_readAny {M : jp_M} {res : Int32 × jp_M} (hf : f_M_readAny M = some res) : ∀ p, p ∉ ([104, 119, 120, 121] : List Nat) → res.2 p = M p := by
  intro p hp
  unfold f_M_readAny at hf
  exact (w_M_readAny_9 jFu _ _ _ hf _ hp).trans ((jp_set_ne (jne hp (by decide : 104 ∈ ([104, 119, 120, 121] : List Nat)))).trans rfl)
theorem w_M_readLaw_92 {c2 : Int32 → jp_M → Option (Int32 × jp_M)} (hc2 : ∀ (l1 : Int32) (M : jp_M) (res : Int32 × jp_M), c2 l1 M = some res → ∀ p, p ∉ ([104, 115, 116, 117, 118, 119, 120, 121] : List Nat) → res.2 p = M p) (l1 : Int32) (l2 : Int32) (M : jp_M) {res : Int32 × jp_M} (hf : f_M_readLaw_92 c2 l1 l2 M = some res) : ∀ p, p ∉ ([104, 115, 116, 117, 118, 119, 120, 121] : List Nat) → res.2 p = M p := by
  intro p hp
  unfold f_M_readLaw_92 at hf
  obtain ⟨hb2, hf⟩ := jg_some hf
  rcases jif_d hf with ⟨h, hf⟩ | ⟨h, hf⟩
  · obtain ⟨q4, hc_4, hf⟩ := jbind hf
    exact (hc2 _ _ _ hf _ hp).trans ((w_M_reads hc_4 _ (jout hp (by decide : (([104] : List Nat)).all (fun x => (([104, 115, 116, 117, 118, 119, 120, 121] : List Nat)).contains x) = true))).trans ((jp_set_ne (jne hp (by decide : 118 ∈ ([104, 115, 116, 117, 118, 119, 120, 121] : List Nat)))).trans rfl))
  · obtain rfl := Option.some.inj hf
    exact ((w_M_errs rfl _ (jout hp (by decide : (([104] : List Nat)).all (fun x => (([104, 115, 116, 117, 118, 119, 120, 121] : List Nat)).contains x) = true))).trans ((jp_set_ne (jne hp (by decide : 118 ∈ ([104, 115, 116, 117, 118, 119, 120, 121] : List Nat)))).trans rfl))
theorem w_M_readLaw_2  : ∀ (n : Nat) (l1 : Int32) (M : jp_M) {res : Int32 × jp_M}, f_M_readLaw_2 n  l1 M = some res → ∀ p, p ∉ ([104, 115, 116, 117, 118, 119, 120, 121] : List Nat) → res.2 p = M p := by
  intro n
  induction n with
  | zero =>
    intro l1 M res hf
    cases hf
  | succ n ih =>
    intro l1 M res hf p hp
    rw [f_M_readLaw_2] at hf
    rcases jif_d hf with ⟨h, hf⟩ | ⟨h, hf⟩
    · rcases jif_d hf with ⟨h, hf⟩ | ⟨h, hf⟩
      · obtain rfl := Option.some.inj hf
        exact ((w_M_errs rfl _ (jout hp (by decide : (([104] : List Nat)).all (fun x => (([104, 115, 116, 117, 118, 119, 120, 121] : List Nat)).contains x) = true))).trans rfl)
      · obtain rfl := Option.some.inj hf
        exact rfl
    · rcases jif_d hf with ⟨h, hf⟩ | ⟨h, hf⟩
      · obtain ⟨hb4, hf⟩ := jg_some hf
        obtain ⟨q5, hc_5, hf⟩ := jbind hf
        obtain ⟨hb7, hf⟩ := jg_some hf
        obtain ⟨q8, hc_8, hf⟩ := jbind hf
        rcases jif_d hf with ⟨h, hf⟩ | ⟨h, hf⟩
        · obtain ⟨hb10, hf⟩ := jg_some hf
          rcases jif_d hf with ⟨h, hf⟩ | ⟨h, hf⟩
          · exact (w_M_readLaw_92 (fun l1 M res hf => ih l1 M hf) _ _ _ hf _ hp).trans ((jp_set_ne (jne hp (by decide : 117 ∈ ([104, 115, 116, 117, 118, 119, 120, 121] : List Nat)))).trans ((w_M_readSum hc_8 _ (jout hp (by decide : (([104, 119, 120] : List Nat)).all (fun x => (([104, 115, 116, 117, 118, 119, 120, 121] : List Nat)).contains x) = true))).trans ((jp_set_ne (jne hp (by decide : 116 ∈ ([104, 115, 116, 117, 118, 119, 120, 121] : List Nat)))).trans ((w_M_reads hc_5 _ (jout hp (by decide : (([104] : List Nat)).all (fun x => (([104, 115, 116, 117, 118, 119, 120, 121] : List Nat)).contains x) = true))).trans ((jp_set_ne (jne hp (by decide : 115 ∈ ([104, 115, 116, 117, 118, 119, 120, 121] : List Nat)))).trans rfl)))))
          · obtain ⟨q12, hc_12, hf⟩ := jbind hf
            obtain ⟨q13, hc_13, hf⟩ := jbind hf
            rcases jif_d hf with ⟨h, hf⟩ | ⟨h, hf⟩
            · exact (w_M_readLaw_92 (fun l1 M res hf => ih l1 M hf) _ _ _ hf _ hp).trans ((w_M_readAny hc_13 _ (jout hp (by decide : (([104, 119, 120, 121] : List Nat)).all (fun x => (([104, 115, 116, 117, 118, 119, 120, 121] : List Nat)).contains x) = true))).trans ((w_M_reads hc_12 _ (jout hp (by decide : (([104] : List Nat)).all (fun x => (([104, 115, 116, 117, 118, 119, 120, 121] : List Nat)).contains x) = true))).trans ((jp_set_ne (jne hp (by decide : 117 ∈ ([104, 115, 116, 117, 118, 119, 120, 121] : List Nat)))).trans ((w_M_readSum hc_8 _ (jout hp (by decide : (([104, 119, 120] : List Nat)).all (fun x => (([104, 115, 116, 117, 118, 119, 120, 121] : List Nat)).contains x) = true))).trans ((jp_set_ne (jne hp (by decide : 116 ∈ ([104, 115, 116, 117, 118, 119, 120, 121] : List Nat)))).trans ((w_M_reads hc_5 _ (jout hp (by decide : (([104] : List Nat)).all (fun x => (([104, 115, 116, 117, 118, 119, 120, 121] : List Nat)).contains x) = true))).trans ((jp_set_ne (jne hp (by decide : 115 ∈ ([104, 115, 116, 117, 118, 119, 120, 121] : List Nat)))).trans rfl)))))))
            · obtain rfl := Option.some.inj hf
              exact ((w_M_readAny hc_13 _ (jout hp (by decide : (([104, 119, 120, 121] : List Nat)).all (fun x => (([104, 115, 116, 117, 118, 119, 120, 121] : List Nat)).contains x) = true))).trans ((w_M_reads hc_12 _ (jout hp (by decide : (([104] : List Nat)).all (fun x => (([104, 115, 116, 117, 118, 119, 120, 121] : List Nat)).contains x) = true))).trans ((jp_set_ne (jne hp (by decide : 117 ∈ ([104, 115, 116, 117, 118, 119, 120, 121] : List Nat)))).trans ((w_M_readSum hc_8 _ (jout hp (by decide : (([104, 119, 120] : List Nat)).all (fun x => (([104, 115, 116, 117, 118, 119, 120, 121] : List Nat)).contains x) = true))).trans ((jp_set_ne (jne hp (by decide : 116 ∈ ([104, 115, 116, 117, 118, 119, 120, 121] : List Nat)))).trans ((w_M_reads hc_5 _ (jout hp (by decide : (([104] : List Nat)).all (fun x => (([104, 115, 116, 117, 118, 119, 120, 121] : List Nat)).contains x) = true))).trans ((jp_set_ne (jne hp (by decide : 115 ∈ ([104, 115, 116, 117, 118, 119, 120, 121] : List Nat)))).trans rfl)))))))
        · obtain rfl := Option.some.inj hf
          exact ((w_M_readSum hc_8 _ (jout hp (by decide : (([104, 119, 120] : List Nat)).all (fun x => (([104, 115, 116, 117, 118, 119, 120, 121] : List Nat)).contains x) = true))).trans ((jp_set_ne (jne hp (by decide : 116 ∈ ([104, 115, 116, 117, 118, 119, 120, 121] : List Nat)))).trans ((w_M_reads hc_5 _ (jout hp (by decide : (([104] : List Nat)).all (fun x => (([104, 115, 116, 117, 118, 119, 120, 121] : List Nat)).contains x) = true))).trans ((jp_set_ne (jne hp (by decide : 115 ∈ ([104, 115, 116, 117, 118, 119, 120, 121] : List Nat)))).trans rfl))))
      · obtain rfl := Option.some.inj hf
        exact ((w_M_errs rfl _ (jout hp (by decide : (([104] : List Nat)).all (fun x => (([104, 115, 116, 117, 118, 119, 120, 121] : List Nat)).contains x) = true))).trans rfl)
theorem w_M_readLaw {M : jp_M} {res : Int32 × jp_M} (hf : f_M_readLaw M = some res) : ∀ p, p ∉ ([104, 115, 116, 117, 118, 119, 120, 121] : List Nat) → res.2 p = M p := by
  intro p hp
  unfold f_M_readLaw at hf
  exact (w_M_readLaw_2 jFu _ _ hf _ hp).trans rfl
theorem w_M_readsText {a1 : Int32} {M : jp_M} {res : Int32 × jp_M} (hf : f_M_readsText a1 M = some res) : ∀ p, p ∉ ([104, 115, 116, 117, 118, 119, 120, 121, 122, 123, 124] : List Nat) → res.2 p = M p := by
  intro p hp
  unfold f_M_readsText at hf
  obtain ⟨q2, hc_2, hf⟩ := jbind hf
  rcases jif_d hf with ⟨h, hf⟩ | ⟨h, hf⟩
  · rcases jif_d hf with ⟨h, hf⟩ | ⟨h, hf⟩
    · rcases jif_d hf with ⟨h, hf⟩ | ⟨h, hf⟩
      · obtain ⟨q3, hc_3, hf⟩ := jbind hf
        obtain rfl := Option.some.inj hf
        exact ((w_M_readLaw hc_3 _ (jout hp (by decide : (([104, 115, 116, 117, 118, 119, 120, 121] : List Nat)).all (fun x => (([104, 115, 116, 117, 118, 119, 120, 121, 122, 123, 124] : List Nat)).contains x) = true))).trans ((w_M_reads hc_2 _ (jout hp (by decide : (([104] : List Nat)).all (fun x => (([104, 115, 116, 117, 118, 119, 120, 121, 122, 123, 124] : List Nat)).contains x) = true))).trans ((jp_set_ne (jne hp (by decide : 104 ∈ ([104, 115, 116, 117, 118, 119, 120, 121, 122, 123, 124] : List Nat)))).trans rfl)))
      · obtain ⟨q4, hc_4, hf⟩ := jbind hf
        obtain rfl := Option.some.inj hf
        exact ((w_M_readCites hc_4 _ (jout hp (by decide : (([104, 124] : List Nat)).all (fun x => (([104, 115, 116, 117, 118, 119, 120, 121, 122, 123, 124] : List Nat)).contains x) = true))).trans ((w_M_reads hc_2 _ (jout hp (by decide : (([104] : List Nat)).all (fun x => (([104, 115, 116, 117, 118, 119, 120, 121, 122, 123, 124] : List Nat)).contains x) = true))).trans ((jp_set_ne (jne hp (by decide : 104 ∈ ([104, 115, 116, 117, 118, 119, 120, 121, 122, 123, 124] : List Nat)))).trans rfl)))
    · obtain ⟨q5, hc_5, hf⟩ := jbind hf
      obtain rfl := Option.some.inj hf
      exact ((w_M_readLease hc_5 _ (jout hp (by decide : (([104, 123] : List Nat)).all (fun x => (([104, 115, 116, 117, 118, 119, 120, 121, 122, 123, 124] : List Nat)).contains x) = true))).trans ((w_M_reads hc_2 _ (jout hp (by decide : (([104] : List Nat)).all (fun x => (([104, 115, 116, 117, 118, 119, 120, 121, 122, 123, 124] : List Nat)).contains x) = true))).trans ((jp_set_ne (jne hp (by decide : 104 ∈ ([104, 115, 116, 117, 118, 119, 120, 121, 122, 123, 124] : List Nat)))).trans rfl)))
  · obtain ⟨q6, hc_6, hf⟩ := jbind hf
    obtain rfl := Option.some.inj hf
    exact ((w_M_readPetitions hc_6 _ (jout hp (by decide : (([104, 122] : List Nat)).all (fun x => (([104, 115, 116, 117, 118, 119, 120, 121, 122, 123, 124] : List Nat)).contains x) = true))).trans ((w_M_reads hc_2 _ (jout hp (by decide : (([104] : List Nat)).all (fun x => (([104, 115, 116, 117, 118, 119, 120, 121, 122, 123, 124] : List Nat)).contains x) = true))).trans ((jp_set_ne (jne hp (by decide : 104 ∈ ([104, 115, 116, 117, 118, 119, 120, 121, 122, 123, 124] : List Nat)))).trans rfl)))
theorem w_M_takesLaw_107  : ∀ (n : Nat) (l1 : Int32) (l2 : Int32) (M : jp_M) {res : jp_M}, f_M_takesLaw_107 n  l1 l2 M = some res → ∀ p, p ∉ ([114, 115, 116, 117, 118, 119, 120] : List Nat) → res p = M p := by
  intro n
  induction n with
  | zero =>
    intro l1 l2 M res hf
    cases hf
  | succ n ih =>
    intro l1 l2 M res hf p hp
    rw [f_M_takesLaw_107] at hf
    rcases jif_d hf with ⟨h, hf⟩ | ⟨h, hf⟩
    · obtain ⟨hb2, hf⟩ := jg_some hf
      obtain rfl := Option.some.inj hf
      exact ((jp_set_ne (jne hp (by decide : 114 ∈ ([114, 115, 116, 117, 118, 119, 120] : List Nat)))).trans rfl)
    · obtain ⟨hb3, hf⟩ := jg_some hf
      obtain ⟨hb5, hf⟩ := jg_some hf
      obtain ⟨hb6, hf⟩ := jg_some hf
      obtain ⟨hb8, hf⟩ := jg_some hf
      exact (ih _ _ _ hf _ hp).trans ((jp_set_ne (jne hp (by decide : 120 ∈ ([114, 115, 116, 117, 118, 119, 120] : List Nat)))).trans ((jp_set_ne (jne hp (by decide : 119 ∈ ([114, 115, 116, 117, 118, 119, 120] : List Nat)))).trans rfl))
theorem w_M_takesLaw_2  : ∀ (n : Nat) (l1 : Int32) (l2 : Int32) (M : jp_M) {res : jp_M}, f_M_takesLaw_2 n  l1 l2 M = some res → ∀ p, p ∉ ([114, 115, 116, 117, 118, 119, 120] : List Nat) → res p = M p := by
  intro n
  induction n with
  | zero =>
    intro l1 l2 M res hf
    cases hf
  | succ n ih =>
    intro l1 l2 M res hf p hp
    rw [f_M_takesLaw_2] at hf
    rcases jif_d hf with ⟨h, hf⟩ | ⟨h, hf⟩
    · exact (w_M_takesLaw_107 jFu _ _ _ hf _ hp).trans rfl
    · obtain ⟨hb1, hf⟩ := jg_some hf
      obtain ⟨hb3, hf⟩ := jg_some hf
      obtain ⟨hb4, hf⟩ := jg_some hf
      obtain ⟨hb6, hf⟩ := jg_some hf
      obtain ⟨hb7, hf⟩ := jg_some hf
      obtain ⟨hb9, hf⟩ := jg_some hf
      obtain ⟨hb10, hf⟩ := jg_some hf
      obtain ⟨hb12, hf⟩ := jg_some hf
      exact (ih _ _ _ hf _ hp).trans ((jp_set_ne (jne hp (by decide : 118 ∈ ([114, 115, 116, 117, 118, 119, 120] : List Nat)))).trans ((jp_set_ne (jne hp (by decide : 117 ∈ ([114, 115, 116, 117, 118, 119, 120] : List Nat)))).trans ((jp_set_ne (jne hp (by decide : 116 ∈ ([114, 115, 116, 117, 118, 119, 120] : List Nat)))).trans ((jp_set_ne (jne hp (by decide : 115 ∈ ([114, 115, 116, 117, 118, 119, 120] : List Nat)))).trans rfl))))
theorem w_M_takesLaw {a1 : Int32} {M : jp_M} {res : jp_M} (hf : f_M_takesLaw a1 M = some res) : ∀ p, p ∉ ([114, 115, 116, 117, 118, 119, 120] : List Nat) → res p = M p := by
  intro p hp
  unfold f_M_takesLaw at hf
  exact (w_M_takesLaw_2 jFu _ _ _ hf _ hp).trans rfl
theorem w_M_takesOther_7  : ∀ (n : Nat) (l2 : Int32) (l3 : Int32) (M : jp_M) {res : jp_M}, f_M_takesOther_7 n  l2 l3 M = some res → ∀ p, p ∉ ([104, 122, 123, 124] : List Nat) → res p = M p := by
  intro n
  induction n with
  | zero =>
    intro l2 l3 M res hf
    cases hf
  | succ n ih =>
    intro l2 l3 M res hf p hp
    rw [f_M_takesOther_7] at hf
    rcases jif_d hf with ⟨h, hf⟩ | ⟨h, hf⟩
    · obtain rfl := Option.some.inj hf
      exact ((jp_set_ne (jne hp (by decide : 104 ∈ ([104, 122, 123, 124] : List Nat)))).trans rfl)
    · obtain ⟨hb2, hf⟩ := jg_some hf
      obtain ⟨hb4, hf⟩ := jg_some hf
      exact (ih _ _ _ hf _ hp).trans ((jp_set_ne (jne hp (by decide : 124 ∈ ([104, 122, 123, 124] : List Nat)))).trans rfl)
theorem w_M_takesOther_47  : ∀ (n : Nat) (l2 : Int32) (l3 : Int32) (M : jp_M) {res : jp_M}, f_M_takesOther_47 n  l2 l3 M = some res → ∀ p, p ∉ ([104, 122, 123, 124] : List Nat) → res p = M p := by
  intro n
  induction n with
  | zero =>
    intro l2 l3 M res hf
    cases hf
  | succ n ih =>
    intro l2 l3 M res hf p hp
    rw [f_M_takesOther_47] at hf
    rcases jif_d hf with ⟨h, hf⟩ | ⟨h, hf⟩
    · obtain rfl := Option.some.inj hf
      exact ((jp_set_ne (jne hp (by decide : 104 ∈ ([104, 122, 123, 124] : List Nat)))).trans ((jp_set_ne (jne hp (by decide : 104 ∈ ([104, 122, 123, 124] : List Nat)))).trans rfl))
    · obtain ⟨hb3, hf⟩ := jg_some hf
      obtain ⟨hb5, hf⟩ := jg_some hf
      exact (ih _ _ _ hf _ hp).trans ((jp_set_ne (jne hp (by decide : 122 ∈ ([104, 122, 123, 124] : List Nat)))).trans rfl)
theorem w_M_takesOther_86  : ∀ (n : Nat) (l2 : Int32) (l3 : Int32) (M : jp_M) {res : jp_M}, f_M_takesOther_86 n  l2 l3 M = some res → ∀ p, p ∉ ([104, 122, 123, 124] : List Nat) → res p = M p := by
  intro n
  induction n with
  | zero =>
    intro l2 l3 M res hf
    cases hf
  | succ n ih =>
    intro l2 l3 M res hf p hp
    rw [f_M_takesOther_86] at hf
    rcases jif_d hf with ⟨h, hf⟩ | ⟨h, hf⟩
    · obtain rfl := Option.some.inj hf
      exact ((jp_set_ne (jne hp (by decide : 104 ∈ ([104, 122, 123, 124] : List Nat)))).trans ((jp_set_ne (jne hp (by decide : 104 ∈ ([104, 122, 123, 124] : List Nat)))).trans rfl))
    · obtain ⟨hb3, hf⟩ := jg_some hf
      obtain ⟨hb5, hf⟩ := jg_some hf
      exact (ih _ _ _ hf _ hp).trans ((jp_set_ne (jne hp (by decide : 123 ∈ ([104, 122, 123, 124] : List Nat)))).trans rfl)
theorem w_M_takesOther {a1 : Int32} {a2 : Int32} {M : jp_M} {res : jp_M} (hf : f_M_takesOther a1 a2 M = some res) : ∀ p, p ∉ ([104, 122, 123, 124] : List Nat) → res p = M p := by
  intro p hp
  unfold f_M_takesOther at hf
  rcases jif_d hf with ⟨h, hf⟩ | ⟨h, hf⟩
  · rcases jif_d hf with ⟨h, hf⟩ | ⟨h, hf⟩
    · exact (w_M_takesOther_86 jFu _ _ _ hf _ hp).trans rfl
    · exact (w_M_takesOther_47 jFu _ _ _ hf _ hp).trans rfl
  · exact (w_M_takesOther_7 jFu _ _ _ hf _ hp).trans rfl
theorem w_M_text_69  (l1 : Int32) (l2 : Int32) (M : jp_M) {res : Int32 × jp_M} (hf : f_M_text_69  l1 l2 M = some res) : ∀ p, p ∉ ([104, 114, 115, 116, 117, 118, 119, 120, 121, 122, 123, 124] : List Nat) → res.2 p = M p := by
  intro p hp
  unfold f_M_text_69 at hf
  rcases jif_d hf with ⟨h, hf⟩ | ⟨h, hf⟩
  · rcases jif_d hf with ⟨h, hf⟩ | ⟨h, hf⟩
    · obtain ⟨q2, hc_2, hf⟩ := jbind hf
      obtain rfl := Option.some.inj hf
      exact ((w_M_takesOther hc_2 _ (jout hp (by decide : (([104, 122, 123, 124] : List Nat)).all (fun x => (([104, 114, 115, 116, 117, 118, 119, 120, 121, 122, 123, 124] : List Nat)).contains x) = true))).trans ((jp_set_ne (jne hp (by decide : 104 ∈ ([104, 114, 115, 116, 117, 118, 119, 120, 121, 122, 123, 124] : List Nat)))).trans rfl))
    · obtain ⟨q3, hc_3, hf⟩ := jbind hf
      obtain rfl := Option.some.inj hf
      exact ((w_M_takesLaw hc_3 _ (jout hp (by decide : (([114, 115, 116, 117, 118, 119, 120] : List Nat)).all (fun x => (([104, 114, 115, 116, 117, 118, 119, 120, 121, 122, 123, 124] : List Nat)).contains x) = true))).trans ((jp_set_ne (jne hp (by decide : 104 ∈ ([104, 114, 115, 116, 117, 118, 119, 120, 121, 122, 123, 124] : List Nat)))).trans rfl))
  · obtain rfl := Option.some.inj hf
    exact ((jp_set_ne (jne hp (by decide : 104 ∈ ([104, 114, 115, 116, 117, 118, 119, 120, 121, 122, 123, 124] : List Nat)))).trans rfl)
theorem w_M_text {a1 : Int32} {M : jp_M} {res : Int32 × jp_M} (hf : f_M_text a1 M = some res) : ∀ p, p ∉ ([104, 114, 115, 116, 117, 118, 119, 120, 121, 122, 123, 124] : List Nat) → res.2 p = M p := by
  intro p hp
  unfold f_M_text at hf
  rcases jif_d hf with ⟨h, hf⟩ | ⟨h, hf⟩
  · exact (w_M_text_69 _ _ _ hf _ hp).trans ((jp_set_ne (jne hp (by decide : 104 ∈ ([104, 114, 115, 116, 117, 118, 119, 120, 121, 122, 123, 124] : List Nat)))).trans ((jp_set_ne (jne hp (by decide : 104 ∈ ([104, 114, 115, 116, 117, 118, 119, 120, 121, 122, 123, 124] : List Nat)))).trans ((jp_set_ne (jne hp (by decide : 104 ∈ ([104, 114, 115, 116, 117, 118, 119, 120, 121, 122, 123, 124] : List Nat)))).trans ((jp_set_ne (jne hp (by decide : 104 ∈ ([104, 114, 115, 116, 117, 118, 119, 120, 121, 122, 123, 124] : List Nat)))).trans ((jp_set_ne (jne hp (by decide : 104 ∈ ([104, 114, 115, 116, 117, 118, 119, 120, 121, 122, 123, 124] : List Nat)))).trans ((jp_set_ne (jne hp (by decide : 104 ∈ ([104, 114, 115, 116, 117, 118, 119, 120, 121, 122, 123, 124] : List Nat)))).trans rfl))))))
  · obtain ⟨q8, hc_8, hf⟩ := jbind hf
    rcases jif_d hf with ⟨h, hf⟩ | ⟨h, hf⟩
    · exact (w_M_text_69 _ _ _ hf _ hp).trans ((w_M_readsText hc_8 _ (jout hp (by decide : (([104, 115, 116, 117, 118, 119, 120, 121, 122, 123, 124] : List Nat)).all (fun x => (([104, 114, 115, 116, 117, 118, 119, 120, 121, 122, 123, 124] : List Nat)).contains x) = true))).trans ((jp_set_ne (jne hp (by decide : 104 ∈ ([104, 114, 115, 116, 117, 118, 119, 120, 121, 122, 123, 124] : List Nat)))).trans ((jp_set_ne (jne hp (by decide : 104 ∈ ([104, 114, 115, 116, 117, 118, 119, 120, 121, 122, 123, 124] : List Nat)))).trans ((jp_set_ne (jne hp (by decide : 104 ∈ ([104, 114, 115, 116, 117, 118, 119, 120, 121, 122, 123, 124] : List Nat)))).trans ((jp_set_ne (jne hp (by decide : 104 ∈ ([104, 114, 115, 116, 117, 118, 119, 120, 121, 122, 123, 124] : List Nat)))).trans ((jp_set_ne (jne hp (by decide : 104 ∈ ([104, 114, 115, 116, 117, 118, 119, 120, 121, 122, 123, 124] : List Nat)))).trans ((jp_set_ne (jne hp (by decide : 104 ∈ ([104, 114, 115, 116, 117, 118, 119, 120, 121, 122, 123, 124] : List Nat)))).trans rfl)))))))
    · exact (w_M_text_69 _ _ _ hf _ hp).trans ((jp_set_ne (jne hp (by decide : 104 ∈ ([104, 114, 115, 116, 117, 118, 119, 120, 121, 122, 123, 124] : List Nat)))).trans ((jp_set_ne (jne hp (by decide : 104 ∈ ([104, 114, 115, 116, 117, 118, 119, 120, 121, 122, 123, 124] : List Nat)))).trans ((w_M_readsText hc_8 _ (jout hp (by decide : (([104, 115, 116, 117, 118, 119, 120, 121, 122, 123, 124] : List Nat)).all (fun x => (([104, 114, 115, 116, 117, 118, 119, 120, 121, 122, 123, 124] : List Nat)).contains x) = true))).trans ((jp_set_ne (jne hp (by decide : 104 ∈ ([104, 114, 115, 116, 117, 118, 119, 120, 121, 122, 123, 124] : List Nat)))).trans ((jp_set_ne (jne hp (by decide : 104 ∈ ([104, 114, 115, 116, 117, 118, 119, 120, 121, 122, 123, 124] : List Nat)))).trans ((jp_set_ne (jne hp (by decide : 104 ∈ ([104, 114, 115, 116, 117, 118, 119, 120, 121, 122, 123, 124] : List Nat)))).trans ((jp_set_ne (jne hp (by decide : 104 ∈ ([104, 114, 115, 116, 117, 118, 119, 120, 121, 122, 123, 124] : List Nat)))).trans ((jp_set_ne (jne hp (by decide : 104 ∈ ([104, 114, 115, 116, 117, 118, 119, 120, 121, 122, 123, 124] : List Nat)))).trans ((jp_set_ne (jne hp (by decide : 104 ∈ ([104, 114, 115, 116, 117, 118, 119, 120, 121, 122, 123, 124] : List Nat)))).trans rfl)))))))))
theorem w_M_fault {a1 : Int32} {M : jp_M} {res : Int32 × jp_M} (hf : f_M_fault a1 M = res) : ∀ p, p ∉ ([104] : List Nat) → res.2 p = M p := by
  intro p hp
  unfold f_M_fault at hf
  rcases jif_d hf with ⟨h, hf⟩ | ⟨h, hf⟩
  · rcases jif_d hf with ⟨h, hf⟩ | ⟨h, hf⟩
    · subst hf
      exact ((jp_set_ne (jne hp (by decide : 104 ∈ ([104] : List Nat)))).trans rfl)
    · subst hf
      exact ((jp_set_ne (jne hp (by decide : 104 ∈ ([104] : List Nat)))).trans rfl)
  · subst hf
    exact ((jp_set_ne (jne hp (by decide : 104 ∈ ([104] : List Nat)))).trans rfl)
theorem w_M_keepsAhead_57  : ∀ (n : Nat) (l1 : Int32) (M : jp_M) {res : jp_M}, f_M_keepsAhead_57 n  l1 M = some res → ∀ p, p ∉ ([104, 106] : List Nat) → res p = M p := by
  intro n
  induction n with
  | zero =>
    intro l1 M res hf
    cases hf
  | succ n ih =>
    intro l1 M res hf p hp
    rw [f_M_keepsAhead_57] at hf
    rcases jif_d hf with ⟨h, hf⟩ | ⟨h, hf⟩
    · obtain rfl := Option.some.inj hf
      exact ((jp_set_ne (jne hp (by decide : 104 ∈ ([104, 106] : List Nat)))).trans rfl)
    · obtain ⟨hb2, hf⟩ := jg_some hf
      obtain ⟨hb4, hf⟩ := jg_some hf
      exact (ih _ _ hf _ hp).trans ((jp_set_ne (jne hp (by decide : 106 ∈ ([104, 106] : List Nat)))).trans rfl)
theorem w_M_keepsAhead_55  (M : jp_M) {res : jp_M} (hf : f_M_keepsAhead_55  M = some res) : ∀ p, p ∉ ([104, 106] : List Nat) → res p = M p := by
  intro p hp
  unfold f_M_keepsAhead_55 at hf
  exact (w_M_keepsAhead_57 jFu _ _ hf _ hp).trans rfl
theorem w_M_keepsAhead_21  : ∀ (n : Nat) (l1 : Int32) (M : jp_M) {res : jp_M}, f_M_keepsAhead_21 n  l1 M = some res → ∀ p, p ∉ ([104, 106] : List Nat) → res p = M p := by
  intro n
  induction n with
  | zero =>
    intro l1 M res hf
    cases hf
  | succ n ih =>
    intro l1 M res hf p hp
    rw [f_M_keepsAhead_21] at hf
    rcases jif_d hf with ⟨h, hf⟩ | ⟨h, hf⟩
    · exact (w_M_keepsAhead_55 _ hf _ hp).trans rfl
    · obtain ⟨hb1, hf⟩ := jg_some hf
      obtain ⟨hb3, hf⟩ := jg_some hf
      exact (ih _ _ hf _ hp).trans ((jp_set_ne (jne hp (by decide : 106 ∈ ([104, 106] : List Nat)))).trans rfl)
theorem w_M_keepsAhead {M : jp_M} {res : jp_M} (hf : f_M_keepsAhead M = some res) : ∀ p, p ∉ ([104, 106] : List Nat) → res p = M p := by
  intro p hp
  unfold f_M_keepsAhead at hf
  rcases jif_d hf with ⟨h, hf⟩ | ⟨h, hf⟩
  · exact (w_M_keepsAhead_55 _ hf _ hp).trans rfl
  · exact (w_M_keepsAhead_21 jFu _ _ hf _ hp).trans ((jp_set_ne (jne hp (by decide : 104 ∈ ([104, 106] : List Nat)))).trans rfl)
theorem w_M_asks_87  (s1 : Int32) (s2 : Int32) (M : jp_M) {res : jp_M} (hf : f_M_asks_87  s1 s2 M = some res) : ∀ p, p ∉ ([125] : List Nat) → res p = M p := by
  intro p hp
  unfold f_M_asks_87 at hf
  obtain ⟨hb2, hf⟩ := jg_some hf
  obtain ⟨q3, hc_3, hf⟩ := jbind hf
  obtain rfl := Option.some.inj hf
  exact ((jp_set_ne (jne hp (by decide : 125 ∈ ([125] : List Nat)))).trans ((jp_set_ne (jne hp (by decide : 125 ∈ ([125] : List Nat)))).trans ((jp_set_ne (jne hp (by decide : 125 ∈ ([125] : List Nat)))).trans rfl)))
theorem w_M_asks {a1 : Int32} {a2 : Int32} {a3 : Int32} {a4 : Int32} {a5 : Int32} {M : jp_M} {res : jp_M} (hf : f_M_asks a1 a2 a3 a4 a5 M = some res) : ∀ p, p ∉ ([125] : List Nat) → res p = M p := by
  intro p hp
  unfold f_M_asks at hf
  obtain ⟨hb5, hf⟩ := jg_some hf
  obtain ⟨hb7, hf⟩ := jg_some hf
  obtain ⟨q9, hc_9, hf⟩ := jbind hf
  rcases jif_d hf with ⟨h, hf⟩ | ⟨h, hf⟩
  · exact (w_M_asks_87 _ _ _ hf _ hp).trans ((jp_set_ne (jne hp (by decide : 125 ∈ ([125] : List Nat)))).trans ((jp_set_ne (jne hp (by decide : 125 ∈ ([125] : List Nat)))).trans ((jp_set_ne (jne hp (by decide : 125 ∈ ([125] : List Nat)))).trans ((jp_set_ne (jne hp (by decide : 125 ∈ ([125] : List Nat)))).trans ((jp_set_ne (jne hp (by decide : 125 ∈ ([125] : List Nat)))).trans ((jp_set_ne (jne hp (by decide : 125 ∈ ([125] : List Nat)))).trans ((jp_set_ne (jne hp (by decide : 125 ∈ ([125] : List Nat)))).trans rfl)))))))
  · exact (w_M_asks_87 _ _ _ hf _ hp).trans ((jp_set_ne (jne hp (by decide : 125 ∈ ([125] : List Nat)))).trans ((jp_set_ne (jne hp (by decide : 125 ∈ ([125] : List Nat)))).trans ((jp_set_ne (jne hp (by decide : 125 ∈ ([125] : List Nat)))).trans ((jp_set_ne (jne hp (by decide : 125 ∈ ([125] : List Nat)))).trans ((jp_set_ne (jne hp (by decide : 125 ∈ ([125] : List Nat)))).trans ((jp_set_ne (jne hp (by decide : 125 ∈ ([125] : List Nat)))).trans ((jp_set_ne (jne hp (by decide : 125 ∈ ([125] : List Nat)))).trans rfl)))))))
theorem w_M_runs_170 {c8 : Int32 → Int32 → Int32 → Int32 → jp_M → Option (Int32 × jp_M)} (hc8 : ∀ (l1 : Int32) (l3 : Int32) (l4 : Int32) (l5 : Int32) (M : jp_M) (res : Int32 × jp_M), c8 l1 l3 l4 l5 M = some res → ∀ p, p ∉ ([126] : List Nat) → res.2 p = M p) (l1 : Int32) (l3 : Int32) (l4 : Int32) (l5 : Int32) (M : jp_M) {res : Int32 × jp_M} (hf : f_M_runs_170 c8 l1 l3 l4 l5 M = some res) : ∀ p, p ∉ ([126] : List Nat) → res.2 p = M p := by
  intro p hp
  unfold f_M_runs_170 at hf
  exact (hc8 _ _ _ _ _ _ hf _ hp).trans rfl
theorem w_M_runs_83 {c8 : Int32 → Int32 → Int32 → Int32 → jp_M → Option (Int32 × jp_M)} (hc8 : ∀ (l1 : Int32) (l3 : Int32) (l4 : Int32) (l5 : Int32) (M : jp_M) (res : Int32 × jp_M), c8 l1 l3 l4 l5 M = some res → ∀ p, p ∉ ([126] : List Nat) → res.2 p = M p) (l1 : Int32) (l3 : Int32) (l4 : Int32) (l5 : Int32) (s1 : Int32) (s2 : Int32) (M : jp_M) {res : Int32 × jp_M} (hf : f_M_runs_83 c8 l1 l3 l4 l5 s1 s2 M = some res) : ∀ p, p ∉ ([126] : List Nat) → res.2 p = M p := by
  intro p hp
  unfold f_M_runs_83 at hf
  obtain ⟨hb2, hf⟩ := jg_some hf
  exact (w_M_runs_170 hc8 _ _ _ _ _ hf _ hp).trans ((jp_set_ne (jne hp (by decide : 126 ∈ ([126] : List Nat)))).trans rfl)
theorem w_M_runs_45 {c8 : Int32 → Int32 → Int32 → Int32 → jp_M → Option (Int32 × jp_M)} (hc8 : ∀ (l1 : Int32) (l3 : Int32) (l4 : Int32) (l5 : Int32) (M : jp_M) (res : Int32 × jp_M), c8 l1 l3 l4 l5 M = some res → ∀ p, p ∉ ([126] : List Nat) → res.2 p = M p) (l1 : Int32) (l3 : Int32) (l4 : Int32) (l5 : Int32) (M : jp_M) {res : Int32 × jp_M} (hf : f_M_runs_45 c8 l1 l3 l4 l5 M = some res) : ∀ p, p ∉ ([126] : List Nat) → res.2 p = M p := by
  intro p hp
  unfold f_M_runs_45 at hf
  obtain ⟨hb1, hf⟩ := jg_some hf
  rcases jif_d hf with ⟨h, hf⟩ | ⟨h, hf⟩
  · obtain ⟨hb2, hf⟩ := jg_some hf
    obtain ⟨hb3, hf⟩ := jg_some hf
    exact (w_M_runs_83 hc8 _ _ _ _ _ _ _ hf _ hp).trans rfl
  · obtain ⟨hb4, hf⟩ := jg_some hf
    exact (w_M_runs_83 hc8 _ _ _ _ _ _ _ hf _ hp).trans rfl
theorem w_M_runs_12  : ∀ (n : Nat) (l1 : Int32) (l3 : Int32) (l4 : Int32) (l5 : Int32) (M : jp_M) {res : Int32 × jp_M}, f_M_runs_12 n  l1 l3 l4 l5 M = some res → ∀ p, p ∉ ([126] : List Nat) → res.2 p = M p := by
  intro n
  induction n with
  | zero =>
    intro l1 l3 l4 l5 M res hf
    cases hf
  | succ n ih =>
    intro l1 l3 l4 l5 M res hf p hp
    rw [f_M_runs_12] at hf
    rcases jif_d hf with ⟨h, hf⟩ | ⟨h, hf⟩
    · obtain rfl := Option.some.inj hf
      exact rfl
    · obtain ⟨hb1, hf⟩ := jg_some hf
      rcases jif_d hf with ⟨h, hf⟩ | ⟨h, hf⟩
      · exact (w_M_runs_45 (fun l1 l3 l4 l5 M res hf => ih l1 l3 l4 l5 M hf) _ _ _ _ _ hf _ hp).trans rfl
      · obtain ⟨hb2, hf⟩ := jg_some hf
        rcases jif_d hf with ⟨h, hf⟩ | ⟨h, hf⟩
        · obtain ⟨hb3, hf⟩ := jg_some hf
          rcases jif_d hf with ⟨h, hf⟩ | ⟨h, hf⟩
          · obtain ⟨hb4, hf⟩ := jg_some hf
            obtain ⟨hb5, hf⟩ := jg_some hf
            obtain ⟨hb6, hf⟩ := jg_some hf
            obtain ⟨q7, hc_7, hf⟩ := jbind hf
            obtain ⟨hb9, hf⟩ := jg_some hf
            exact (w_M_runs_170 (fun l1 l3 l4 l5 M res hf => ih l1 l3 l4 l5 M hf) _ _ _ _ _ hf _ hp).trans ((jp_set_ne (jne hp (by decide : 126 ∈ ([126] : List Nat)))).trans rfl)
          · obtain ⟨hb10, hf⟩ := jg_some hf
            obtain ⟨hb12, hf⟩ := jg_some hf
            exact (w_M_runs_170 (fun l1 l3 l4 l5 M res hf => ih l1 l3 l4 l5 M hf) _ _ _ _ _ hf _ hp).trans ((jp_set_ne (jne hp (by decide : 126 ∈ ([126] : List Nat)))).trans rfl)
        · exact (w_M_runs_45 (fun l1 l3 l4 l5 M res hf => ih l1 l3 l4 l5 M hf) _ _ _ _ _ hf _ hp).trans rfl
theorem w_M_runs {a1 : Int32} {a2 : Int32} {a3 : Int32} {M : jp_M} {res : Int32 × jp_M} (hf : f_M_runs a1 a2 a3 M = some res) : ∀ p, p ∉ ([126] : List Nat) → res.2 p = M p := by
  intro p hp
  unfold f_M_runs at hf
  exact (w_M_runs_12 jFu _ _ _ _ _ hf _ hp).trans rfl
theorem w_M_lineOf_59 {c2 : Int32 → Int32 → jp_M → Option (Int32 × jp_M)} (hc2 : ∀ (l1 : Int32) (l2 : Int32) (M : jp_M) (res : Int32 × jp_M), c2 l1 l2 M = some res → ∀ p, p ∉ ([126] : List Nat) → res.2 p = M p) (l1 : Int32) (l2 : Int32) (M : jp_M) {res : Int32 × jp_M} (hf : f_M_lineOf_59 c2 l1 l2 M = some res) : ∀ p, p ∉ ([126] : List Nat) → res.2 p = M p := by
  intro p hp
  unfold f_M_lineOf_59 at hf
  exact (hc2 _ _ _ _ hf _ hp).trans rfl
theorem w_M_lineOf_2  : ∀ (n : Nat) (l1 : Int32) (l2 : Int32) (M : jp_M) {res : Int32 × jp_M}, f_M_lineOf_2 n  l1 l2 M = some res → ∀ p, p ∉ ([126] : List Nat) → res.2 p = M p := by
  intro n
  induction n with
  | zero =>
    intro l1 l2 M res hf
    cases hf
  | succ n ih =>
    intro l1 l2 M res hf p hp
    rw [f_M_lineOf_2] at hf
    rcases jif_d hf with ⟨h, hf⟩ | ⟨h, hf⟩
    · obtain rfl := Option.some.inj hf
      exact rfl
    · obtain ⟨hb1, hf⟩ := jg_some hf
      rcases jif_d hf with ⟨h, hf⟩ | ⟨h, hf⟩
      · exact (w_M_lineOf_59 (fun l1 l2 M res hf => ih l1 l2 M hf) _ _ _ hf _ hp).trans rfl
      · obtain ⟨hb2, hf⟩ := jg_some hf
        obtain ⟨hb3, hf⟩ := jg_some hf
        rcases jif_d hf with ⟨h, hf⟩ | ⟨h, hf⟩
        · obtain rfl := Option.some.inj hf
          exact rfl
        · obtain ⟨hb4, hf⟩ := jg_some hf
          obtain ⟨hb5, hf⟩ := jg_some hf
          obtain ⟨q6, hc_6, hf⟩ := jbind hf
          rcases jif_d hf with ⟨h, hf⟩ | ⟨h, hf⟩
          · exact (w_M_lineOf_59 (fun l1 l2 M res hf => ih l1 l2 M hf) _ _ _ hf _ hp).trans ((w_M_runs hc_6 _ (jout hp (by decide : (([126] : List Nat)).all (fun x => (([126] : List Nat)).contains x) = true))).trans rfl)
          · obtain rfl := Option.some.inj hf
            exact ((w_M_runs hc_6 _ (jout hp (by decide : (([126] : List Nat)).all (fun x => (([126] : List Nat)).contains x) = true))).trans rfl)
theorem w_M_lineOf {a1 : Int32} {M : jp_M} {res : Int32 × jp_M} (hf : f_M_lineOf a1 M = some res) : ∀ p, p ∉ ([126] : List Nat) → res.2 p = M p := by
  intro p hp
  unfold f_M_lineOf at hf
  exact (w_M_lineOf_2 jFu _ _ _ hf _ hp).trans rfl
theorem w_M_lawTells_37  (l3 : Int32) (s1 : Int32) (M : jp_M) {res : Int32 × jp_M} (hf : f_M_lawTells_37  l3 s1 M = some res) : ∀ p, p ∉ ([126] : List Nat) → res.2 p = M p := by
  intro p hp
  unfold f_M_lawTells_37 at hf
  obtain rfl := Option.some.inj hf
  exact rfl
theorem w_M_lawTells {a1 : Int32} {a2 : Int32} {a3 : Int32} {M : jp_M} {res : Int32 × jp_M} (hf : f_M_lawTells a1 a2 a3 M = some res) : ∀ p, p ∉ ([126] : List Nat) → res.2 p = M p := by
  intro p hp
  unfold f_M_lawTells at hf
  obtain ⟨q1, hc_1, hf⟩ := jbind hf
  rcases jif_d hf with ⟨h, hf⟩ | ⟨h, hf⟩
  · obtain ⟨hb2, hf⟩ := jg_some hf
    obtain ⟨hb3, hf⟩ := jg_some hf
    obtain ⟨q4, hc_4, hf⟩ := jbind hf
    exact (w_M_lawTells_37 _ _ _ hf _ hp).trans ((w_M_runs hc_4 _ (jout hp (by decide : (([126] : List Nat)).all (fun x => (([126] : List Nat)).contains x) = true))).trans ((w_M_lineOf hc_1 _ (jout hp (by decide : (([126] : List Nat)).all (fun x => (([126] : List Nat)).contains x) = true))).trans rfl))
  · exact (w_M_lawTells_37 _ _ _ hf _ hp).trans ((w_M_lineOf hc_1 _ (jout hp (by decide : (([126] : List Nat)).all (fun x => (([126] : List Nat)).contains x) = true))).trans rfl)
theorem w_M_leaveNow {M : jp_M} {res : Int32 × jp_M} (hf : f_M_leaveNow M = some res) : ∀ p, p ∉ ([126] : List Nat) → res.2 p = M p := by
  intro p hp
  unfold f_M_leaveNow at hf
  obtain ⟨q1, hc_1, hf⟩ := jbind hf
  obtain rfl := Option.some.inj hf
  exact ((w_M_lawTells hc_1 _ (jout hp (by decide : (([126] : List Nat)).all (fun x => (([126] : List Nat)).contains x) = true))).trans rfl)
theorem w_M_notes {a1 : Int32} {a2 : Int32} {a3 : Int32} {M : jp_M} {res : jp_M} (hf : f_M_notes a1 a2 a3 M = some res) : ∀ p, p ∉ ([105, 111] : List Nat) → res p = M p := by
  intro p hp
  unfold f_M_notes at hf
  rcases jif_d hf with ⟨h, hf⟩ | ⟨h, hf⟩
  · obtain rfl := Option.some.inj hf
    exact rfl
  · rcases jif_d hf with ⟨h, hf⟩ | ⟨h, hf⟩
    · obtain ⟨hb2, hf⟩ := jg_some hf
      obtain ⟨hb4, hf⟩ := jg_some hf
      obtain ⟨hb6, hf⟩ := jg_some hf
      obtain ⟨hb8, hf⟩ := jg_some hf
      obtain rfl := Option.some.inj hf
      exact ((jp_set_ne (jne hp (by decide : 105 ∈ ([105, 111] : List Nat)))).trans ((jp_set_ne (jne hp (by decide : 111 ∈ ([105, 111] : List Nat)))).trans ((jp_set_ne (jne hp (by decide : 111 ∈ ([105, 111] : List Nat)))).trans ((jp_set_ne (jne hp (by decide : 111 ∈ ([105, 111] : List Nat)))).trans ((jp_set_ne (jne hp (by decide : 111 ∈ ([105, 111] : List Nat)))).trans rfl)))))
    · obtain rfl := Option.some.inj hf
      exact rfl
theorem w_M_rentNow {M : jp_M} {res : Int32 × jp_M} (hf : f_M_rentNow M = some res) : ∀ p, p ∉ ([126] : List Nat) → res.2 p = M p := by
  intro p hp
  unfold f_M_rentNow at hf
  obtain ⟨q1, hc_1, hf⟩ := jbind hf
  obtain rfl := Option.some.inj hf
  exact ((w_M_lawTells hc_1 _ (jout hp (by decide : (([126] : List Nat)).all (fun x => (([126] : List Nat)).contains x) = true))).trans rfl)
theorem w_M_pays {a1 : Int32} {a2 : Int32} {M : jp_M} {res : Int32 × jp_M} (hf : f_M_pays a1 a2 M = some res) : ∀ p, p ∉ ([105] : List Nat) → res.2 p = M p := by
  intro p hp
  unfold f_M_pays at hf
  obtain ⟨hb1, hf⟩ := jg_some hf
  obtain ⟨hb3, hf⟩ := jg_some hf
  obtain ⟨hb5, hf⟩ := jg_some hf
  obtain rfl := Option.some.inj hf
  exact ((jp_set_ne (jne hp (by decide : 105 ∈ ([105] : List Nat)))).trans ((jp_set_ne (jne hp (by decide : 105 ∈ ([105] : List Nat)))).trans rfl))
theorem w_M_begins {a1 : Int32} {a2 : Int32} {a3 : Int32} {a4 : Int32} {a5 : Int32} {a6 : Int32} {a7 : Int32} {M : jp_M} {res : Int32 × jp_M} (hf : f_M_begins a1 a2 a3 a4 a5 a6 a7 M = some res) : ∀ p, p ∉ ([105] : List Nat) → res.2 p = M p := by
  intro p hp
  unfold f_M_begins at hf
  obtain ⟨hb3, hf⟩ := jg_some hf
  obtain ⟨hb5, hf⟩ := jg_some hf
  obtain ⟨hb7, hf⟩ := jg_some hf
  obtain ⟨hb9, hf⟩ := jg_some hf
  obtain ⟨hb11, hf⟩ := jg_some hf
  obtain ⟨hb13, hf⟩ := jg_some hf
  obtain ⟨hb15, hf⟩ := jg_some hf
  obtain ⟨hb17, hf⟩ := jg_some hf
  obtain ⟨hb20, hf⟩ := jg_some hf
  obtain rfl := Option.some.inj hf
  exact ((jp_set_ne (jne hp (by decide : 105 ∈ ([105] : List Nat)))).trans ((jp_set_ne (jne hp (by decide : 105 ∈ ([105] : List Nat)))).trans ((jp_set_ne (jne hp (by decide : 105 ∈ ([105] : List Nat)))).trans ((jp_set_ne (jne hp (by decide : 105 ∈ ([105] : List Nat)))).trans ((jp_set_ne (jne hp (by decide : 105 ∈ ([105] : List Nat)))).trans ((jp_set_ne (jne hp (by decide : 105 ∈ ([105] : List Nat)))).trans ((jp_set_ne (jne hp (by decide : 105 ∈ ([105] : List Nat)))).trans ((jp_set_ne (jne hp (by decide : 105 ∈ ([105] : List Nat)))).trans ((jp_set_ne (jne hp (by decide : 105 ∈ ([105] : List Nat)))).trans ((jp_set_ne (jne hp (by decide : 105 ∈ ([105] : List Nat)))).trans rfl))))))))))
theorem w_M_draw {a1 : Int32} {M : jp_M} {res : Int32 × jp_M} (hf : f_M_draw a1 M = some res) : ∀ p, p ∉ ([105] : List Nat) → res.2 p = M p := by
  intro p hp
  unfold f_M_draw at hf
  obtain ⟨hb3, hf⟩ := jg_some hf
  obtain rfl := Option.some.inj hf
  exact ((jp_set_ne (jne hp (by decide : 105 ∈ ([105] : List Nat)))).trans rfl)
theorem w_M_asksFor_108  (l1 : Int32) (l2 : Int32) (l3 : Int32) (l4 : Int32) (l5 : Int32) (l6 : Int32) (l7 : Int32) (M : jp_M) {res : Int32 × jp_M} (hf : f_M_asksFor_108  l1 l2 l3 l4 l5 l6 l7 M = some res) : ∀ p, p ∉ ([105, 111, 125, 126] : List Nat) → res.2 p = M p := by
  intro p hp
  unfold f_M_asksFor_108 at hf
  obtain ⟨q1, hc_1, hf⟩ := jbind hf
  obtain ⟨q2, hc_2, hf⟩ := jbind hf
  obtain rfl := Option.some.inj hf
  exact ((w_M_notes hc_2 _ (jout hp (by decide : (([105, 111] : List Nat)).all (fun x => (([105, 111, 125, 126] : List Nat)).contains x) = true))).trans ((w_M_begins hc_1 _ (jout hp (by decide : (([105] : List Nat)).all (fun x => (([105, 111, 125, 126] : List Nat)).contains x) = true))).trans rfl))
theorem w_M_asksFor_69  (l1 : Int32) (l2 : Int32) (l3 : Int32) (l4 : Int32) (l5 : Int32) (l6 : Int32) (l8 : Int32) (s0 : Int32) (M : jp_M) {res : Int32 × jp_M} (hf : f_M_asksFor_69  l1 l2 l3 l4 l5 l6 l8 s0 M = some res) : ∀ p, p ∉ ([105, 111, 125, 126] : List Nat) → res.2 p = M p := by
  intro p hp
  unfold f_M_asksFor_69 at hf
  rcases jif_d hf with ⟨h, hf⟩ | ⟨h, hf⟩
  · obtain ⟨q1, hc_1, hf⟩ := jbind hf
    obtain ⟨q2, hc_2, hf⟩ := jbind hf
    obtain ⟨q3, hc_3, hf⟩ := jbind hf
    exact (w_M_asksFor_108 _ _ _ _ _ _ _ _ hf _ hp).trans ((w_M_pays hc_3 _ (jout hp (by decide : (([105] : List Nat)).all (fun x => (([105, 111, 125, 126] : List Nat)).contains x) = true))).trans ((w_M_rentNow hc_2 _ (jout hp (by decide : (([126] : List Nat)).all (fun x => (([105, 111, 125, 126] : List Nat)).contains x) = true))).trans ((w_M_asks hc_1 _ (jout hp (by decide : (([125] : List Nat)).all (fun x => (([105, 111, 125, 126] : List Nat)).contains x) = true))).trans rfl)))
  · obtain ⟨q4, hc_4, hf⟩ := jbind hf
    obtain rfl := Option.some.inj hf
    exact ((w_M_notes hc_4 _ (jout hp (by decide : (([105, 111] : List Nat)).all (fun x => (([105, 111, 125, 126] : List Nat)).contains x) = true))).trans rfl)
theorem w_M_asksFor {a1 : Int32} {a2 : Int32} {a3 : Int32} {a4 : Int32} {a5 : Int32} {a6 : Int32} {M : jp_M} {res : Int32 × jp_M} (hf : f_M_asksFor a1 a2 a3 a4 a5 a6 M = some res) : ∀ p, p ∉ ([105, 111, 125, 126] : List Nat) → res.2 p = M p := by
  intro p hp
  unfold f_M_asksFor at hf
  rcases jif_d hf with ⟨h, hf⟩ | ⟨h, hf⟩
  · exact (w_M_asksFor_108 _ _ _ _ _ _ _ _ hf _ hp).trans rfl
  · obtain ⟨q2, hc_2, hf⟩ := jbind hf
    obtain ⟨q3, hc_3, hf⟩ := jbind hf
    rcases jif_d hf with ⟨h, hf⟩ | ⟨h, hf⟩
    · obtain ⟨q4, hc_4, hf⟩ := jbind hf
      rcases jif_d hf with ⟨h, hf⟩ | ⟨h, hf⟩
      · exact (w_M_asksFor_69 _ _ _ _ _ _ _ _ _ hf _ hp).trans ((w_M_draw hc_4 _ (jout hp (by decide : (([105] : List Nat)).all (fun x => (([105, 111, 125, 126] : List Nat)).contains x) = true))).trans ((w_M_leaveNow hc_3 _ (jout hp (by decide : (([126] : List Nat)).all (fun x => (([105, 111, 125, 126] : List Nat)).contains x) = true))).trans ((w_M_asks hc_2 _ (jout hp (by decide : (([125] : List Nat)).all (fun x => (([105, 111, 125, 126] : List Nat)).contains x) = true))).trans rfl)))
      · exact (w_M_asksFor_69 _ _ _ _ _ _ _ _ _ hf _ hp).trans ((w_M_draw hc_4 _ (jout hp (by decide : (([105] : List Nat)).all (fun x => (([105, 111, 125, 126] : List Nat)).contains x) = true))).trans ((w_M_leaveNow hc_3 _ (jout hp (by decide : (([126] : List Nat)).all (fun x => (([105, 111, 125, 126] : List Nat)).contains x) = true))).trans ((w_M_asks hc_2 _ (jout hp (by decide : (([125] : List Nat)).all (fun x => (([105, 111, 125, 126] : List Nat)).contains x) = true))).trans rfl)))
    · rcases jif_d hf with ⟨h, hf⟩ | ⟨h, hf⟩
      · exact (w_M_asksFor_69 _ _ _ _ _ _ _ _ _ hf _ hp).trans ((w_M_leaveNow hc_3 _ (jout hp (by decide : (([126] : List Nat)).all (fun x => (([105, 111, 125, 126] : List Nat)).contains x) = true))).trans ((w_M_asks hc_2 _ (jout hp (by decide : (([125] : List Nat)).all (fun x => (([105, 111, 125, 126] : List Nat)).contains x) = true))).trans rfl))
      · exact (w_M_asksFor_69 _ _ _ _ _ _ _ _ _ hf _ hp).trans ((w_M_leaveNow hc_3 _ (jout hp (by decide : (([126] : List Nat)).all (fun x => (([105, 111, 125, 126] : List Nat)).contains x) = true))).trans ((w_M_asks hc_2 _ (jout hp (by decide : (([125] : List Nat)).all (fun x => (([105, 111, 125, 126] : List Nat)).contains x) = true))).trans rfl))
theorem w_M_ask {a1 : Int32} {a2 : Int32} {a3 : Int32} {a4 : Int32} {a5 : Int32} {M : jp_M} {res : Int32 × jp_M} (hf : f_M_ask a1 a2 a3 a4 a5 M = some res) : ∀ p, p ∉ ([104, 105, 106, 111, 125, 126] : List Nat) → res.2 p = M p := by
  intro p hp
  unfold f_M_ask at hf
  rcases jif_d hf with ⟨h, hf⟩ | ⟨h, hf⟩
  · obtain rfl := Option.some.inj hf
    exact ((jp_set_ne (jne hp (by decide : 104 ∈ ([104, 105, 106, 111, 125, 126] : List Nat)))).trans rfl)
  · rcases jif_d hf with ⟨h, hf⟩ | ⟨h, hf⟩
    · obtain rfl := Option.some.inj hf
      exact ((jp_set_ne (jne hp (by decide : 104 ∈ ([104, 105, 106, 111, 125, 126] : List Nat)))).trans rfl)
    · obtain ⟨q3, hc_3, hf⟩ := jbind hf
      rcases jif_d hf with ⟨h, hf⟩ | ⟨h, hf⟩
      · obtain ⟨q4, hc_4, hf⟩ := jbind hf
        obtain ⟨q5, hc_5, hf⟩ := jbind hf
        obtain rfl := Option.some.inj hf
        exact ((w_M_asksFor hc_5 _ (jout hp (by decide : (([105, 111, 125, 126] : List Nat)).all (fun x => (([104, 105, 106, 111, 125, 126] : List Nat)).contains x) = true))).trans ((w_M_keepsAhead hc_4 _ (jout hp (by decide : (([104, 106] : List Nat)).all (fun x => (([104, 105, 106, 111, 125, 126] : List Nat)).contains x) = true))).trans ((jp_set_ne (jne hp (by decide : 104 ∈ ([104, 105, 106, 111, 125, 126] : List Nat)))).trans rfl)))
      · obtain rfl := Option.some.inj hf
        exact ((jp_set_ne (jne hp (by decide : 104 ∈ ([104, 105, 106, 111, 125, 126] : List Nat)))).trans rfl)
theorem w_M_take {a1 : Int32} {a2 : Int32} {a3 : Int32} {a4 : Int32} {a5 : Int32} {M : jp_M} {res : Int32 × jp_M} (hf : f_M_take a1 a2 a3 a4 a5 M = some res) : ∀ p, p ∉ ([104, 105, 106, 111] : List Nat) → res.2 p = M p := by
  intro p hp
  unfold f_M_take at hf
  rcases jif_d hf with ⟨h, hf⟩ | ⟨h, hf⟩
  · obtain rfl := Option.some.inj hf
    exact ((jp_set_ne (jne hp (by decide : 104 ∈ ([104, 105, 106, 111] : List Nat)))).trans rfl)
  · rcases jif_d hf with ⟨h, hf⟩ | ⟨h, hf⟩
    · obtain rfl := Option.some.inj hf
      exact ((jp_set_ne (jne hp (by decide : 104 ∈ ([104, 105, 106, 111] : List Nat)))).trans rfl)
    · obtain ⟨q3, hc_3, hf⟩ := jbind hf
      rcases jif_d hf with ⟨h, hf⟩ | ⟨h, hf⟩
      · obtain ⟨q4, hc_4, hf⟩ := jbind hf
        obtain ⟨q5, hc_5, hf⟩ := jbind hf
        obtain ⟨q6, hc_6, hf⟩ := jbind hf
        obtain rfl := Option.some.inj hf
        exact ((w_M_notes hc_6 _ (jout hp (by decide : (([105, 111] : List Nat)).all (fun x => (([104, 105, 106, 111] : List Nat)).contains x) = true))).trans ((w_M_begins hc_5 _ (jout hp (by decide : (([105] : List Nat)).all (fun x => (([104, 105, 106, 111] : List Nat)).contains x) = true))).trans ((w_M_keepsAhead hc_4 _ (jout hp (by decide : (([104, 106] : List Nat)).all (fun x => (([104, 105, 106, 111] : List Nat)).contains x) = true))).trans ((jp_set_ne (jne hp (by decide : 104 ∈ ([104, 105, 106, 111] : List Nat)))).trans rfl))))
      · obtain rfl := Option.some.inj hf
        exact ((jp_set_ne (jne hp (by decide : 104 ∈ ([104, 105, 106, 111] : List Nat)))).trans rfl)
theorem w_M_isOver_20  : ∀ (n : Nat) (l2 : Int32) (M : jp_M) {res : jp_M}, f_M_isOver_20 n  l2 M = some res → ∀ p, p ∉ ([105] : List Nat) → res p = M p := by
  intro n
  induction n with
  | zero =>
    intro l2 M res hf
    cases hf
  | succ n ih =>
    intro l2 M res hf p hp
    rw [f_M_isOver_20] at hf
    rcases jif_d hf with ⟨h, hf⟩ | ⟨h, hf⟩
    · obtain rfl := Option.some.inj hf
      exact rfl
    · obtain ⟨hb2, hf⟩ := jg_some hf
      obtain ⟨hb4, hf⟩ := jg_some hf
      exact (ih _ _ hf _ hp).trans ((jp_set_ne (jne hp (by decide : 105 ∈ ([105] : List Nat)))).trans rfl)
