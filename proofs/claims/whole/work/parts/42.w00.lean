theorem w_C_forgetKept {M : jp_M} {res : jp_M} (hf : f_C_forgetKept M = res) : ∀ p, p ∉ ([0] : List Nat) → res p = M p := by
  intro p hp
  unfold f_C_forgetKept at hf
  subst hf
  exact ((jp_set_ne (jne hp (by decide : 0 ∈ ([0] : List Nat)))).trans rfl)
theorem w_C_state {a1 : Int32} {M : jp_M} {res : Int32 × jp_M} (hf : f_C_state a1 M = res) : ∀ p, p ∉ ([0, 2] : List Nat) → res.2 p = M p := by
  intro p hp
  unfold f_C_state at hf
  subst hf
  exact ((w_C_forgetKept rfl _ (jout hp (by decide : (([0] : List Nat)).all (fun x => (([0, 2] : List Nat)).contains x) = true))).trans ((jp_set_ne (jne hp (by decide : 2 ∈ ([0, 2] : List Nat)))).trans rfl))
theorem w_C_person {a1 : Int32} {a2 : Int32} {a3 : Int32} {M : jp_M} {res : Int32 × jp_M} (hf : f_C_person a1 a2 a3 M = some res) : ∀ p, p ∉ ([0, 2, 3] : List Nat) → res.2 p = M p := by
  intro p hp
  unfold f_C_person at hf
  rcases jif_d hf with ⟨h, hf⟩ | ⟨h, hf⟩
  · obtain rfl := Option.some.inj hf
    exact rfl
  · rcases jif_d hf with ⟨h, hf⟩ | ⟨h, hf⟩
    · obtain rfl := Option.some.inj hf
      exact rfl
    · rcases jif_d hf with ⟨h, hf⟩ | ⟨h, hf⟩
      · obtain rfl := Option.some.inj hf
        exact rfl
      · rcases jif_d hf with ⟨h, hf⟩ | ⟨h, hf⟩
        · obtain ⟨hb5, hf⟩ := jg_some hf
          obtain ⟨hb7, hf⟩ := jg_some hf
          obtain ⟨hb9, hf⟩ := jg_some hf
          obtain ⟨hb11, hf⟩ := jg_some hf
          obtain ⟨hb13, hf⟩ := jg_some hf
          obtain rfl := Option.some.inj hf
          exact ((w_C_forgetKept rfl _ (jout hp (by decide : (([0] : List Nat)).all (fun x => (([0, 2, 3] : List Nat)).contains x) = true))).trans ((jp_set_ne (jne hp (by decide : 2 ∈ ([0, 2, 3] : List Nat)))).trans ((jp_set_ne (jne hp (by decide : 3 ∈ ([0, 2, 3] : List Nat)))).trans ((jp_set_ne (jne hp (by decide : 3 ∈ ([0, 2, 3] : List Nat)))).trans ((jp_set_ne (jne hp (by decide : 3 ∈ ([0, 2, 3] : List Nat)))).trans ((jp_set_ne (jne hp (by decide : 3 ∈ ([0, 2, 3] : List Nat)))).trans ((jp_set_ne (jne hp (by decide : 3 ∈ ([0, 2, 3] : List Nat)))).trans rfl)))))))
        · obtain rfl := Option.some.inj hf
          exact rfl
theorem w_C_swallow {a1 : Int32} {a2 : Int32} {M : jp_M} {res : Int32 × jp_M} (hf : f_C_swallow a1 a2 M = some res) : ∀ p, p ∉ ([0, 2, 4] : List Nat) → res.2 p = M p := by
  intro p hp
  unfold f_C_swallow at hf
  rcases jif_d hf with ⟨h, hf⟩ | ⟨h, hf⟩
  · obtain rfl := Option.some.inj hf
    exact rfl
  · rcases jif_d hf with ⟨h, hf⟩ | ⟨h, hf⟩
    · obtain rfl := Option.some.inj hf
      exact rfl
    · rcases jif_d hf with ⟨h, hf⟩ | ⟨h, hf⟩
      · obtain rfl := Option.some.inj hf
        exact rfl
      · rcases jif_d hf with ⟨h, hf⟩ | ⟨h, hf⟩
        · obtain ⟨hb3, hf⟩ := jg_some hf
          obtain ⟨hb5, hf⟩ := jg_some hf
          obtain ⟨hb7, hf⟩ := jg_some hf
          obtain rfl := Option.some.inj hf
          exact ((w_C_forgetKept rfl _ (jout hp (by decide : (([0] : List Nat)).all (fun x => (([0, 2, 4] : List Nat)).contains x) = true))).trans ((jp_set_ne (jne hp (by decide : 2 ∈ ([0, 2, 4] : List Nat)))).trans ((jp_set_ne (jne hp (by decide : 4 ∈ ([0, 2, 4] : List Nat)))).trans ((jp_set_ne (jne hp (by decide : 4 ∈ ([0, 2, 4] : List Nat)))).trans ((jp_set_ne (jne hp (by decide : 4 ∈ ([0, 2, 4] : List Nat)))).trans rfl)))))
        · obtain rfl := Option.some.inj hf
          exact rfl
theorem w_C_setDay {a1 : Int32} {M : jp_M} {res : Int32 × jp_M} (hf : f_C_setDay a1 M = res) : ∀ p, p ∉ ([2] : List Nat) → res.2 p = M p := by
  intro p hp
  unfold f_C_setDay at hf
  rcases jif_d hf with ⟨h, hf⟩ | ⟨h, hf⟩
  · subst hf
    exact ((jp_set_ne (jne hp (by decide : 2 ∈ ([2] : List Nat)))).trans rfl)
  · subst hf
    exact rfl
theorem w_C_setEyes {a1 : Int32} {a2 : Int32} {M : jp_M} {res : Int32 × jp_M} (hf : f_C_setEyes a1 a2 M = some res) : ∀ p, p ∉ ([4] : List Nat) → res.2 p = M p := by
  intro p hp
  unfold f_C_setEyes at hf
  rcases jif_d hf with ⟨h, hf⟩ | ⟨h, hf⟩
  · obtain rfl := Option.some.inj hf
    exact rfl
  · rcases jif_d hf with ⟨h, hf⟩ | ⟨h, hf⟩
    · obtain rfl := Option.some.inj hf
      exact rfl
    · rcases jif_d hf with ⟨h, hf⟩ | ⟨h, hf⟩
      · obtain ⟨hb3, hf⟩ := jg_some hf
        obtain rfl := Option.some.inj hf
        exact ((jp_set_ne (jne hp (by decide : 4 ∈ ([4] : List Nat)))).trans rfl)
      · obtain rfl := Option.some.inj hf
        exact rfl
theorem w_C_setPerson {a1 : Int32} {a2 : Int32} {a3 : Int32} {a4 : Int32} {M : jp_M} {res : Int32 × jp_M} (hf : f_C_setPerson a1 a2 a3 a4 M = some res) : ∀ p, p ∉ ([3] : List Nat) → res.2 p = M p := by
  intro p hp
  unfold f_C_setPerson at hf
  rcases jif_d hf with ⟨h, hf⟩ | ⟨h, hf⟩
  · obtain rfl := Option.some.inj hf
    exact rfl
  · rcases jif_d hf with ⟨h, hf⟩ | ⟨h, hf⟩
    · obtain ⟨hb4, hf⟩ := jg_some hf
      obtain rfl := Option.some.inj hf
      exact ((jp_set_ne (jne hp (by decide : 3 ∈ ([3] : List Nat)))).trans rfl)
    · obtain rfl := Option.some.inj hf
      exact rfl
theorem w_C_set_121  (l4 : Int32) (M : jp_M) {res : Int32 × jp_M} (hf : f_C_set_121  l4 M = some res) : ∀ p, p ∉ ([0, 2, 3, 4] : List Nat) → res.2 p = M p := by
  intro p hp
  unfold f_C_set_121 at hf
  rcases jif_d hf with ⟨h, hf⟩ | ⟨h, hf⟩
  · obtain ⟨hb1, hf⟩ := jg_some hf
    obtain rfl := Option.some.inj hf
    exact rfl
  · obtain ⟨hb3, hf⟩ := jg_some hf
    obtain rfl := Option.some.inj hf
    exact ((w_C_forgetKept rfl _ (jout hp (by decide : (([0] : List Nat)).all (fun x => (([0, 2, 3, 4] : List Nat)).contains x) = true))).trans rfl)
theorem w_C_set {a1 : Int32} {a2 : Int32} {a3 : Int32} {M : jp_M} {res : Int32 × jp_M} (hf : f_C_set a1 a2 a3 M = some res) : ∀ p, p ∉ ([0, 2, 3, 4] : List Nat) → res.2 p = M p := by
  intro p hp
  unfold f_C_set at hf
  rcases jif_d hf with ⟨h, hf⟩ | ⟨h, hf⟩
  · obtain ⟨q1, hc_1, hf⟩ := jbind hf
    exact (w_C_set_121 _ _ hf _ hp).trans ((w_C_setPerson hc_1 _ (jout hp (by decide : (([3] : List Nat)).all (fun x => (([0, 2, 3, 4] : List Nat)).contains x) = true))).trans rfl)
  · rcases jif_d hf with ⟨h, hf⟩ | ⟨h, hf⟩
    · obtain ⟨q2, hc_2, hf⟩ := jbind hf
      exact (w_C_set_121 _ _ hf _ hp).trans ((w_C_setPerson hc_2 _ (jout hp (by decide : (([3] : List Nat)).all (fun x => (([0, 2, 3, 4] : List Nat)).contains x) = true))).trans rfl)
    · rcases jif_d hf with ⟨h, hf⟩ | ⟨h, hf⟩
      · obtain ⟨q3, hc_3, hf⟩ := jbind hf
        exact (w_C_set_121 _ _ hf _ hp).trans ((w_C_setPerson hc_3 _ (jout hp (by decide : (([3] : List Nat)).all (fun x => (([0, 2, 3, 4] : List Nat)).contains x) = true))).trans rfl)
      · rcases jif_d hf with ⟨h, hf⟩ | ⟨h, hf⟩
        · obtain ⟨q4, hc_4, hf⟩ := jbind hf
          exact (w_C_set_121 _ _ hf _ hp).trans ((w_C_setPerson hc_4 _ (jout hp (by decide : (([3] : List Nat)).all (fun x => (([0, 2, 3, 4] : List Nat)).contains x) = true))).trans rfl)
        · rcases jif_d hf with ⟨h, hf⟩ | ⟨h, hf⟩
          · obtain ⟨q5, hc_5, hf⟩ := jbind hf
            exact (w_C_set_121 _ _ hf _ hp).trans ((w_C_setEyes hc_5 _ (jout hp (by decide : (([4] : List Nat)).all (fun x => (([0, 2, 3, 4] : List Nat)).contains x) = true))).trans rfl)
          · rcases jif_d hf with ⟨h, hf⟩ | ⟨h, hf⟩
            · exact (w_C_set_121 _ _ hf _ hp).trans ((w_C_setDay rfl _ (jout hp (by decide : (([2] : List Nat)).all (fun x => (([0, 2, 3, 4] : List Nat)).contains x) = true))).trans rfl)
            · exact (w_C_set_121 _ _ hf _ hp).trans rfl
theorem w_K_wants {a1 : Int32} {a2 : Int32} {a3 : Int32} {a4 : Int32} {a5 : Int32} {M : jp_M} {res : Int32 × jp_M} (hf : f_K_wants a1 a2 a3 a4 a5 M = res) : ∀ p, p ∉ ([55] : List Nat) → res.2 p = M p := by
  intro p hp
  unfold f_K_wants at hf
  rcases jif_d hf with ⟨h, hf⟩ | ⟨h, hf⟩
  · subst hf
    exact rfl
  · rcases jif_d hf with ⟨h, hf⟩ | ⟨h, hf⟩
    · subst hf
      exact rfl
    · rcases jif_d hf with ⟨h, hf⟩ | ⟨h, hf⟩
      · subst hf
        exact rfl
      · rcases jif_d hf with ⟨h, hf⟩ | ⟨h, hf⟩
        · subst hf
          exact rfl
        · rcases jif_d hf with ⟨h, hf⟩ | ⟨h, hf⟩
          · subst hf
            exact rfl
          · rcases jif_d hf with ⟨h, hf⟩ | ⟨h, hf⟩
            · rcases jif_d hf with ⟨h, hf⟩ | ⟨h, hf⟩
              · subst hf
                exact rfl
              · rcases jif_d hf with ⟨h, hf⟩ | ⟨h, hf⟩
                · subst hf
                  exact ((jp_set_ne (jne hp (by decide : 55 ∈ ([55] : List Nat)))).trans ((jp_set_ne (jne hp (by decide : 55 ∈ ([55] : List Nat)))).trans ((jp_set_ne (jne hp (by decide : 55 ∈ ([55] : List Nat)))).trans ((jp_set_ne (jne hp (by decide : 55 ∈ ([55] : List Nat)))).trans ((jp_set_ne (jne hp (by decide : 55 ∈ ([55] : List Nat)))).trans ((jp_set_ne (jne hp (by decide : 55 ∈ ([55] : List Nat)))).trans rfl))))))
                · subst hf
                  exact rfl
            · subst hf
              exact rfl
theorem w_W_becomes {M : jp_M} {res : jp_M} (hf : f_W_becomes M = res) : ∀ p, p ∉ ([80, 81, 82, 83] : List Nat) → res p = M p := by
  intro p hp
  unfold f_W_becomes at hf
  subst hf
  exact ((jp_set_ne (jne hp (by decide : 83 ∈ ([80, 81, 82, 83] : List Nat)))).trans ((jp_set_ne (jne hp (by decide : 82 ∈ ([80, 81, 82, 83] : List Nat)))).trans ((jp_set_ne (jne hp (by decide : 81 ∈ ([80, 81, 82, 83] : List Nat)))).trans ((jp_set_ne (jne hp (by decide : 80 ∈ ([80, 81, 82, 83] : List Nat)))).trans ((jp_set_ne (jne hp (by decide : 80 ∈ ([80, 81, 82, 83] : List Nat)))).trans ((jp_set_ne (jne hp (by decide : 80 ∈ ([80, 81, 82, 83] : List Nat)))).trans ((jp_set_ne (jne hp (by decide : 80 ∈ ([80, 81, 82, 83] : List Nat)))).trans ((jp_set_ne (jne hp (by decide : 80 ∈ ([80, 81, 82, 83] : List Nat)))).trans ((jp_set_ne (jne hp (by decide : 80 ∈ ([80, 81, 82, 83] : List Nat)))).trans ((jp_set_ne (jne hp (by decide : 80 ∈ ([80, 81, 82, 83] : List Nat)))).trans ((jp_set_ne (jne hp (by decide : 80 ∈ ([80, 81, 82, 83] : List Nat)))).trans rfl)))))))))))
theorem w_W_becomes_1 {M : jp_M} {res : jp_M} (hf : f_W_becomes_1 M = res) : ∀ p, p ∉ ([84, 85, 86, 87] : List Nat) → res p = M p := by
  intro p hp
  unfold f_W_becomes_1 at hf
  subst hf
  exact ((jp_set_ne (jne hp (by decide : 87 ∈ ([84, 85, 86, 87] : List Nat)))).trans ((jp_set_ne (jne hp (by decide : 86 ∈ ([84, 85, 86, 87] : List Nat)))).trans ((jp_set_ne (jne hp (by decide : 85 ∈ ([84, 85, 86, 87] : List Nat)))).trans ((jp_set_ne (jne hp (by decide : 84 ∈ ([84, 85, 86, 87] : List Nat)))).trans ((jp_set_ne (jne hp (by decide : 84 ∈ ([84, 85, 86, 87] : List Nat)))).trans ((jp_set_ne (jne hp (by decide : 84 ∈ ([84, 85, 86, 87] : List Nat)))).trans ((jp_set_ne (jne hp (by decide : 84 ∈ ([84, 85, 86, 87] : List Nat)))).trans ((jp_set_ne (jne hp (by decide : 84 ∈ ([84, 85, 86, 87] : List Nat)))).trans ((jp_set_ne (jne hp (by decide : 84 ∈ ([84, 85, 86, 87] : List Nat)))).trans ((jp_set_ne (jne hp (by decide : 84 ∈ ([84, 85, 86, 87] : List Nat)))).trans ((jp_set_ne (jne hp (by decide : 84 ∈ ([84, 85, 86, 87] : List Nat)))).trans rfl)))))))))))
theorem w_W_becomes_2 {M : jp_M} {res : jp_M} (hf : f_W_becomes_2 M = res) : ∀ p, p ∉ ([88, 89, 90, 91] : List Nat) → res p = M p := by
  intro p hp
  unfold f_W_becomes_2 at hf
  subst hf
  exact ((jp_set_ne (jne hp (by decide : 91 ∈ ([88, 89, 90, 91] : List Nat)))).trans ((jp_set_ne (jne hp (by decide : 90 ∈ ([88, 89, 90, 91] : List Nat)))).trans ((jp_set_ne (jne hp (by decide : 89 ∈ ([88, 89, 90, 91] : List Nat)))).trans ((jp_set_ne (jne hp (by decide : 88 ∈ ([88, 89, 90, 91] : List Nat)))).trans ((jp_set_ne (jne hp (by decide : 88 ∈ ([88, 89, 90, 91] : List Nat)))).trans ((jp_set_ne (jne hp (by decide : 88 ∈ ([88, 89, 90, 91] : List Nat)))).trans ((jp_set_ne (jne hp (by decide : 88 ∈ ([88, 89, 90, 91] : List Nat)))).trans ((jp_set_ne (jne hp (by decide : 88 ∈ ([88, 89, 90, 91] : List Nat)))).trans ((jp_set_ne (jne hp (by decide : 88 ∈ ([88, 89, 90, 91] : List Nat)))).trans ((jp_set_ne (jne hp (by decide : 88 ∈ ([88, 89, 90, 91] : List Nat)))).trans ((jp_set_ne (jne hp (by decide : 88 ∈ ([88, 89, 90, 91] : List Nat)))).trans rfl)))))))))))
theorem w_W_becomes_3 {M : jp_M} {res : jp_M} (hf : f_W_becomes_3 M = res) : ∀ p, p ∉ ([92, 93, 94, 95] : List Nat) → res p = M p := by
  intro p hp
  unfold f_W_becomes_3 at hf
  subst hf
  exact ((jp_set_ne (jne hp (by decide : 95 ∈ ([92, 93, 94, 95] : List Nat)))).trans ((jp_set_ne (jne hp (by decide : 94 ∈ ([92, 93, 94, 95] : List Nat)))).trans ((jp_set_ne (jne hp (by decide : 93 ∈ ([92, 93, 94, 95] : List Nat)))).trans ((jp_set_ne (jne hp (by decide : 92 ∈ ([92, 93, 94, 95] : List Nat)))).trans ((jp_set_ne (jne hp (by decide : 92 ∈ ([92, 93, 94, 95] : List Nat)))).trans ((jp_set_ne (jne hp (by decide : 92 ∈ ([92, 93, 94, 95] : List Nat)))).trans ((jp_set_ne (jne hp (by decide : 92 ∈ ([92, 93, 94, 95] : List Nat)))).trans ((jp_set_ne (jne hp (by decide : 92 ∈ ([92, 93, 94, 95] : List Nat)))).trans ((jp_set_ne (jne hp (by decide : 92 ∈ ([92, 93, 94, 95] : List Nat)))).trans ((jp_set_ne (jne hp (by decide : 92 ∈ ([92, 93, 94, 95] : List Nat)))).trans ((jp_set_ne (jne hp (by decide : 92 ∈ ([92, 93, 94, 95] : List Nat)))).trans rfl)))))))))))
theorem w_W_becomes_4 {M : jp_M} {res : jp_M} (hf : f_W_becomes_4 M = res) : ∀ p, p ∉ ([96, 97, 98, 99] : List Nat) → res p = M p := by
  intro p hp
  unfold f_W_becomes_4 at hf
  subst hf
  exact ((jp_set_ne (jne hp (by decide : 99 ∈ ([96, 97, 98, 99] : List Nat)))).trans ((jp_set_ne (jne hp (by decide : 98 ∈ ([96, 97, 98, 99] : List Nat)))).trans ((jp_set_ne (jne hp (by decide : 97 ∈ ([96, 97, 98, 99] : List Nat)))).trans ((jp_set_ne (jne hp (by decide : 96 ∈ ([96, 97, 98, 99] : List Nat)))).trans ((jp_set_ne (jne hp (by decide : 96 ∈ ([96, 97, 98, 99] : List Nat)))).trans ((jp_set_ne (jne hp (by decide : 96 ∈ ([96, 97, 98, 99] : List Nat)))).trans ((jp_set_ne (jne hp (by decide : 96 ∈ ([96, 97, 98, 99] : List Nat)))).trans ((jp_set_ne (jne hp (by decide : 96 ∈ ([96, 97, 98, 99] : List Nat)))).trans ((jp_set_ne (jne hp (by decide : 96 ∈ ([96, 97, 98, 99] : List Nat)))).trans ((jp_set_ne (jne hp (by decide : 96 ∈ ([96, 97, 98, 99] : List Nat)))).trans ((jp_set_ne (jne hp (by decide : 96 ∈ ([96, 97, 98, 99] : List Nat)))).trans rfl)))))))))))
theorem w_W_becomes_5 {M : jp_M} {res : jp_M} (hf : f_W_becomes_5 M = res) : ∀ p, p ∉ ([100, 101, 102, 103] : List Nat) → res p = M p := by
  intro p hp
  unfold f_W_becomes_5 at hf
  subst hf
  exact ((jp_set_ne (jne hp (by decide : 103 ∈ ([100, 101, 102, 103] : List Nat)))).trans ((jp_set_ne (jne hp (by decide : 102 ∈ ([100, 101, 102, 103] : List Nat)))).trans ((jp_set_ne (jne hp (by decide : 101 ∈ ([100, 101, 102, 103] : List Nat)))).trans ((jp_set_ne (jne hp (by decide : 100 ∈ ([100, 101, 102, 103] : List Nat)))).trans ((jp_set_ne (jne hp (by decide : 100 ∈ ([100, 101, 102, 103] : List Nat)))).trans ((jp_set_ne (jne hp (by decide : 100 ∈ ([100, 101, 102, 103] : List Nat)))).trans ((jp_set_ne (jne hp (by decide : 100 ∈ ([100, 101, 102, 103] : List Nat)))).trans ((jp_set_ne (jne hp (by decide : 100 ∈ ([100, 101, 102, 103] : List Nat)))).trans ((jp_set_ne (jne hp (by decide : 100 ∈ ([100, 101, 102, 103] : List Nat)))).trans ((jp_set_ne (jne hp (by decide : 100 ∈ ([100, 101, 102, 103] : List Nat)))).trans ((jp_set_ne (jne hp (by decide : 100 ∈ ([100, 101, 102, 103] : List Nat)))).trans rfl)))))))))))
theorem w_C_keep {M : jp_M} {res : jp_M} (hf : f_C_keep M = some res) : ∀ p, p ∉ ([0, 80, 81, 82, 83, 84, 85, 86, 87, 88, 89, 90, 91, 92, 93, 94, 95, 96, 97, 98, 99, 100, 101, 102, 103] : List Nat) → res p = M p := by
  intro p hp
  unfold f_C_keep at hf
  obtain ⟨_, hf⟩ := jg_some hf
  rcases jif_d hf with ⟨h, hf⟩ | ⟨h, hf⟩
  · obtain rfl := Option.some.inj hf
    exact ((jp_set_ne (jne hp (by decide : 0 ∈ ([0, 80, 81, 82, 83, 84, 85, 86, 87, 88, 89, 90, 91, 92, 93, 94, 95, 96, 97, 98, 99, 100, 101, 102, 103] : List Nat)))).trans ((w_W_becomes rfl _ (jout hp (by decide : (([80, 81, 82, 83] : List Nat)).all (fun x => (([0, 80, 81, 82, 83, 84, 85, 86, 87, 88, 89, 90, 91, 92, 93, 94, 95, 96, 97, 98, 99, 100, 101, 102, 103] : List Nat)).contains x) = true))).trans ((jp_set_ne (jne hp (by decide : 0 ∈ ([0, 80, 81, 82, 83, 84, 85, 86, 87, 88, 89, 90, 91, 92, 93, 94, 95, 96, 97, 98, 99, 100, 101, 102, 103] : List Nat)))).trans rfl)))
  · rcases jif_d hf with ⟨h, hf⟩ | ⟨h, hf⟩
    · obtain rfl := Option.some.inj hf
      exact ((jp_set_ne (jne hp (by decide : 0 ∈ ([0, 80, 81, 82, 83, 84, 85, 86, 87, 88, 89, 90, 91, 92, 93, 94, 95, 96, 97, 98, 99, 100, 101, 102, 103] : List Nat)))).trans ((w_W_becomes_1 rfl _ (jout hp (by decide : (([84, 85, 86, 87] : List Nat)).all (fun x => (([0, 80, 81, 82, 83, 84, 85, 86, 87, 88, 89, 90, 91, 92, 93, 94, 95, 96, 97, 98, 99, 100, 101, 102, 103] : List Nat)).contains x) = true))).trans ((jp_set_ne (jne hp (by decide : 0 ∈ ([0, 80, 81, 82, 83, 84, 85, 86, 87, 88, 89, 90, 91, 92, 93, 94, 95, 96, 97, 98, 99, 100, 101, 102, 103] : List Nat)))).trans rfl)))
    · rcases jif_d hf with ⟨h, hf⟩ | ⟨h, hf⟩
      · obtain rfl := Option.some.inj hf
        exact ((jp_set_ne (jne hp (by decide : 0 ∈ ([0, 80, 81, 82, 83, 84, 85, 86, 87, 88, 89, 90, 91, 92, 93, 94, 95, 96, 97, 98, 99, 100, 101, 102, 103] : List Nat)))).trans ((w_W_becomes_2 rfl _ (jout hp (by decide : (([88, 89, 90, 91] : List Nat)).all (fun x => (([0, 80, 81, 82, 83, 84, 85, 86, 87, 88, 89, 90, 91, 92, 93, 94, 95, 96, 97, 98, 99, 100, 101, 102, 103] : List Nat)).contains x) = true))).trans ((jp_set_ne (jne hp (by decide : 0 ∈ ([0, 80, 81, 82, 83, 84, 85, 86, 87, 88, 89, 90, 91, 92, 93, 94, 95, 96, 97, 98, 99, 100, 101, 102, 103] : List Nat)))).trans rfl)))
      · rcases jif_d hf with ⟨h, hf⟩ | ⟨h, hf⟩
        · obtain rfl := Option.some.inj hf
          exact ((jp_set_ne (jne hp (by decide : 0 ∈ ([0, 80, 81, 82, 83, 84, 85, 86, 87, 88, 89, 90, 91, 92, 93, 94, 95, 96, 97, 98, 99, 100, 101, 102, 103] : List Nat)))).trans ((w_W_becomes_3 rfl _ (jout hp (by decide : (([92, 93, 94, 95] : List Nat)).all (fun x => (([0, 80, 81, 82, 83, 84, 85, 86, 87, 88, 89, 90, 91, 92, 93, 94, 95, 96, 97, 98, 99, 100, 101, 102, 103] : List Nat)).contains x) = true))).trans ((jp_set_ne (jne hp (by decide : 0 ∈ ([0, 80, 81, 82, 83, 84, 85, 86, 87, 88, 89, 90, 91, 92, 93, 94, 95, 96, 97, 98, 99, 100, 101, 102, 103] : List Nat)))).trans rfl)))
        · rcases jif_d hf with ⟨h, hf⟩ | ⟨h, hf⟩
          · obtain rfl := Option.some.inj hf
            exact ((jp_set_ne (jne hp (by decide : 0 ∈ ([0, 80, 81, 82, 83, 84, 85, 86, 87, 88, 89, 90, 91, 92, 93, 94, 95, 96, 97, 98, 99, 100, 101, 102, 103] : List Nat)))).trans ((w_W_becomes_4 rfl _ (jout hp (by decide : (([96, 97, 98, 99] : List Nat)).all (fun x => (([0, 80, 81, 82, 83, 84, 85, 86, 87, 88, 89, 90, 91, 92, 93, 94, 95, 96, 97, 98, 99, 100, 101, 102, 103] : List Nat)).contains x) = true))).trans ((jp_set_ne (jne hp (by decide : 0 ∈ ([0, 80, 81, 82, 83, 84, 85, 86, 87, 88, 89, 90, 91, 92, 93, 94, 95, 96, 97, 98, 99, 100, 101, 102, 103] : List Nat)))).trans rfl)))
          · rcases jif_d hf with ⟨h, hf⟩ | ⟨h, hf⟩
            · obtain rfl := Option.some.inj hf
              exact ((jp_set_ne (jne hp (by decide : 0 ∈ ([0, 80, 81, 82, 83, 84, 85, 86, 87, 88, 89, 90, 91, 92, 93, 94, 95, 96, 97, 98, 99, 100, 101, 102, 103] : List Nat)))).trans ((w_W_becomes_5 rfl _ (jout hp (by decide : (([100, 101, 102, 103] : List Nat)).all (fun x => (([0, 80, 81, 82, 83, 84, 85, 86, 87, 88, 89, 90, 91, 92, 93, 94, 95, 96, 97, 98, 99, 100, 101, 102, 103] : List Nat)).contains x) = true))).trans ((jp_set_ne (jne hp (by decide : 0 ∈ ([0, 80, 81, 82, 83, 84, 85, 86, 87, 88, 89, 90, 91, 92, 93, 94, 95, 96, 97, 98, 99, 100, 101, 102, 103] : List Nat)))).trans rfl)))
            · cases hf
theorem w_A_writes {a1 : Int32} {a2 : Int32} {a3 : Int32} {M : jp_M} {res : jp_M} (hf : f_A_writes a1 a2 a3 M = some res) : ∀ p, p ∉ ([2, 6] : List Nat) → res p = M p := by
  intro p hp
  unfold f_A_writes at hf
  rcases jif_d hf with ⟨h, hf⟩ | ⟨h, hf⟩
  · obtain ⟨hb2, hf⟩ := jg_some hf
    obtain ⟨hb4, hf⟩ := jg_some hf
    obtain ⟨hb6, hf⟩ := jg_some hf
    obtain ⟨hb8, hf⟩ := jg_some hf
    obtain rfl := Option.some.inj hf
    exact ((jp_set_ne (jne hp (by decide : 2 ∈ ([2, 6] : List Nat)))).trans ((jp_set_ne (jne hp (by decide : 6 ∈ ([2, 6] : List Nat)))).trans ((jp_set_ne (jne hp (by decide : 6 ∈ ([2, 6] : List Nat)))).trans ((jp_set_ne (jne hp (by decide : 6 ∈ ([2, 6] : List Nat)))).trans ((jp_set_ne (jne hp (by decide : 6 ∈ ([2, 6] : List Nat)))).trans rfl)))))
  · obtain rfl := Option.some.inj hf
    exact rfl
theorem w_K_begins {a1 : Int32} {a2 : Int32} {a3 : Int32} {M : jp_M} {res : Int32 × jp_M} (hf : f_K_begins a1 a2 a3 M = some res) : ∀ p, p ∉ ([2, 5, 6, 55] : List Nat) → res.2 p = M p := by
  intro p hp
  unfold f_K_begins at hf
  obtain ⟨hb4, hf⟩ := jg_some hf
  obtain ⟨q7, hc_7, hf⟩ := jbind hf
  obtain rfl := Option.some.inj hf
  exact ((w_A_writes hc_7 _ (jout hp (by decide : (([2, 6] : List Nat)).all (fun x => (([2, 5, 6, 55] : List Nat)).contains x) = true))).trans ((jp_set_ne (jne hp (by decide : 2 ∈ ([2, 5, 6, 55] : List Nat)))).trans ((jp_set_ne (jne hp (by decide : 2 ∈ ([2, 5, 6, 55] : List Nat)))).trans ((jp_set_ne (jne hp (by decide : 5 ∈ ([2, 5, 6, 55] : List Nat)))).trans ((jp_set_ne (jne hp (by decide : 55 ∈ ([2, 5, 6, 55] : List Nat)))).trans ((jp_set_ne (jne hp (by decide : 55 ∈ ([2, 5, 6, 55] : List Nat)))).trans rfl))))))
theorem w_L_learns_118  (s1 : Int32) (s2 : Int32) (M : jp_M) {res : jp_M} (hf : f_L_learns_118  s1 s2 M = some res) : ∀ p, p ∉ ([12] : List Nat) → res p = M p := by
  intro p hp
  unfold f_L_learns_118 at hf
  obtain ⟨hb2, hf⟩ := jg_some hf
  obtain ⟨q3, hc_3, hf⟩ := jbind hf
  obtain rfl := Option.some.inj hf
  exact ((jp_set_ne (jne hp (by decide : 12 ∈ ([12] : List Nat)))).trans ((jp_set_ne (jne hp (by decide : 12 ∈ ([12] : List Nat)))).trans ((jp_set_ne (jne hp (by decide : 12 ∈ ([12] : List Nat)))).trans rfl)))
theorem w_L_learns {a3 : Int32} {M : jp_M} {res : jp_M} (hf : f_L_learns a3 M = some res) : ∀ p, p ∉ ([12] : List Nat) → res p = M p := by
  intro p hp
  unfold f_L_learns at hf
  obtain ⟨hb1, hf⟩ := jg_some hf
  obtain ⟨hb2, hf⟩ := jg_some hf
  obtain ⟨hb4, hf⟩ := jg_some hf
  obtain ⟨hb6, hf⟩ := jg_some hf
  obtain ⟨hb8, hf⟩ := jg_some hf
  obtain ⟨hb10, hf⟩ := jg_some hf
  obtain ⟨hb12, hf⟩ := jg_some hf
  obtain ⟨hb14, hf⟩ := jg_some hf
  obtain ⟨q15, hc_15, hf⟩ := jbind hf
  rcases jif_d hf with ⟨h, hf⟩ | ⟨h, hf⟩
  · exact (w_L_learns_118 _ _ _ hf _ hp).trans ((jp_set_ne (jne hp (by decide : 12 ∈ ([12] : List Nat)))).trans ((jp_set_ne (jne hp (by decide : 12 ∈ ([12] : List Nat)))).trans ((jp_set_ne (jne hp (by decide : 12 ∈ ([12] : List Nat)))).trans ((jp_set_ne (jne hp (by decide : 12 ∈ ([12] : List Nat)))).trans ((jp_set_ne (jne hp (by decide : 12 ∈ ([12] : List Nat)))).trans ((jp_set_ne (jne hp (by decide : 12 ∈ ([12] : List Nat)))).trans ((jp_set_ne (jne hp (by decide : 12 ∈ ([12] : List Nat)))).trans rfl)))))))
  · exact (w_L_learns_118 _ _ _ hf _ hp).trans ((jp_set_ne (jne hp (by decide : 12 ∈ ([12] : List Nat)))).trans ((jp_set_ne (jne hp (by decide : 12 ∈ ([12] : List Nat)))).trans ((jp_set_ne (jne hp (by decide : 12 ∈ ([12] : List Nat)))).trans ((jp_set_ne (jne hp (by decide : 12 ∈ ([12] : List Nat)))).trans ((jp_set_ne (jne hp (by decide : 12 ∈ ([12] : List Nat)))).trans ((jp_set_ne (jne hp (by decide : 12 ∈ ([12] : List Nat)))).trans ((jp_set_ne (jne hp (by decide : 12 ∈ ([12] : List Nat)))).trans rfl)))))))
theorem w_L_value_117 {c4 : Int32 → Int32 → Int32 → jp_M → Option (Int32 × jp_M)} (hc4 : ∀ (l2 : Int32) (l3 : Int32) (l4 : Int32) (M : jp_M) (res : Int32 × jp_M), c4 l2 l3 l4 M = some res → ∀ p, p ∉ ([13] : List Nat) → res.2 p = M p) (l2 : Int32) (l3 : Int32) (l4 : Int32) (M : jp_M) {res : Int32 × jp_M} (hf : f_L_value_117 c4 l2 l3 l4 M = some res) : ∀ p, p ∉ ([13] : List Nat) → res.2 p = M p := by
  intro p hp
  unfold f_L_value_117 at hf
  exact (hc4 _ _ _ _ _ hf _ hp).trans rfl
theorem w_L_value_113 {c4 : Int32 → Int32 → Int32 → jp_M → Option (Int32 × jp_M)} (hc4 : ∀ (l2 : Int32) (l3 : Int32) (l4 : Int32) (M : jp_M) (res : Int32 × jp_M), c4 l2 l3 l4 M = some res → ∀ p, p ∉ ([13] : List Nat) → res.2 p = M p) (l2 : Int32) (l3 : Int32) (l4 : Int32) (s1 : Int32) (s2 : Int32) (M : jp_M) {res : Int32 × jp_M} (hf : f_L_value_113 c4 l2 l3 l4 s1 s2 M = some res) : ∀ p, p ∉ ([13] : List Nat) → res.2 p = M p := by
  intro p hp
  unfold f_L_value_113 at hf
  obtain ⟨hb2, hf⟩ := jg_some hf
  exact (w_L_value_117 hc4 _ _ _ _ hf _ hp).trans ((jp_set_ne (jne hp (by decide : 13 ∈ ([13] : List Nat)))).trans rfl)
theorem w_L_value_123  (l3 : Int32) (M : jp_M) {res : Int32 × jp_M} (hf : f_L_value_123  l3 M = some res) : ∀ p, p ∉ ([13] : List Nat) → res.2 p = M p := by
  intro p hp
  unfold f_L_value_123 at hf
  rcases jif_d hf with ⟨h, hf⟩ | ⟨h, hf⟩
  · obtain rfl := Option.some.inj hf
    exact rfl
  · obtain ⟨hb1, hf⟩ := jg_some hf
    obtain rfl := Option.some.inj hf
    exact rfl
theorem w_L_value_5  : ∀ (n : Nat) (l2 : Int32) (l3 : Int32) (l4 : Int32) (M : jp_M) {res : Int32 × jp_M}, f_L_value_5 n  l2 l3 l4 M = some res → ∀ p, p ∉ ([13] : List Nat) → res.2 p = M p := by
  intro n
  induction n with
  | zero =>
    intro l2 l3 l4 M res hf
    cases hf
  | succ n ih =>
    intro l2 l3 l4 M res hf p hp
    rw [f_L_value_5] at hf
    rcases jif_d hf with ⟨h, hf⟩ | ⟨h, hf⟩
    · exact (w_L_value_123 _ _ hf _ hp).trans rfl
    · rcases jif_d hf with ⟨h, hf⟩ | ⟨h, hf⟩
      · exact (w_L_value_123 _ _ hf _ hp).trans rfl
      · obtain ⟨hb1, hf⟩ := jg_some hf
        rcases jif_d hf with ⟨h, hf⟩ | ⟨h, hf⟩
        · rcases jif_d hf with ⟨h, hf⟩ | ⟨h, hf⟩
          · exact (w_L_value_117 (fun l2 l3 l4 M res hf => ih l2 l3 l4 M hf) _ _ _ _ hf _ hp).trans rfl
          · rcases jif_d hf with ⟨h, hf⟩ | ⟨h, hf⟩
            · obtain ⟨q2, hc_2, hf⟩ := jbind hf
              exact (w_L_value_113 (fun l2 l3 l4 M res hf => ih l2 l3 l4 M hf) _ _ _ _ _ _ hf _ hp).trans rfl
            · exact (w_L_value_113 (fun l2 l3 l4 M res hf => ih l2 l3 l4 M hf) _ _ _ _ _ _ hf _ hp).trans rfl
        · rcases jif_d hf with ⟨h, hf⟩ | ⟨h, hf⟩
          · exact (w_L_value_117 (fun l2 l3 l4 M res hf => ih l2 l3 l4 M hf) _ _ _ _ hf _ hp).trans rfl
          · obtain ⟨hb3, hf⟩ := jg_some hf
            obtain ⟨hb4, hf⟩ := jg_some hf
            obtain ⟨q5, hc_5, hf⟩ := jbind hf
            obtain ⟨hb7, hf⟩ := jg_some hf
            exact (w_L_value_117 (fun l2 l3 l4 M res hf => ih l2 l3 l4 M hf) _ _ _ _ hf _ hp).trans ((jp_set_ne (jne hp (by decide : 13 ∈ ([13] : List Nat)))).trans rfl)
theorem w_L_value {a1 : Int32} {a2 : Int32} {M : jp_M} {res : Int32 × jp_M} (hf : f_L_value a1 a2 M = some res) : ∀ p, p ∉ ([13] : List Nat) → res.2 p = M p := by
  intro p hp
  unfold f_L_value at hf
  exact (w_L_value_5 jFu _ _ _ _ hf _ hp).trans rfl
theorem w_L_tells_142  (l5 : Int32) (s0 : Int32) (s1 : Int32) (M : jp_M) {res : Int32 × jp_M} (hf : f_L_tells_142  l5 s0 s1 M = some res) : ∀ p, p ∉ ([12, 13] : List Nat) → res.2 p = M p := by
  intro p hp
  unfold f_L_tells_142 at hf
  obtain rfl := Option.some.inj hf
  exact rfl
theorem w_L_tells_128  (l1 : Int32) (l5 : Int32) (M : jp_M) {res : Int32 × jp_M} (hf : f_L_tells_128  l1 l5 M = some res) : ∀ p, p ∉ ([12, 13] : List Nat) → res.2 p = M p := by
  intro p hp
  unfold f_L_tells_128 at hf
  rcases jif_d hf with ⟨h, hf⟩ | ⟨h, hf⟩
  · exact (w_L_tells_142 _ _ _ _ hf _ hp).trans rfl
  · exact (w_L_tells_142 _ _ _ _ hf _ hp).trans rfl
theorem w_L_tells_107  (l1 : Int32) (l6 : Int32) (s1 : Int32) (M : jp_M) {res : Int32 × jp_M} (hf : f_L_tells_107  l1 l6 s1 M = some res) : ∀ p, p ∉ ([12, 13] : List Nat) → res.2 p = M p := by
  intro p hp
  unfold f_L_tells_107 at hf
  obtain ⟨hb1, hf⟩ := jg_some hf
  obtain ⟨q2, hc_2, hf⟩ := jbind hf
  exact (w_L_tells_128 _ _ _ hf _ hp).trans ((w_L_value hc_2 _ (jout hp (by decide : (([13] : List Nat)).all (fun x => (([12, 13] : List Nat)).contains x) = true))).trans rfl)
theorem w_L_tells_88  (l1 : Int32) (l6 : Int32) (M : jp_M) {res : Int32 × jp_M} (hf : f_L_tells_88  l1 l6 M = some res) : ∀ p, p ∉ ([12, 13] : List Nat) → res.2 p = M p := by
  intro p hp
  unfold f_L_tells_88 at hf
  rcases jif_d hf with ⟨h, hf⟩ | ⟨h, hf⟩
  · obtain ⟨hb1, hf⟩ := jg_some hf
    exact (w_L_tells_107 _ _ _ _ hf _ hp).trans rfl
  · exact (w_L_tells_107 _ _ _ _ hf _ hp).trans rfl
theorem w_L_tells_122 {c11 : Int32 → Int32 → Int32 → jp_M → Option (Int32 × jp_M)} (hc11 : ∀ (l1 : Int32) (l5 : Int32) (l6 : Int32) (M : jp_M) (res : Int32 × jp_M), c11 l1 l5 l6 M = some res → ∀ p, p ∉ ([12, 13] : List Nat) → res.2 p = M p) (l1 : Int32) (l5 : Int32) (l6 : Int32) (M : jp_M) {res : Int32 × jp_M} (hf : f_L_tells_122 c11 l1 l5 l6 M = some res) : ∀ p, p ∉ ([12, 13] : List Nat) → res.2 p = M p := by
  intro p hp
  unfold f_L_tells_122 at hf
  exact (hc11 _ _ _ _ _ hf _ hp).trans rfl
theorem w_L_tells_49 {c11 : Int32 → Int32 → Int32 → jp_M → Option (Int32 × jp_M)} (hc11 : ∀ (l1 : Int32) (l5 : Int32) (l6 : Int32) (M : jp_M) (res : Int32 × jp_M), c11 l1 l5 l6 M = some res → ∀ p, p ∉ ([12, 13] : List Nat) → res.2 p = M p) (l1 : Int32) (l5 : Int32) (l6 : Int32) (s0 : Int32) (M : jp_M) {res : Int32 × jp_M} (hf : f_L_tells_49 c11 l1 l5 l6 s0 M = some res) : ∀ p, p ∉ ([12, 13] : List Nat) → res.2 p = M p := by
  intro p hp
  unfold f_L_tells_49 at hf
  obtain ⟨hb1, hf⟩ := jg_some hf
  rcases jif_d hf with ⟨h, hf⟩ | ⟨h, hf⟩
  · exact (w_L_tells_122 hc11 _ _ _ _ hf _ hp).trans rfl
  · rcases jif_d hf with ⟨h, hf⟩ | ⟨h, hf⟩
    · exact (w_L_tells_88 _ _ _ hf _ hp).trans rfl
    · obtain ⟨hb2, hf⟩ := jg_some hf
      obtain ⟨hb3, hf⟩ := jg_some hf
      obtain ⟨q4, hc_4, hf⟩ := jbind hf
      rcases jif_d hf with ⟨h, hf⟩ | ⟨h, hf⟩
      · exact (w_L_tells_122 hc11 _ _ _ _ hf _ hp).trans ((w_L_value hc_4 _ (jout hp (by decide : (([13] : List Nat)).all (fun x => (([12, 13] : List Nat)).contains x) = true))).trans rfl)
      · exact (w_L_tells_88 _ _ _ hf _ hp).trans ((w_L_value hc_4 _ (jout hp (by decide : (([13] : List Nat)).all (fun x => (([12, 13] : List Nat)).contains x) = true))).trans rfl)
theorem w_L_tells_18  : ∀ (n : Nat) (l1 : Int32) (l5 : Int32) (l6 : Int32) (M : jp_M) {res : Int32 × jp_M}, f_L_tells_18 n  l1 l5 l6 M = some res → ∀ p, p ∉ ([12, 13] : List Nat) → res.2 p = M p := by
  intro n
  induction n with
  | zero =>
    intro l1 l5 l6 M res hf
    cases hf
  | succ n ih =>
    intro l1 l5 l6 M res hf p hp
    rw [f_L_tells_18] at hf
    rcases jif_d hf with ⟨h, hf⟩ | ⟨h, hf⟩
    · exact (w_L_tells_128 _ _ _ hf _ hp).trans rfl
    · obtain ⟨hb1, hf⟩ := jg_some hf
      obtain ⟨hb2, hf⟩ := jg_some hf
      rcases jif_d hf with ⟨h, hf⟩ | ⟨h, hf⟩
      · exact (w_L_tells_49 (fun l1 l5 l6 M res hf => ih l1 l5 l6 M hf) _ _ _ _ _ hf _ hp).trans rfl
      · exact (w_L_tells_49 (fun l1 l5 l6 M res hf => ih l1 l5 l6 M hf) _ _ _ _ _ hf _ hp).trans rfl
theorem w_L_tells {a1 : Int32} {a4 : Int32} {M : jp_M} {res : Int32 × jp_M} (hf : f_L_tells a1 a4 M = some res) : ∀ p, p ∉ ([12, 13] : List Nat) → res.2 p = M p := by
  intro p hp
  unfold f_L_tells at hf
  obtain ⟨q1, hc_1, hf⟩ := jbind hf
  exact (w_L_tells_18 jFu _ _ _ _ hf _ hp).trans ((w_L_learns hc_1 _ (jout hp (by decide : (([12] : List Nat)).all (fun x => (([12, 13] : List Nat)).contains x) = true))).trans rfl)
theorem w_W_pays {a1 : Int32} {a2 : Int32} {M : jp_M} {res : Int32 × jp_M} (hf : f_W_pays a1 a2 M = some res) : ∀ p, p ∉ ([2, 3] : List Nat) → res.2 p = M p := by
  intro p hp
  unfold f_W_pays at hf
  obtain ⟨hb1, hf⟩ := jg_some hf
  obtain ⟨hb2, hf⟩ := jg_some hf
  obtain ⟨hb4, hf⟩ := jg_some hf
  obtain rfl := Option.some.inj hf
  exact ((jp_set_ne (jne hp (by decide : 2 ∈ ([2, 3] : List Nat)))).trans ((jp_set_ne (jne hp (by decide : 3 ∈ ([2, 3] : List Nat)))).trans rfl))
theorem w_W_drawsOfThousand {M : jp_M} {res : Int32 × jp_M} (hf : f_W_drawsOfThousand M = res) : ∀ p, p ∉ ([2] : List Nat) → res.2 p = M p := by
  intro p hp
  unfold f_W_drawsOfThousand at hf
  subst hf
  exact ((jp_set_ne (jne hp (by decide : 2 ∈ ([2] : List Nat)))).trans rfl)
theorem w_K_asks_77  (l1 : Int32) (s0 : Int32) (M : jp_M) {res : Int32 × jp_M} (hf : f_K_asks_77  l1 s0 M = some res) : ∀ p, p ∉ ([2, 3, 5, 6, 12, 13, 55] : List Nat) → res.2 p = M p := by
  intro p hp
  unfold f_K_asks_77 at hf
  rcases jif_d hf with ⟨h, hf⟩ | ⟨h, hf⟩
  · obtain ⟨q1, hc_1, hf⟩ := jbind hf
    obtain ⟨q2, hc_2, hf⟩ := jbind hf
    obtain ⟨q3, hc_3, hf⟩ := jbind hf
    obtain rfl := Option.some.inj hf
    exact ((w_K_begins hc_3 _ (jout hp (by decide : (([2, 5, 6, 55] : List Nat)).all (fun x => (([2, 3, 5, 6, 12, 13, 55] : List Nat)).contains x) = true))).trans ((w_W_pays hc_2 _ (jout hp (by decide : (([2, 3] : List Nat)).all (fun x => (([2, 3, 5, 6, 12, 13, 55] : List Nat)).contains x) = true))).trans ((w_L_tells hc_1 _ (jout hp (by decide : (([12, 13] : List Nat)).all (fun x => (([2, 3, 5, 6, 12, 13, 55] : List Nat)).contains x) = true))).trans rfl)))
  · obtain ⟨q4, hc_4, hf⟩ := jbind hf
    obtain rfl := Option.some.inj hf
    exact ((w_A_writes hc_4 _ (jout hp (by decide : (([2, 6] : List Nat)).all (fun x => (([2, 3, 5, 6, 12, 13, 55] : List Nat)).contains x) = true))).trans rfl)
theorem w_K_asks {M : jp_M} {res : Int32 × jp_M} (hf : f_K_asks M = some res) : ∀ p, p ∉ ([2, 3, 5, 6, 12, 13, 55] : List Nat) → res.2 p = M p := by
  intro p hp
  unfold f_K_asks at hf
  rcases jif_d hf with ⟨h, hf⟩ | ⟨h, hf⟩
  · obtain ⟨q2, hc_2, hf⟩ := jbind hf
    rcases jif_d hf with ⟨h, hf⟩ | ⟨h, hf⟩
    · rcases jif_d hf with ⟨h, hf⟩ | ⟨h, hf⟩
      · exact (w_K_asks_77 _ _ _ hf _ hp).trans ((w_W_drawsOfThousand rfl _ (jout hp (by decide : (([2] : List Nat)).all (fun x => (([2, 3, 5, 6, 12, 13, 55] : List Nat)).contains x) = true))).trans ((w_L_tells hc_2 _ (jout hp (by decide : (([12, 13] : List Nat)).all (fun x => (([2, 3, 5, 6, 12, 13, 55] : List Nat)).contains x) = true))).trans rfl))
      · exact (w_K_asks_77 _ _ _ hf _ hp).trans ((w_W_drawsOfThousand rfl _ (jout hp (by decide : (([2] : List Nat)).all (fun x => (([2, 3, 5, 6, 12, 13, 55] : List Nat)).contains x) = true))).trans ((w_L_tells hc_2 _ (jout hp (by decide : (([12, 13] : List Nat)).all (fun x => (([2, 3, 5, 6, 12, 13, 55] : List Nat)).contains x) = true))).trans rfl))
    · rcases jif_d hf with ⟨h, hf⟩ | ⟨h, hf⟩
      · exact (w_K_asks_77 _ _ _ hf _ hp).trans ((w_L_tells hc_2 _ (jout hp (by decide : (([12, 13] : List Nat)).all (fun x => (([2, 3, 5, 6, 12, 13, 55] : List Nat)).contains x) = true))).trans rfl)
      · exact (w_K_asks_77 _ _ _ hf _ hp).trans ((w_L_tells hc_2 _ (jout hp (by decide : (([12, 13] : List Nat)).all (fun x => (([2, 3, 5, 6, 12, 13, 55] : List Nat)).contains x) = true))).trans rfl)
  · obtain ⟨q4, hc_4, hf⟩ := jbind hf
    obtain rfl := Option.some.inj hf
    exact ((w_K_begins hc_4 _ (jout hp (by decide : (([2, 5, 6, 55] : List Nat)).all (fun x => (([2, 3, 5, 6, 12, 13, 55] : List Nat)).contains x) = true))).trans rfl)
theorem w_C_ask {a1 : Int32} {a2 : Int32} {a3 : Int32} {a4 : Int32} {a5 : Int32} {M : jp_M} {res : Int32 × jp_M} (hf : f_C_ask a1 a2 a3 a4 a5 M = some res) : ∀ p, p ∉ ([0, 2, 3, 5, 6, 12, 13, 55, 80, 81, 82, 83, 84, 85, 86, 87, 88, 89, 90, 91, 92, 93, 94, 95, 96, 97, 98, 99, 100, 101, 102, 103] : List Nat) → res.2 p = M p := by
  intro p hp
  unfold f_C_ask at hf
  rcases jif_d hf with ⟨h, hf⟩ | ⟨h, hf⟩
  · obtain rfl := Option.some.inj hf
    exact ((w_K_wants rfl _ (jout hp (by decide : (([55] : List Nat)).all (fun x => (([0, 2, 3, 5, 6, 12, 13, 55, 80, 81, 82, 83, 84, 85, 86, 87, 88, 89, 90, 91, 92, 93, 94, 95, 96, 97, 98, 99, 100, 101, 102, 103] : List Nat)).contains x) = true))).trans rfl)
  · obtain ⟨q2, hc_2, hf⟩ := jbind hf
    rcases jif_d hf with ⟨h, hf⟩ | ⟨h, hf⟩
    · obtain ⟨q3, hc_3, hf⟩ := jbind hf
      obtain ⟨q4, hc_4, hf⟩ := jbind hf
      obtain rfl := Option.some.inj hf
      exact ((w_K_asks hc_4 _ (jout hp (by decide : (([2, 3, 5, 6, 12, 13, 55] : List Nat)).all (fun x => (([0, 2, 3, 5, 6, 12, 13, 55, 80, 81, 82, 83, 84, 85, 86, 87, 88, 89, 90, 91, 92, 93, 94, 95, 96, 97, 98, 99, 100, 101, 102, 103] : List Nat)).contains x) = true))).trans ((w_C_keep hc_3 _ (jout hp (by decide : (([0, 80, 81, 82, 83, 84, 85, 86, 87, 88, 89, 90, 91, 92, 93, 94, 95, 96, 97, 98, 99, 100, 101, 102, 103] : List Nat)).all (fun x => (([0, 2, 3, 5, 6, 12, 13, 55, 80, 81, 82, 83, 84, 85, 86, 87, 88, 89, 90, 91, 92, 93, 94, 95, 96, 97, 98, 99, 100, 101, 102, 103] : List Nat)).contains x) = true))).trans ((w_K_wants rfl _ (jout hp (by decide : (([55] : List Nat)).all (fun x => (([0, 2, 3, 5, 6, 12, 13, 55, 80, 81, 82, 83, 84, 85, 86, 87, 88, 89, 90, 91, 92, 93, 94, 95, 96, 97, 98, 99, 100, 101, 102, 103] : List Nat)).contains x) = true))).trans rfl)))
    · obtain rfl := Option.some.inj hf
      exact ((w_K_wants rfl _ (jout hp (by decide : (([55] : List Nat)).all (fun x => (([0, 2, 3, 5, 6, 12, 13, 55, 80, 81, 82, 83, 84, 85, 86, 87, 88, 89, 90, 91, 92, 93, 94, 95, 96, 97, 98, 99, 100, 101, 102, 103] : List Nat)).contains x) = true))).trans rfl)
theorem w_K_takes {M : jp_M} {res : Int32 × jp_M} (hf : f_K_takes M = some res) : ∀ p, p ∉ ([2, 5, 6, 55] : List Nat) → res.2 p = M p := by
  intro p hp
  unfold f_K_takes at hf
  obtain ⟨q1, hc_1, hf⟩ := jbind hf
  obtain rfl := Option.some.inj hf
  exact ((w_K_begins hc_1 _ (jout hp (by decide : (([2, 5, 6, 55] : List Nat)).all (fun x => (([2, 5, 6, 55] : List Nat)).contains x) = true))).trans rfl)
theorem w_C_take {a1 : Int32} {a2 : Int32} {a3 : Int32} {a4 : Int32} {a5 : Int32} {M : jp_M} {res : Int32 × jp_M} (hf : f_C_take a1 a2 a3 a4 a5 M = some res) : ∀ p, p ∉ ([0, 2, 5, 6, 55, 80, 81, 82, 83, 84, 85, 86, 87, 88, 89, 90, 91, 92, 93, 94, 95, 96, 97, 98, 99, 100, 101, 102, 103] : List Nat) → res.2 p = M p := by
  intro p hp
  unfold f_C_take at hf
  rcases jif_d hf with ⟨h, hf⟩ | ⟨h, hf⟩
  · obtain rfl := Option.some.inj hf
    exact ((w_K_wants rfl _ (jout hp (by decide : (([55] : List Nat)).all (fun x => (([0, 2, 5, 6, 55, 80, 81, 82, 83, 84, 85, 86, 87, 88, 89, 90, 91, 92, 93, 94, 95, 96, 97, 98, 99, 100, 101, 102, 103] : List Nat)).contains x) = true))).trans rfl)
  · obtain ⟨q2, hc_2, hf⟩ := jbind hf
    rcases jif_d hf with ⟨h, hf⟩ | ⟨h, hf⟩
    · obtain ⟨q3, hc_3, hf⟩ := jbind hf
      obtain ⟨q4, hc_4, hf⟩ := jbind hf
      obtain rfl := Option.some.inj hf
      exact ((w_K_takes hc_4 _ (jout hp (by decide : (([2, 5, 6, 55] : List Nat)).all (fun x => (([0, 2, 5, 6, 55, 80, 81, 82, 83, 84, 85, 86, 87, 88, 89, 90, 91, 92, 93, 94, 95, 96, 97, 98, 99, 100, 101, 102, 103] : List Nat)).contains x) = true))).trans ((w_C_keep hc_3 _ (jout hp (by decide : (([0, 80, 81, 82, 83, 84, 85, 86, 87, 88, 89, 90, 91, 92, 93, 94, 95, 96, 97, 98, 99, 100, 101, 102, 103] : List Nat)).all (fun x => (([0, 2, 5, 6, 55, 80, 81, 82, 83, 84, 85, 86, 87, 88, 89, 90, 91, 92, 93, 94, 95, 96, 97, 98, 99, 100, 101, 102, 103] : List Nat)).contains x) = true))).trans ((w_K_wants rfl _ (jout hp (by decide : (([55] : List Nat)).all (fun x => (([0, 2, 5, 6, 55, 80, 81, 82, 83, 84, 85, 86, 87, 88, 89, 90, 91, 92, 93, 94, 95, 96, 97, 98, 99, 100, 101, 102, 103] : List Nat)).contains x) = true))).trans rfl)))
    · obtain rfl := Option.some.inj hf
      exact ((w_K_wants rfl _ (jout hp (by decide : (([55] : List Nat)).all (fun x => (([0, 2, 5, 6, 55, 80, 81, 82, 83, 84, 85, 86, 87, 88, 89, 90, 91, 92, 93, 94, 95, 96, 97, 98, 99, 100, 101, 102, 103] : List Nat)).contains x) = true))).trans rfl)
theorem w_W_removes {a1 : Int32} {M : jp_M} {res : jp_M} (hf : f_W_removes a1 M = some res) : ∀ p, p ∉ ([2, 5] : List Nat) → res p = M p := by
  intro p hp
  unfold f_W_removes at hf
  rcases jif_d hf with ⟨h, hf⟩ | ⟨h, hf⟩
  · obtain rfl := Option.some.inj hf
    exact rfl
  · rcases jif_d hf with ⟨h, hf⟩ | ⟨h, hf⟩
    · obtain ⟨hb2, hf⟩ := jg_some hf
      obtain rfl := Option.some.inj hf
      exact ((jp_set_ne (jne hp (by decide : 2 ∈ ([2, 5] : List Nat)))).trans ((jp_set_ne (jne hp (by decide : 5 ∈ ([2, 5] : List Nat)))).trans rfl))
    · obtain rfl := Option.some.inj hf
      exact rfl
theorem w_K_closes {a1 : Int32} {M : jp_M} {res : jp_M} (hf : f_K_closes a1 M = some res) : ∀ p, p ∉ ([2, 5, 6] : List Nat) → res p = M p := by
  intro p hp
  unfold f_K_closes at hf
  obtain ⟨hb1, hf⟩ := jg_some hf
  obtain ⟨q2, hc_2, hf⟩ := jbind hf
  obtain ⟨q3, hc_3, hf⟩ := jbind hf
  obtain rfl := Option.some.inj hf
  exact ((w_W_removes hc_3 _ (jout hp (by decide : (([2, 5] : List Nat)).all (fun x => (([2, 5, 6] : List Nat)).contains x) = true))).trans ((w_A_writes hc_2 _ (jout hp (by decide : (([2, 6] : List Nat)).all (fun x => (([2, 5, 6] : List Nat)).contains x) = true))).trans rfl))
theorem w_C_ends {a1 : Int32} {M : jp_M} {res : Int32 × jp_M} (hf : f_C_ends a1 M = some res) : ∀ p, p ∉ ([0, 2, 5, 6, 80, 81, 82, 83, 84, 85, 86, 87, 88, 89, 90, 91, 92, 93, 94, 95, 96, 97, 98, 99, 100, 101, 102, 103] : List Nat) → res.2 p = M p := by
  intro p hp
  unfold f_C_ends at hf
  obtain ⟨q1, hc_1, hf⟩ := jbind hf
  rcases jif_d hf with ⟨h, hf⟩ | ⟨h, hf⟩
  · obtain ⟨q2, hc_2, hf⟩ := jbind hf
    obtain ⟨q3, hc_3, hf⟩ := jbind hf
    obtain rfl := Option.some.inj hf
    exact ((w_K_closes hc_3 _ (jout hp (by decide : (([2, 5, 6] : List Nat)).all (fun x => (([0, 2, 5, 6, 80, 81, 82, 83, 84, 85, 86, 87, 88, 89, 90, 91, 92, 93, 94, 95, 96, 97, 98, 99, 100, 101, 102, 103] : List Nat)).contains x) = true))).trans ((w_C_keep hc_2 _ (jout hp (by decide : (([0, 80, 81, 82, 83, 84, 85, 86, 87, 88, 89, 90, 91, 92, 93, 94, 95, 96, 97, 98, 99, 100, 101, 102, 103] : List Nat)).all (fun x => (([0, 2, 5, 6, 80, 81, 82, 83, 84, 85, 86, 87, 88, 89, 90, 91, 92, 93, 94, 95, 96, 97, 98, 99, 100, 101, 102, 103] : List Nat)).contains x) = true))).trans rfl))
  · obtain rfl := Option.some.inj hf
    exact rfl
theorem w_C_nest {a1 : Int32} {a2 : Int32} {M : jp_M} {res : Int32 × jp_M} (hf : f_C_nest a1 a2 M = some res) : ∀ p, p ∉ ([0, 4, 80, 81, 82, 83, 84, 85, 86, 87, 88, 89, 90, 91, 92, 93, 94, 95, 96, 97, 98, 99, 100, 101, 102, 103] : List Nat) → res.2 p = M p := by
  intro p hp
  unfold f_C_nest at hf
  rcases jif_d hf with ⟨h, hf⟩ | ⟨h, hf⟩
  · obtain rfl := Option.some.inj hf
    exact rfl
  · rcases jif_d hf with ⟨h, hf⟩ | ⟨h, hf⟩
    · obtain rfl := Option.some.inj hf
      exact rfl
    · obtain ⟨hb3, hf⟩ := jg_some hf
      rcases jif_d hf with ⟨h, hf⟩ | ⟨h, hf⟩
      · obtain ⟨q4, hc_4, hf⟩ := jbind hf
        obtain ⟨hb6, hf⟩ := jg_some hf
        obtain rfl := Option.some.inj hf
        exact ((jp_set_ne (jne hp (by decide : 4 ∈ ([0, 4, 80, 81, 82, 83, 84, 85, 86, 87, 88, 89, 90, 91, 92, 93, 94, 95, 96, 97, 98, 99, 100, 101, 102, 103] : List Nat)))).trans ((w_C_keep hc_4 _ (jout hp (by decide : (([0, 80, 81, 82, 83, 84, 85, 86, 87, 88, 89, 90, 91, 92, 93, 94, 95, 96, 97, 98, 99, 100, 101, 102, 103] : List Nat)).all (fun x => (([0, 4, 80, 81, 82, 83, 84, 85, 86, 87, 88, 89, 90, 91, 92, 93, 94, 95, 96, 97, 98, 99, 100, 101, 102, 103] : List Nat)).contains x) = true))).trans rfl))
      · obtain rfl := Option.some.inj hf
        exact rfl
theorem w_K_hears_68 {c6 : Int32 → jp_M → Option (jp_M)} (hc6 : ∀ (l2 : Int32) (M : jp_M) (res : jp_M), c6 l2 M = some res → ∀ p, p ∉ ([2, 3, 5, 6, 12, 13, 55] : List Nat) → res p = M p) (l2 : Int32) (M : jp_M) {res : jp_M} (hf : f_K_hears_68 c6 l2 M = some res) : ∀ p, p ∉ ([2, 3, 5, 6, 12, 13, 55] : List Nat) → res p = M p := by
  intro p hp
  unfold f_K_hears_68 at hf
  exact (hc6 _ _ _ hf _ hp).trans rfl
theorem w_K_hears_10  : ∀ (n : Nat) (l2 : Int32) (M : jp_M) {res : jp_M}, f_K_hears_10 n  l2 M = some res → ∀ p, p ∉ ([2, 3, 5, 6, 12, 13, 55] : List Nat) → res p = M p := by
  intro n
  induction n with
  | zero =>
    intro l2 M res hf
    cases hf
  | succ n ih =>
    intro l2 M res hf p hp
    rw [f_K_hears_10] at hf
    rcases jif_d hf with ⟨h, hf⟩ | ⟨h, hf⟩
    · obtain rfl := Option.some.inj hf
      exact rfl
    · obtain ⟨hb1, hf⟩ := jg_some hf
      rcases jif_d hf with ⟨h, hf⟩ | ⟨h, hf⟩
      · exact (w_K_hears_68 (fun l2 M res hf => ih l2 M hf) _ _ hf _ hp).trans rfl
      · obtain ⟨hb3, hf⟩ := jg_some hf
        obtain ⟨q4, hc_4, hf⟩ := jbind hf
        rcases jif_d hf with ⟨h, hf⟩ | ⟨h, hf⟩
        · exact (w_K_hears_68 (fun l2 M res hf => ih l2 M hf) _ _ hf _ hp).trans ((jp_set_ne (jne hp (by decide : 55 ∈ ([2, 3, 5, 6, 12, 13, 55] : List Nat)))).trans rfl)
        · obtain ⟨q5, hc_5, hf⟩ := jbind hf
          exact (w_K_hears_68 (fun l2 M res hf => ih l2 M hf) _ _ hf _ hp).trans ((w_K_asks hc_5 _ (jout hp (by decide : (([2, 3, 5, 6, 12, 13, 55] : List Nat)).all (fun x => (([2, 3, 5, 6, 12, 13, 55] : List Nat)).contains x) = true))).trans ((jp_set_ne (jne hp (by decide : 55 ∈ ([2, 3, 5, 6, 12, 13, 55] : List Nat)))).trans rfl))
theorem w_K_hears {M : jp_M} {res : jp_M} (hf : f_K_hears M = some res) : ∀ p, p ∉ ([2, 3, 5, 6, 12, 13, 55] : List Nat) → res p = M p := by
  intro p hp
  unfold f_K_hears at hf
  exact (w_K_hears_10 jFu _ _ hf _ hp).trans rfl
theorem w_L_learns_1_118  (s1 : Int32) (s2 : Int32) (M : jp_M) {res : jp_M} (hf : f_L_learns_1_118  s1 s2 M = some res) : ∀ p, p ∉ ([12] : List Nat) → res p = M p := by
  intro p hp
  unfold f_L_learns_1_118 at hf
  obtain ⟨hb2, hf⟩ := jg_some hf
  obtain ⟨q3, hc_3, hf⟩ := jbind hf
  obtain rfl := Option.some.inj hf
  exact ((jp_set_ne (jne hp (by decide : 12 ∈ ([12] : List Nat)))).trans ((jp_set_ne (jne hp (by decide : 12 ∈ ([12] : List Nat)))).trans ((jp_set_ne (jne hp (by decide : 12 ∈ ([12] : List Nat)))).trans rfl)))
theorem w_L_learns_1 {a3 : Int32} {M : jp_M} {res : jp_M} (hf : f_L_learns_1 a3 M = some res) : ∀ p, p ∉ ([12] : List Nat) → res p = M p := by
  intro p hp
  unfold f_L_learns_1 at hf
  obtain ⟨hb1, hf⟩ := jg_some hf
  obtain ⟨hb2, hf⟩ := jg_some hf
  obtain ⟨hb4, hf⟩ := jg_some hf
  obtain ⟨hb6, hf⟩ := jg_some hf
  obtain ⟨hb8, hf⟩ := jg_some hf
  obtain ⟨hb10, hf⟩ := jg_some hf
  obtain ⟨hb12, hf⟩ := jg_some hf
  obtain ⟨hb14, hf⟩ := jg_some hf
  obtain ⟨q15, hc_15, hf⟩ := jbind hf
  rcases jif_d hf with ⟨h, hf⟩ | ⟨h, hf⟩
  · exact (w_L_learns_1_118 _ _ _ hf _ hp).trans ((jp_set_ne (jne hp (by decide : 12 ∈ ([12] : List Nat)))).trans ((jp_set_ne (jne hp (by decide : 12 ∈ ([12] : List Nat)))).trans ((jp_set_ne (jne hp (by decide : 12 ∈ ([12] : List Nat)))).trans ((jp_set_ne (jne hp (by decide : 12 ∈ ([12] : List Nat)))).trans ((jp_set_ne (jne hp (by decide : 12 ∈ ([12] : List Nat)))).trans ((jp_set_ne (jne hp (by decide : 12 ∈ ([12] : List Nat)))).trans ((jp_set_ne (jne hp (by decide : 12 ∈ ([12] : List Nat)))).trans rfl)))))))
  · exact (w_L_learns_1_118 _ _ _ hf _ hp).trans ((jp_set_ne (jne hp (by decide : 12 ∈ ([12] : List Nat)))).trans ((jp_set_ne (jne hp (by decide : 12 ∈ ([12] : List Nat)))).trans ((jp_set_ne (jne hp (by decide : 12 ∈ ([12] : List Nat)))).trans ((jp_set_ne (jne hp (by decide : 12 ∈ ([12] : List Nat)))).trans ((jp_set_ne (jne hp (by decide : 12 ∈ ([12] : List Nat)))).trans ((jp_set_ne (jne hp (by decide : 12 ∈ ([12] : List Nat)))).trans ((jp_set_ne (jne hp (by decide : 12 ∈ ([12] : List Nat)))).trans rfl)))))))
theorem w_L_tells_1_142  (l5 : Int32) (s0 : Int32) (s1 : Int32) (M : jp_M) {res : Int32 × jp_M} (hf : f_L_tells_1_142  l5 s0 s1 M = some res) : ∀ p, p ∉ ([12, 13] : List Nat) → res.2 p = M p := by
  intro p hp
  unfold f_L_tells_1_142 at hf
  obtain rfl := Option.some.inj hf
  exact rfl
theorem w_L_tells_1_128  (l1 : Int32) (l5 : Int32) (M : jp_M) {res : Int32 × jp_M} (hf : f_L_tells_1_128  l1 l5 M = some res) : ∀ p, p ∉ ([12, 13] : List Nat) → res.2 p = M p := by
  intro p hp
  unfold f_L_tells_1_128 at hf
  rcases jif_d hf with ⟨h, hf⟩ | ⟨h, hf⟩
  · exact (w_L_tells_1_142 _ _ _ _ hf _ hp).trans rfl
  · exact (w_L_tells_1_142 _ _ _ _ hf _ hp).trans rfl
theorem w_L_tells_1_107  (l1 : Int32) (l6 : Int32) (s1 : Int32) (M : jp_M) {res : Int32 × jp_M} (hf : f_L_tells_1_107  l1 l6 s1 M = some res) : ∀ p, p ∉ ([12, 13] : List Nat) → res.2 p = M p := by
  intro p hp
  unfold f_L_tells_1_107 at hf
  obtain ⟨hb1, hf⟩ := jg_some hf
  obtain ⟨q2, hc_2, hf⟩ := jbind hf
  exact (w_L_tells_1_128 _ _ _ hf _ hp).trans ((w_L_value hc_2 _ (jout hp (by decide : (([13] : List Nat)).all (fun x => (([12, 13] : List Nat)).contains x) = true))).trans rfl)
theorem w_L_tells_1_88  (l1 : Int32) (l6 : Int32) (M : jp_M) {res : Int32 × jp_M} (hf : f_L_tells_1_88  l1 l6 M = some res) : ∀ p, p ∉ ([12, 13] : List Nat) → res.2 p = M p := by
  intro p hp
  unfold f_L_tells_1_88 at hf
  rcases jif_d hf with ⟨h, hf⟩ | ⟨h, hf⟩
  · obtain ⟨hb1, hf⟩ := jg_some hf
    exact (w_L_tells_1_107 _ _ _ _ hf _ hp).trans rfl
  · exact (w_L_tells_1_107 _ _ _ _ hf _ hp).trans rfl
theorem w_L_tells_1_122 {c11 : Int32 → Int32 → Int32 → jp_M → Option (Int32 × jp_M)} (hc11 : ∀ (l1 : Int32) (l5 : Int32) (l6 : Int32) (M : jp_M) (res : Int32 × jp_M), c11 l1 l5 l6 M = some res → ∀ p, p ∉ ([12, 13] : List Nat) → res.2 p = M p) (l1 : Int32) (l5 : Int32) (l6 : Int32) (M : jp_M) {res : Int32 × jp_M} (hf : f_L_tells_1_122 c11 l1 l5 l6 M = some res) : ∀ p, p ∉ ([12, 13] : List Nat) → res.2 p = M p := by
  intro p hp
  unfold f_L_tells_1_122 at hf
  exact (hc11 _ _ _ _ _ hf _ hp).trans rfl
theorem w_L_tells_1_49 {c11 : Int32 → Int32 → Int32 → jp_M → Option (Int32 × jp_M)} (hc11 : ∀ (l1 : Int32) (l5 : Int32) (l6 : Int32) (M : jp_M) (res : Int32 × jp_M), c11 l1 l5 l6 M = some res → ∀ p, p ∉ ([12, 13] : List Nat) → res.2 p = M p) (l1 : Int32) (l5 : Int32) (l6 : Int32) (s0 : Int32) (M : jp_M) {res : Int32 × jp_M} (hf : f_L_tells_1_49 c11 l1 l5 l6 s0 M = some res) : ∀ p, p ∉ ([12, 13] : List Nat) → res.2 p = M p := by
  intro p hp
  unfold f_L_tells_1_49 at hf
  obtain ⟨hb1, hf⟩ := jg_some hf
  rcases jif_d hf with ⟨h, hf⟩ | ⟨h, hf⟩
  · exact (w_L_tells_1_122 hc11 _ _ _ _ hf _ hp).trans rfl
  · rcases jif_d hf with ⟨h, hf⟩ | ⟨h, hf⟩
    · exact (w_L_tells_1_88 _ _ _ hf _ hp).trans rfl
    · obtain ⟨hb2, hf⟩ := jg_some hf
      obtain ⟨hb3, hf⟩ := jg_some hf
      obtain ⟨q4, hc_4, hf⟩ := jbind hf
      rcases jif_d hf with ⟨h, hf⟩ | ⟨h, hf⟩
      · exact (w_L_tells_1_122 hc11 _ _ _ _ hf _ hp).trans ((w_L_value hc_4 _ (jout hp (by decide : (([13] : List Nat)).all (fun x => (([12, 13] : List Nat)).contains x) = true))).trans rfl)
      · exact (w_L_tells_1_88 _ _ _ hf _ hp).trans ((w_L_value hc_4 _ (jout hp (by decide : (([13] : List Nat)).all (fun x => (([12, 13] : List Nat)).contains x) = true))).trans rfl)
theorem w_L_tells_1_18  : ∀ (n : Nat) (l1 : Int32) (l5 : Int32) (l6 : Int32) (M : jp_M) {res : Int32 × jp_M}, f_L_tells_1_18 n  l1 l5 l6 M = some res → ∀ p, p ∉ ([12, 13] : List Nat) → res.2 p = M p := by
  intro n
  induction n with
  | zero =>
    intro l1 l5 l6 M res hf
    cases hf
  | succ n ih =>
    intro l1 l5 l6 M res hf p hp
    rw [f_L_tells_1_18] at hf
    rcases jif_d hf with ⟨h, hf⟩ | ⟨h, hf⟩
    · exact (w_L_tells_1_128 _ _ _ hf _ hp).trans rfl
    · obtain ⟨hb1, hf⟩ := jg_some hf
      obtain ⟨hb2, hf⟩ := jg_some hf
      rcases jif_d hf with ⟨h, hf⟩ | ⟨h, hf⟩
      · exact (w_L_tells_1_49 (fun l1 l5 l6 M res hf => ih l1 l5 l6 M hf) _ _ _ _ _ hf _ hp).trans rfl
      · exact (w_L_tells_1_49 (fun l1 l5 l6 M res hf => ih l1 l5 l6 M hf) _ _ _ _ _ hf _ hp).trans rfl
theorem w_L_tells_1 {a1 : Int32} {a4 : Int32} {M : jp_M} {res : Int32 × jp_M} (hf : f_L_tells_1 a1 a4 M = some res) : ∀ p, p ∉ ([12, 13] : List Nat) → res.2 p = M p := by
  intro p hp
  unfold f_L_tells_1 at hf
  obtain ⟨q1, hc_1, hf⟩ := jbind hf
  exact (w_L_tells_1_18 jFu _ _ _ _ hf _ hp).trans ((w_L_learns_1 hc_1 _ (jout hp (by decide : (([12] : List Nat)).all (fun x => (([12, 13] : List Nat)).contains x) = true))).trans rfl)
theorem w_K_finesUse {a1 : Int32} {a2 : Int32} {M : jp_M} {res : jp_M} (hf : f_K_finesUse a1 a2 M = some res) : ∀ p, p ∉ ([2, 3, 4, 5, 6, 12, 13] : List Nat) → res p = M p := by
  intro p hp
  unfold f_K_finesUse at hf
  obtain ⟨hb1, hf⟩ := jg_some hf
  obtain ⟨q2, hc_2, hf⟩ := jbind hf
  obtain ⟨q3, hc_3, hf⟩ := jbind hf
  obtain ⟨hb4, hf⟩ := jg_some hf
  obtain ⟨hb5, hf⟩ := jg_some hf
  obtain ⟨hb7, hf⟩ := jg_some hf
  obtain ⟨hb9, hf⟩ := jg_some hf
  obtain ⟨hb10, hf⟩ := jg_some hf
  obtain ⟨hb12, hf⟩ := jg_some hf
  obtain ⟨hb13, hf⟩ := jg_some hf
  obtain ⟨q14, hc_14, hf⟩ := jbind hf
  obtain ⟨q15, hc_15, hf⟩ := jbind hf
  obtain rfl := Option.some.inj hf
  exact ((w_W_removes hc_15 _ (jout hp (by decide : (([2, 5] : List Nat)).all (fun x => (([2, 3, 4, 5, 6, 12, 13] : List Nat)).contains x) = true))).trans ((w_A_writes hc_14 _ (jout hp (by decide : (([2, 6] : List Nat)).all (fun x => (([2, 3, 4, 5, 6, 12, 13] : List Nat)).contains x) = true))).trans ((jp_set_ne (jne hp (by decide : 4 ∈ ([2, 3, 4, 5, 6, 12, 13] : List Nat)))).trans ((jp_set_ne (jne hp (by decide : 3 ∈ ([2, 3, 4, 5, 6, 12, 13] : List Nat)))).trans ((jp_set_ne (jne hp (by decide : 3 ∈ ([2, 3, 4, 5, 6, 12, 13] : List Nat)))).trans ((w_W_pays hc_3 _ (jout hp (by decide : (([2, 3] : List Nat)).all (fun x => (([2, 3, 4, 5, 6, 12, 13] : List Nat)).contains x) = true))).trans ((w_L_tells_1 hc_2 _ (jout hp (by decide : (([12, 13] : List Nat)).all (fun x => (([2, 3, 4, 5, 6, 12, 13] : List Nat)).contains x) = true))).trans rfl)))))))
theorem w_K_fines_84 {c8 : Int32 → Int32 → Int32 → jp_M → Option (Int32 × jp_M)} (hc8 : ∀ (l1 : Int32) (l2 : Int32) (l3 : Int32) (M : jp_M) (res : Int32 × jp_M), c8 l1 l2 l3 M = some res → ∀ p, p ∉ ([2, 3, 4, 5, 6, 12, 13] : List Nat) → res.2 p = M p) (l1 : Int32) (l2 : Int32) (l3 : Int32) (M : jp_M) {res : Int32 × jp_M} (hf : f_K_fines_84 c8 l1 l2 l3 M = some res) : ∀ p, p ∉ ([2, 3, 4, 5, 6, 12, 13] : List Nat) → res.2 p = M p := by
  intro p hp
  unfold f_K_fines_84 at hf
  exact (hc8 _ _ _ _ _ hf _ hp).trans rfl
theorem w_K_fines_63 {c8 : Int32 → Int32 → Int32 → jp_M → Option (Int32 × jp_M)} (hc8 : ∀ (l1 : Int32) (l2 : Int32) (l3 : Int32) (M : jp_M) (res : Int32 × jp_M), c8 l1 l2 l3 M = some res → ∀ p, p ∉ ([2, 3, 4, 5, 6, 12, 13] : List Nat) → res.2 p = M p) (l1 : Int32) (l2 : Int32) (l3 : Int32) (s0 : Int32) (M : jp_M) {res : Int32 × jp_M} (hf : f_K_fines_63 c8 l1 l2 l3 s0 M = some res) : ∀ p, p ∉ ([2, 3, 4, 5, 6, 12, 13] : List Nat) → res.2 p = M p := by
  intro p hp
  unfold f_K_fines_63 at hf
  rcases jif_d hf with ⟨h, hf⟩ | ⟨h, hf⟩
  · obtain ⟨q1, hc_1, hf⟩ := jbind hf
    exact (w_K_fines_84 hc8 _ _ _ _ hf _ hp).trans ((w_K_finesUse hc_1 _ (jout hp (by decide : (([2, 3, 4, 5, 6, 12, 13] : List Nat)).all (fun x => (([2, 3, 4, 5, 6, 12, 13] : List Nat)).contains x) = true))).trans rfl)
  · exact (w_K_fines_84 hc8 _ _ _ _ hf _ hp).trans rfl
theorem w_K_fines_12  : ∀ (n : Nat) (l1 : Int32) (l2 : Int32) (l3 : Int32) (M : jp_M) {res : Int32 × jp_M}, f_K_fines_12 n  l1 l2 l3 M = some res → ∀ p, p ∉ ([2, 3, 4, 5, 6, 12, 13] : List Nat) → res.2 p = M p := by
  intro n
  induction n with
  | zero =>
    intro l1 l2 l3 M res hf
    cases hf
  | succ n ih =>
    intro l1 l2 l3 M res hf p hp
    rw [f_K_fines_12] at hf
    rcases jif_d hf with ⟨h, hf⟩ | ⟨h, hf⟩
    · obtain rfl := Option.some.inj hf
      exact rfl
    · obtain ⟨hb1, hf⟩ := jg_some hf
      rcases jif_d hf with ⟨h, hf⟩ | ⟨h, hf⟩
      · obtain ⟨hb2, hf⟩ := jg_some hf
        obtain ⟨q3, hc_3, hf⟩ := jbind hf
        exact (w_K_fines_63 (fun l1 l2 l3 M res hf => ih l1 l2 l3 M hf) _ _ _ _ _ hf _ hp).trans rfl
      · exact (w_K_fines_63 (fun l1 l2 l3 M res hf => ih l1 l2 l3 M hf) _ _ _ _ _ hf _ hp).trans rfl
theorem w_K_fines {M : jp_M} {res : Int32 × jp_M} (hf : f_K_fines M = some res) : ∀ p, p ∉ ([2, 3, 4, 5, 6, 12, 13] : List Nat) → res.2 p = M p := by
  intro p hp
  unfold f_K_fines at hf
  exact (w_K_fines_12 jFu _ _ _ _ hf _ hp).trans rfl
theorem w_K_wears_65 {c8 : Int32 → Int32 → Int32 → jp_M → Option (jp_M)} (hc8 : ∀ (l1 : Int32) (l2 : Int32) (l3 : Int32) (M : jp_M) (res : jp_M), c8 l1 l2 l3 M = some res → ∀ p, p ∉ ([2, 5, 6] : List Nat) → res p = M p) (l1 : Int32) (l2 : Int32) (l3 : Int32) (M : jp_M) {res : jp_M} (hf : f_K_wears_65 c8 l1 l2 l3 M = some res) : ∀ p, p ∉ ([2, 5, 6] : List Nat) → res p = M p := by
  intro p hp
  unfold f_K_wears_65 at hf
  exact (hc8 _ _ _ _ _ hf _ hp).trans rfl
theorem w_K_wears_12  : ∀ (n : Nat) (l1 : Int32) (l2 : Int32) (l3 : Int32) (M : jp_M) {res : jp_M}, f_K_wears_12 n  l1 l2 l3 M = some res → ∀ p, p ∉ ([2, 5, 6] : List Nat) → res p = M p := by
  intro n
  induction n with
  | zero =>
    intro l1 l2 l3 M res hf
    cases hf
  | succ n ih =>
    intro l1 l2 l3 M res hf p hp
    rw [f_K_wears_12] at hf
    rcases jif_d hf with ⟨h, hf⟩ | ⟨h, hf⟩
    · obtain rfl := Option.some.inj hf
      exact rfl
    · obtain ⟨hb1, hf⟩ := jg_some hf
      obtain ⟨hb3, hf⟩ := jg_some hf
      obtain ⟨hb4, hf⟩ := jg_some hf
      rcases jif_d hf with ⟨h, hf⟩ | ⟨h, hf⟩
      · exact (w_K_wears_65 (fun l1 l2 l3 M res hf => ih l1 l2 l3 M hf) _ _ _ _ hf _ hp).trans ((jp_set_ne (jne hp (by decide : 5 ∈ ([2, 5, 6] : List Nat)))).trans rfl)
      · obtain ⟨q5, hc_5, hf⟩ := jbind hf
        exact (w_K_wears_65 (fun l1 l2 l3 M res hf => ih l1 l2 l3 M hf) _ _ _ _ hf _ hp).trans ((w_K_closes hc_5 _ (jout hp (by decide : (([2, 5, 6] : List Nat)).all (fun x => (([2, 5, 6] : List Nat)).contains x) = true))).trans ((jp_set_ne (jne hp (by decide : 5 ∈ ([2, 5, 6] : List Nat)))).trans rfl))
theorem w_K_wears {M : jp_M} {res : jp_M} (hf : f_K_wears M = some res) : ∀ p, p ∉ ([2, 5, 6] : List Nat) → res p = M p := by
  intro p hp
  unfold f_K_wears at hf
  exact (w_K_wears_12 jFu _ _ _ _ hf _ hp).trans rfl
theorem w_W_clearsMarksAndStoops_29  : ∀ (n : Nat) (l1 : Int32) (M : jp_M) {res : jp_M}, f_W_clearsMarksAndStoops_29 n  l1 M = some res → ∀ p, p ∉ ([3, 4] : List Nat) → res p = M p := by
  intro n
  induction n with
  | zero =>
    intro l1 M res hf
    cases hf
  | succ n ih =>
    intro l1 M res hf p hp
    rw [f_W_clearsMarksAndStoops_29] at hf
    rcases jif_d hf with ⟨h, hf⟩ | ⟨h, hf⟩
    · obtain rfl := Option.some.inj hf
      exact rfl
    · obtain ⟨hb2, hf⟩ := jg_some hf
      exact (ih _ _ hf _ hp).trans ((jp_set_ne (jne hp (by decide : 4 ∈ ([3, 4] : List Nat)))).trans rfl)
theorem w_W_clearsMarksAndStoops_2  : ∀ (n : Nat) (l1 : Int32) (M : jp_M) {res : jp_M}, f_W_clearsMarksAndStoops_2 n  l1 M = some res → ∀ p, p ∉ ([3, 4] : List Nat) → res p = M p := by
  intro n
  induction n with
  | zero =>
    intro l1 M res hf
    cases hf
  | succ n ih =>
    intro l1 M res hf p hp
    rw [f_W_clearsMarksAndStoops_2] at hf
    rcases jif_d hf with ⟨h, hf⟩ | ⟨h, hf⟩
    · exact (w_W_clearsMarksAndStoops_29 jFu _ _ hf _ hp).trans rfl
    · obtain ⟨hb2, hf⟩ := jg_some hf
      exact (ih _ _ hf _ hp).trans ((jp_set_ne (jne hp (by decide : 3 ∈ ([3, 4] : List Nat)))).trans rfl)
theorem w_W_clearsMarksAndStoops {M : jp_M} {res : jp_M} (hf : f_W_clearsMarksAndStoops M = some res) : ∀ p, p ∉ ([3, 4] : List Nat) → res p = M p := by
  intro p hp
  unfold f_W_clearsMarksAndStoops at hf
  exact (w_W_clearsMarksAndStoops_2 jFu _ _ hf _ hp).trans rfl
theorem w_K_passesDay_51  (l1 : Int32) (M : jp_M) {res : Int32 × jp_M} (hf : f_K_passesDay_51  l1 M = some res) : ∀ p, p ∉ ([2, 3, 4, 5, 6, 12, 13, 55] : List Nat) → res.2 p = M p := by
  intro p hp
  unfold f_K_passesDay_51 at hf
  obtain rfl := Option.some.inj hf
  exact ((jp_set_ne (jne hp (by decide : 2 ∈ ([2, 3, 4, 5, 6, 12, 13, 55] : List Nat)))).trans rfl)
theorem w_K_passesDay_22  (s0 : Int32) (M : jp_M) {res : Int32 × jp_M} (hf : f_K_passesDay_22  s0 M = some res) : ∀ p, p ∉ ([2, 3, 4, 5, 6, 12, 13, 55] : List Nat) → res.2 p = M p := by
  intro p hp
  unfold f_K_passesDay_22 at hf
  obtain ⟨q1, hc_1, hf⟩ := jbind hf
  rcases jif_d hf with ⟨h, hf⟩ | ⟨h, hf⟩
  · exact (w_K_passesDay_51 _ _ hf _ hp).trans ((w_K_wears hc_1 _ (jout hp (by decide : (([2, 5, 6] : List Nat)).all (fun x => (([2, 3, 4, 5, 6, 12, 13, 55] : List Nat)).contains x) = true))).trans rfl)
  · obtain ⟨q2, hc_2, hf⟩ := jbind hf
    exact (w_K_passesDay_51 _ _ hf _ hp).trans ((w_W_clearsMarksAndStoops hc_2 _ (jout hp (by decide : (([3, 4] : List Nat)).all (fun x => (([2, 3, 4, 5, 6, 12, 13, 55] : List Nat)).contains x) = true))).trans ((w_K_wears hc_1 _ (jout hp (by decide : (([2, 5, 6] : List Nat)).all (fun x => (([2, 3, 4, 5, 6, 12, 13, 55] : List Nat)).contains x) = true))).trans rfl))
theorem w_K_passesDay {M : jp_M} {res : Int32 × jp_M} (hf : f_K_passesDay M = some res) : ∀ p, p ∉ ([2, 3, 4, 5, 6, 12, 13, 55] : List Nat) → res.2 p = M p := by
  intro p hp
  unfold f_K_passesDay at hf
  obtain ⟨q1, hc_1, hf⟩ := jbind hf
  rcases jif_d hf with ⟨h, hf⟩ | ⟨h, hf⟩
  · exact (w_K_passesDay_22 _ _ hf _ hp).trans ((w_K_hears hc_1 _ (jout hp (by decide : (([2, 3, 5, 6, 12, 13, 55] : List Nat)).all (fun x => (([2, 3, 4, 5, 6, 12, 13, 55] : List Nat)).contains x) = true))).trans rfl)
  · obtain ⟨q3, hc_3, hf⟩ := jbind hf
    exact (w_K_passesDay_22 _ _ hf _ hp).trans ((w_K_fines hc_3 _ (jout hp (by decide : (([2, 3, 4, 5, 6, 12, 13] : List Nat)).all (fun x => (([2, 3, 4, 5, 6, 12, 13, 55] : List Nat)).contains x) = true))).trans ((w_K_hears hc_1 _ (jout hp (by decide : (([2, 3, 5, 6, 12, 13, 55] : List Nat)).all (fun x => (([2, 3, 4, 5, 6, 12, 13, 55] : List Nat)).contains x) = true))).trans rfl))
theorem w_C_days_31  : ∀ (n : Nat) (l1 : Int32) (l2 : Int32) (l3 : Int32) (M : jp_M) {res : Int32 × jp_M}, f_C_days_31 n  l1 l2 l3 M = some res → ∀ p, p ∉ ([0, 2, 3, 4, 5, 6, 12, 13, 55, 80, 81, 82, 83, 84, 85, 86, 87, 88, 89, 90, 91, 92, 93, 94, 95, 96, 97, 98, 99, 100, 101, 102, 103] : List Nat) → res.2 p = M p := by
  intro n
  induction n with
  | zero =>
    intro l1 l2 l3 M res hf
    cases hf
  | succ n ih =>
    intro l1 l2 l3 M res hf p hp
    rw [f_C_days_31] at hf
    rcases jif_d hf with ⟨h, hf⟩ | ⟨h, hf⟩
    · obtain rfl := Option.some.inj hf
      exact rfl
    · obtain ⟨q1, hc_1, hf⟩ := jbind hf
      obtain ⟨q2, hc_2, hf⟩ := jbind hf
      exact (ih _ _ _ _ hf _ hp).trans ((w_K_passesDay hc_2 _ (jout hp (by decide : (([2, 3, 4, 5, 6, 12, 13, 55] : List Nat)).all (fun x => (([0, 2, 3, 4, 5, 6, 12, 13, 55, 80, 81, 82, 83, 84, 85, 86, 87, 88, 89, 90, 91, 92, 93, 94, 95, 96, 97, 98, 99, 100, 101, 102, 103] : List Nat)).contains x) = true))).trans ((w_C_keep hc_1 _ (jout hp (by decide : (([0, 80, 81, 82, 83, 84, 85, 86, 87, 88, 89, 90, 91, 92, 93, 94, 95, 96, 97, 98, 99, 100, 101, 102, 103] : List Nat)).all (fun x => (([0, 2, 3, 4, 5, 6, 12, 13, 55, 80, 81, 82, 83, 84, 85, 86, 87, 88, 89, 90, 91, 92, 93, 94, 95, 96, 97, 98, 99, 100, 101, 102, 103] : List Nat)).contains x) = true))).trans rfl))
theorem w_C_days {a1 : Int32} {M : jp_M} {res : Int32 × jp_M} (hf : f_C_days a1 M = some res) : ∀ p, p ∉ ([0, 2, 3, 4, 5, 6, 12, 13, 55, 80, 81, 82, 83, 84, 85, 86, 87, 88, 89, 90, 91, 92, 93, 94, 95, 96, 97, 98, 99, 100, 101, 102, 103] : List Nat) → res.2 p = M p := by
  intro p hp
  unfold f_C_days at hf
  rcases jif_d hf with ⟨h, hf⟩ | ⟨h, hf⟩
  · obtain rfl := Option.some.inj hf
    exact rfl
  · rcases jif_d hf with ⟨h, hf⟩ | ⟨h, hf⟩
    · exact (w_C_days_31 jFu _ _ _ _ hf _ hp).trans rfl
    · obtain rfl := Option.some.inj hf
      exact rfl
theorem w_C_putBytes_3  : ∀ (n : Nat) (l1 : Int32) (l2 : Int32) (M : jp_M) {res : jp_M}, f_C_putBytes_3 n  l1 l2 M = some res → ∀ p, p ∉ ([0, 67] : List Nat) → res p = M p := by
  intro n
  induction n with
  | zero =>
    intro l1 l2 M res hf
    cases hf
  | succ n ih =>
    intro l1 l2 M res hf p hp
    rw [f_C_putBytes_3] at hf
    rcases jif_d hf with ⟨h, hf⟩ | ⟨h, hf⟩
    · obtain rfl := Option.some.inj hf
      exact rfl
    · rcases jif_d hf with ⟨h, hf⟩ | ⟨h, hf⟩
      · obtain rfl := Option.some.inj hf
        exact rfl
      · obtain ⟨hb2, hf⟩ := jg_some hf
        exact (ih _ _ _ hf _ hp).trans ((jp_set_ne (jne hp (by decide : 0 ∈ ([0, 67] : List Nat)))).trans ((jp_set_ne (jne hp (by decide : 67 ∈ ([0, 67] : List Nat)))).trans rfl))
theorem w_C_putBytes {a1 : Int32} {M : jp_M} {res : jp_M} (hf : f_C_putBytes a1 M = some res) : ∀ p, p ∉ ([0, 67] : List Nat) → res p = M p := by
  intro p hp
  unfold f_C_putBytes at hf
  exact (w_C_putBytes_3 jFu _ _ _ hf _ hp).trans rfl
theorem w_C_feed {a1 : Int32} {a2 : Int32} {a3 : Int32} {a4 : Int32} {a5 : Int32} {M : jp_M} {res : Int32 × jp_M} (hf : f_C_feed a1 a2 a3 a4 a5 M = some res) : ∀ p, p ∉ ([0, 67] : List Nat) → res.2 p = M p := by
  intro p hp
  unfold f_C_feed at hf
  rcases jif_d hf with ⟨h, hf⟩ | ⟨h, hf⟩
  · obtain ⟨q1, hc_1, hf⟩ := jbind hf
    obtain ⟨q2, hc_2, hf⟩ := jbind hf
    obtain ⟨q3, hc_3, hf⟩ := jbind hf
    obtain ⟨q4, hc_4, hf⟩ := jbind hf
    obtain ⟨q5, hc_5, hf⟩ := jbind hf
    obtain rfl := Option.some.inj hf
    exact ((w_C_putBytes hc_5 _ (jout hp (by decide : (([0, 67] : List Nat)).all (fun x => (([0, 67] : List Nat)).contains x) = true))).trans ((w_C_putBytes hc_4 _ (jout hp (by decide : (([0, 67] : List Nat)).all (fun x => (([0, 67] : List Nat)).contains x) = true))).trans ((w_C_putBytes hc_3 _ (jout hp (by decide : (([0, 67] : List Nat)).all (fun x => (([0, 67] : List Nat)).contains x) = true))).trans ((w_C_putBytes hc_2 _ (jout hp (by decide : (([0, 67] : List Nat)).all (fun x => (([0, 67] : List Nat)).contains x) = true))).trans ((w_C_putBytes hc_1 _ (jout hp (by decide : (([0, 67] : List Nat)).all (fun x => (([0, 67] : List Nat)).contains x) = true))).trans rfl)))))
  · obtain rfl := Option.some.inj hf
    exact rfl
theorem w_C_end {a1 : Int32} {M : jp_M} {res : Int32 × jp_M} (hf : f_C_end a1 M = res) : ∀ p, p ∉ ([0] : List Nat) → res.2 p = M p := by
  intro p hp
  unfold f_C_end at hf
  rcases jif_d hf with ⟨h, hf⟩ | ⟨h, hf⟩
  · subst hf
    exact ((jp_set_ne (jne hp (by decide : 0 ∈ ([0] : List Nat)))).trans rfl)
  · subst hf
    exact rfl
theorem w_R_readsDigits_72 {c3 : jp_M → Option (jp_M)} (hc3 : ∀ (M : jp_M) (res : jp_M), c3 M = some res → ∀ p, p ∉ ([68] : List Nat) → res p = M p) (s1 : Int32) (M : jp_M) {res : jp_M} (hf : f_R_readsDigits_72 c3 s1 M = some res) : ∀ p, p ∉ ([68] : List Nat) → res p = M p := by
  intro p hp
  unfold f_R_readsDigits_72 at hf
  exact (hc3 _ _ hf _ hp).trans ((jp_set_ne (jne hp (by decide : 68 ∈ ([68] : List Nat)))).trans ((jp_set_ne (jne hp (by decide : 68 ∈ ([68] : List Nat)))).trans rfl))
theorem w_R_readsDigits_88  (M : jp_M) {res : jp_M} (hf : f_R_readsDigits_88  M = some res) : ∀ p, p ∉ ([68] : List Nat) → res p = M p := by
  intro p hp
  unfold f_R_readsDigits_88 at hf
  rcases jif_d hf with ⟨h, hf⟩ | ⟨h, hf⟩
  · obtain rfl := Option.some.inj hf
    exact ((jp_set_ne (jne hp (by decide : 68 ∈ ([68] : List Nat)))).trans rfl)
  · obtain rfl := Option.some.inj hf
    exact ((jp_set_ne (jne hp (by decide : 68 ∈ ([68] : List Nat)))).trans rfl)
theorem w_R_readsDigits_5  : ∀ (n : Nat) (M : jp_M) {res : jp_M}, f_R_readsDigits_5 n  M = some res → ∀ p, p ∉ ([68] : List Nat) → res p = M p := by
  intro n
  induction n with
  | zero =>
    intro M res hf
    cases hf
  | succ n ih =>
    intro M res hf p hp
    rw [f_R_readsDigits_5] at hf
    rcases jif_d hf with ⟨h, hf⟩ | ⟨h, hf⟩
    · exact (w_R_readsDigits_88 _ hf _ hp).trans rfl
    · obtain ⟨hb1, hf⟩ := jg_some hf
      rcases jif_d hf with ⟨h, hf⟩ | ⟨h, hf⟩
      · exact (w_R_readsDigits_88 _ hf _ hp).trans rfl
      · rcases jif_d hf with ⟨h, hf⟩ | ⟨h, hf⟩
        · exact (w_R_readsDigits_72 (fun M res hf => ih M hf) _ _ hf _ hp).trans rfl
        · obtain ⟨hb3, hf⟩ := jg_some hf
          exact (w_R_readsDigits_72 (fun M res hf => ih M hf) _ _ hf _ hp).trans rfl
theorem w_R_readsDigits {M : jp_M} {res : jp_M} (hf : f_R_readsDigits M = some res) : ∀ p, p ∉ ([68] : List Nat) → res p = M p := by
  intro p hp
  unfold f_R_readsDigits at hf
  exact (w_R_readsDigits_5 jFu _ hf _ hp).trans ((jp_set_ne (jne hp (by decide : 68 ∈ ([68] : List Nat)))).trans rfl)
theorem w_R_advances_47 {c4 : Nat → jp_M → Option (jp_M)} (hc4 : ∀ (w : Nat) (M : jp_M) (res : jp_M), c4 w M = some res → ∀ p, p ∉ ([68] : List Nat) → res p = M p) (w : Nat) (M : jp_M) {res : jp_M} (hf : f_R_advances_47 c4 w M = some res) : ∀ p, p ∉ ([68] : List Nat) → res p = M p := by
  intro p hp
  unfold f_R_advances_47 at hf
  exact (hc4 _ _ _ hf _ hp).trans ((jp_set_ne (jne hp (by decide : 68 ∈ ([68] : List Nat)))).trans rfl)
theorem w_R_advances_163  (s1 : Int32) (w : Nat) (M : jp_M) {res : jp_M} (hf : f_R_advances_163  s1 w M = some res) : ∀ p, p ∉ ([68] : List Nat) → res p = M p := by
  intro p hp
  unfold f_R_advances_163 at hf
  obtain rfl := Option.some.inj hf
  exact ((jp_set_ne (jne hp (by decide : 68 ∈ ([68] : List Nat)))).trans rfl)
theorem w_R_advances_141  (w : Nat) (M : jp_M) {res : jp_M} (hf : f_R_advances_141  w M = some res) : ∀ p, p ∉ ([68] : List Nat) → res p = M p := by
  intro p hp
  unfold f_R_advances_141 at hf
  obtain ⟨q1, hc_1, hf⟩ := jbind hf
  rcases jif_d hf with ⟨h, hf⟩ | ⟨h, hf⟩
  · exact (w_R_advances_163 _ _ _ hf _ hp).trans ((jp_set_ne (jne hp (by decide : 68 ∈ ([68] : List Nat)))).trans rfl)
  · exact (w_R_advances_163 _ _ _ hf _ hp).trans ((jp_set_ne (jne hp (by decide : 68 ∈ ([68] : List Nat)))).trans rfl)
theorem w_R_advances_102  : ∀ (n : Nat) (w : Nat) (M : jp_M) {res : jp_M}, f_R_advances_102 n  w M = some res → ∀ p, p ∉ ([68] : List Nat) → res p = M p := by
  intro n
  induction n with
  | zero =>
    intro w M res hf
    cases hf
  | succ n ih =>
    intro w M res hf p hp
    rw [f_R_advances_102] at hf
    rcases jif_d hf with ⟨h, hf⟩ | ⟨h, hf⟩
    · exact (w_R_advances_141 _ _ hf _ hp).trans rfl
    · obtain ⟨hb1, hf⟩ := jg_some hf
      rcases jif_d hf with ⟨h, hf⟩ | ⟨h, hf⟩
      · exact (w_R_advances_141 _ _ hf _ hp).trans rfl
      · exact (ih _ _ hf _ hp).trans ((jp_set_ne (jne hp (by decide : 68 ∈ ([68] : List Nat)))).trans rfl)
theorem w_R_advances_60  (w : Nat) (M : jp_M) {res : jp_M} (hf : f_R_advances_60  w M = some res) : ∀ p, p ∉ ([68] : List Nat) → res p = M p := by
  intro p hp
  unfold f_R_advances_60 at hf
  rcases jif_d hf with ⟨h, hf⟩ | ⟨h, hf⟩
  · obtain ⟨hb2, hf⟩ := jg_some hf
    rcases jif_d hf with ⟨h, hf⟩ | ⟨h, hf⟩
    · obtain ⟨hb4, hf⟩ := jg_some hf
      rcases jif_d hf with ⟨h, hf⟩ | ⟨h, hf⟩
      · obtain ⟨hb7, hf⟩ := jg_some hf
        rcases jif_d hf with ⟨h, hf⟩ | ⟨h, hf⟩
        · obtain rfl := Option.some.inj hf
          exact ((jp_set_ne (jne hp (by decide : 68 ∈ ([68] : List Nat)))).trans ((jp_set_ne (jne hp (by decide : 68 ∈ ([68] : List Nat)))).trans ((jp_set_ne (jne hp (by decide : 68 ∈ ([68] : List Nat)))).trans ((jp_set_ne (jne hp (by decide : 68 ∈ ([68] : List Nat)))).trans rfl))))
        · obtain ⟨q10, hc_10, hf⟩ := jbind hf
          rcases jif_d hf with ⟨h, hf⟩ | ⟨h, hf⟩
          · obtain rfl := Option.some.inj hf
            exact ((jp_set_ne (jne hp (by decide : 68 ∈ ([68] : List Nat)))).trans ((jp_set_ne (jne hp (by decide : 68 ∈ ([68] : List Nat)))).trans ((jp_set_ne (jne hp (by decide : 68 ∈ ([68] : List Nat)))).trans ((jp_set_ne (jne hp (by decide : 68 ∈ ([68] : List Nat)))).trans rfl))))
          · obtain rfl := Option.some.inj hf
            exact ((jp_set_ne (jne hp (by decide : 68 ∈ ([68] : List Nat)))).trans ((jp_set_ne (jne hp (by decide : 68 ∈ ([68] : List Nat)))).trans ((jp_set_ne (jne hp (by decide : 68 ∈ ([68] : List Nat)))).trans ((jp_set_ne (jne hp (by decide : 68 ∈ ([68] : List Nat)))).trans rfl))))
      · obtain ⟨q13, hc_13, hf⟩ := jbind hf
        obtain rfl := Option.some.inj hf
        exact ((w_R_readsDigits hc_13 _ (jout hp (by decide : (([68] : List Nat)).all (fun x => (([68] : List Nat)).contains x) = true))).trans ((jp_set_ne (jne hp (by decide : 68 ∈ ([68] : List Nat)))).trans rfl))
    · exact (w_R_advances_102 jFu _ _ hf _ hp).trans ((jp_set_ne (jne hp (by decide : 68 ∈ ([68] : List Nat)))).trans rfl)
  · obtain rfl := Option.some.inj hf
    exact ((jp_set_ne (jne hp (by decide : 68 ∈ ([68] : List Nat)))).trans ((jp_set_ne (jne hp (by decide : 68 ∈ ([68] : List Nat)))).trans rfl))
theorem w_R_advances_8  : ∀ (n : Nat) (w : Nat) (M : jp_M) {res : jp_M}, f_R_advances_8 n  w M = some res → ∀ p, p ∉ ([68] : List Nat) → res p = M p := by
  intro n
  induction n with
  | zero =>
    intro w M res hf
    cases hf
  | succ n ih =>
    intro w M res hf p hp
    rw [f_R_advances_8] at hf
    rcases jif_d hf with ⟨h, hf⟩ | ⟨h, hf⟩
    · exact (w_R_advances_60 _ _ hf _ hp).trans rfl
    · obtain ⟨hb1, hf⟩ := jg_some hf
      rcases jif_d hf with ⟨h, hf⟩ | ⟨h, hf⟩
      · exact (w_R_advances_47 (fun w M res hf => ih w M hf) _ _ hf _ hp).trans rfl
      · obtain ⟨hb2, hf⟩ := jg_some hf
        rcases jif_d hf with ⟨h, hf⟩ | ⟨h, hf⟩
        · exact (w_R_advances_60 _ _ hf _ hp).trans rfl
        · exact (w_R_advances_47 (fun w M res hf => ih w M hf) _ _ hf _ hp).trans rfl
theorem w_R_advances {w : Nat} {M : jp_M} {res : jp_M} (hf : f_R_advances w M = some res) : ∀ p, p ∉ ([68] : List Nat) → res p = M p := by
  intro p hp
  unfold f_R_advances at hf
  exact (w_R_advances_8 jFu _ _ hf _ hp).trans ((jp_set_ne (jne hp (by decide : 68 ∈ ([68] : List Nat)))).trans rfl)
theorem w_R_opens_89  (w : Nat) (M : jp_M) {res : Nat × jp_M} (hf : f_R_opens_89  w M = some res) : ∀ p, p ∉ ([68] : List Nat) → res.2 p = M p := by
  intro p hp
  unfold f_R_opens_89 at hf
  obtain ⟨q1, hc_1, hf⟩ := jbind hf
  obtain rfl := Option.some.inj hf
  exact ((w_R_advances hc_1 _ (jout hp (by decide : (([68] : List Nat)).all (fun x => (([68] : List Nat)).contains x) = true))).trans rfl)
theorem w_R_opens {a1 : Int32} {a2 : Int32} {w : Nat} {M : jp_M} {res : Nat × jp_M} (hf : f_R_opens a1 a2 w M = some res) : ∀ p, p ∉ ([68] : List Nat) → res.2 p = M p := by
  intro p hp
  unfold f_R_opens at hf
  rcases jif_d hf with ⟨h, hf⟩ | ⟨h, hf⟩
  · exact (w_R_opens_89 _ _ hf _ hp).trans ((jp_set_ne (jne hp (by decide : 68 ∈ ([68] : List Nat)))).trans ((jp_set_ne (jne hp (by decide : 68 ∈ ([68] : List Nat)))).trans ((jp_set_ne (jne hp (by decide : 68 ∈ ([68] : List Nat)))).trans ((jp_set_ne (jne hp (by decide : 68 ∈ ([68] : List Nat)))).trans rfl))))
  · rcases jif_d hf with ⟨h, hf⟩ | ⟨h, hf⟩
    · exact (w_R_opens_89 _ _ hf _ hp).trans ((jp_set_ne (jne hp (by decide : 68 ∈ ([68] : List Nat)))).trans ((jp_set_ne (jne hp (by decide : 68 ∈ ([68] : List Nat)))).trans ((jp_set_ne (jne hp (by decide : 68 ∈ ([68] : List Nat)))).trans ((jp_set_ne (jne hp (by decide : 68 ∈ ([68] : List Nat)))).trans rfl))))
    · rcases jif_d hf with ⟨h, hf⟩ | ⟨h, hf⟩
      · exact (w_R_opens_89 _ _ hf _ hp).trans ((jp_set_ne (jne hp (by decide : 68 ∈ ([68] : List Nat)))).trans ((jp_set_ne (jne hp (by decide : 68 ∈ ([68] : List Nat)))).trans ((jp_set_ne (jne hp (by decide : 68 ∈ ([68] : List Nat)))).trans ((jp_set_ne (jne hp (by decide : 68 ∈ ([68] : List Nat)))).trans rfl))))
      · exact (w_R_opens_89 _ _ hf _ hp).trans ((jp_set_ne (jne hp (by decide : 68 ∈ ([68] : List Nat)))).trans ((jp_set_ne (jne hp (by decide : 68 ∈ ([68] : List Nat)))).trans ((jp_set_ne (jne hp (by decide : 68 ∈ ([68] : List Nat)))).trans ((jp_set_ne (jne hp (by decide : 68 ∈ ([68] : List Nat)))).trans rfl))))
theorem w_L_clears {M : jp_M} {res : jp_M} (hf : f_L_clears M = res) : ∀ p, p ∉ ([70] : List Nat) → res p = M p := by
  intro p hp
  unfold f_L_clears at hf
  subst hf
  exact ((jp_set_ne (jne hp (by decide : 70 ∈ ([70] : List Nat)))).trans ((jp_set_ne (jne hp (by decide : 70 ∈ ([70] : List Nat)))).trans rfl))
theorem w_R_fails {a1 : Int32} {M : jp_M} {res : Int32 × jp_M} (hf : f_R_fails a1 M = res) : ∀ p, p ∉ ([68] : List Nat) → res.2 p = M p := by
  intro p hp
  unfold f_R_fails at hf
  subst hf
  exact ((jp_set_ne (jne hp (by decide : 68 ∈ ([68] : List Nat)))).trans ((jp_set_ne (jne hp (by decide : 68 ∈ ([68] : List Nat)))).trans rfl))
theorem w_LR_unit_86  (M : jp_M) {res : Int32 × jp_M} (hf : f_LR_unit_86  M = res) : ∀ p, p ∉ ([68] : List Nat) → res.2 p = M p := by
  intro p hp
  unfold f_LR_unit_86 at hf
  subst hf
  exact ((w_R_fails rfl _ (jout hp (by decide : (([68] : List Nat)).all (fun x => (([68] : List Nat)).contains x) = true))).trans rfl)
theorem w_LR_unit {a1 : Int32} {M : jp_M} {res : Int32 × jp_M} (hf : f_LR_unit a1 M = res) : ∀ p, p ∉ ([68] : List Nat) → res.2 p = M p := by
  intro p hp
  unfold f_LR_unit at hf
  rcases jif_d hf with ⟨h, hf⟩ | ⟨h, hf⟩
  · rcases jif_d hf with ⟨h, hf⟩ | ⟨h, hf⟩
    · exact (w_LR_unit_86 _ hf _ hp).trans rfl
    · rcases jif_d hf with ⟨h, hf⟩ | ⟨h, hf⟩
      · exact (w_LR_unit_86 _ hf _ hp).trans rfl
      · rcases jif_d hf with ⟨h, hf⟩ | ⟨h, hf⟩
        · exact (w_LR_unit_86 _ hf _ hp).trans rfl
        · subst hf
          exact rfl
  · rcases jif_d hf with ⟨h, hf⟩ | ⟨h, hf⟩
    · subst hf
      exact rfl
    · rcases jif_d hf with ⟨h, hf⟩ | ⟨h, hf⟩
      · subst hf
        exact rfl
      · subst hf
        exact ((w_R_fails rfl _ (jout hp (by decide : (([68] : List Nat)).all (fun x => (([68] : List Nat)).contains x) = true))).trans rfl)
theorem w_L_adds {a1 : Int32} {M : jp_M} {res : jp_M} (hf : f_L_adds a1 M = some res) : ∀ p, p ∉ ([70, 74] : List Nat) → res p = M p := by
  intro p hp
  unfold f_L_adds at hf
  rcases jif_d hf with ⟨h, hf⟩ | ⟨h, hf⟩
  · obtain rfl := Option.some.inj hf
    exact rfl
  · obtain ⟨hb2, hf⟩ := jg_some hf
    obtain rfl := Option.some.inj hf
    exact ((jp_set_ne (jne hp (by decide : 70 ∈ ([70, 74] : List Nat)))).trans ((jp_set_ne (jne hp (by decide : 74 ∈ ([70, 74] : List Nat)))).trans rfl))
theorem w_LR_sum_168 {c6 : Int32 → Int32 → Int32 → Nat → jp_M → Option (Int32 × jp_M)} (hc6 : ∀ (l1 : Int32) (l2 : Int32) (l3 : Int32) (w : Nat) (M : jp_M) (res : Int32 × jp_M), c6 l1 l2 l3 w M = some res → ∀ p, p ∉ ([68, 70, 74] : List Nat) → res.2 p = M p) (l1 : Int32) (l2 : Int32) (l3 : Int32) (w : Nat) (M : jp_M) {res : Int32 × jp_M} (hf : f_LR_sum_168 c6 l1 l2 l3 w M = some res) : ∀ p, p ∉ ([68, 70, 74] : List Nat) → res.2 p = M p := by
  intro p hp
  unfold f_LR_sum_168 at hf
  obtain ⟨q1, hc_1, hf⟩ := jbind hf
  exact (hc6 _ _ _ _ _ _ hf _ hp).trans ((w_R_advances hc_1 _ (jout hp (by decide : (([68] : List Nat)).all (fun x => (([68, 70, 74] : List Nat)).contains x) = true))).trans rfl)
theorem w_LR_sum_161 {c6 : Int32 → Int32 → Int32 → Nat → jp_M → Option (Int32 × jp_M)} (hc6 : ∀ (l1 : Int32) (l2 : Int32) (l3 : Int32) (w : Nat) (M : jp_M) (res : Int32 × jp_M), c6 l1 l2 l3 w M = some res → ∀ p, p ∉ ([68, 70, 74] : List Nat) → res.2 p = M p) (l1 : Int32) (l3 : Int32) (s0 : Int32) (w : Nat) (M : jp_M) {res : Int32 × jp_M} (hf : f_LR_sum_161 c6 l1 l3 s0 w M = some res) : ∀ p, p ∉ ([68, 70, 74] : List Nat) → res.2 p = M p := by
  intro p hp
  unfold f_LR_sum_161 at hf
  rcases jif_d hf with ⟨h, hf⟩ | ⟨h, hf⟩
  · exact (w_LR_sum_168 hc6 _ _ _ _ _ hf _ hp).trans rfl
  · obtain rfl := Option.some.inj hf
    exact rfl
theorem w_LR_sum_150 {c6 : Int32 → Int32 → Int32 → Nat → jp_M → Option (Int32 × jp_M)} (hc6 : ∀ (l1 : Int32) (l2 : Int32) (l3 : Int32) (w : Nat) (M : jp_M) (res : Int32 × jp_M), c6 l1 l2 l3 w M = some res → ∀ p, p ∉ ([68, 70, 74] : List Nat) → res.2 p = M p) (l1 : Int32) (l3 : Int32) (w : Nat) (M : jp_M) {res : Int32 × jp_M} (hf : f_LR_sum_150 c6 l1 l3 w M = some res) : ∀ p, p ∉ ([68, 70, 74] : List Nat) → res.2 p = M p := by
  intro p hp
  unfold f_LR_sum_150 at hf
  exact (w_LR_sum_161 hc6 _ _ _ _ _ hf _ hp).trans rfl
theorem w_LR_sum_126 {c6 : Int32 → Int32 → Int32 → Nat → jp_M → Option (Int32 × jp_M)} (hc6 : ∀ (l1 : Int32) (l2 : Int32) (l3 : Int32) (w : Nat) (M : jp_M) (res : Int32 × jp_M), c6 l1 l2 l3 w M = some res → ∀ p, p ∉ ([68, 70, 74] : List Nat) → res.2 p = M p) (l1 : Int32) (l3 : Int32) (w : Nat) (M : jp_M) {res : Int32 × jp_M} (hf : f_LR_sum_126 c6 l1 l3 w M = some res) : ∀ p, p ∉ ([68, 70, 74] : List Nat) → res.2 p = M p := by
  intro p hp
  unfold f_LR_sum_126 at hf
  rcases jif_d hf with ⟨h, hf⟩ | ⟨h, hf⟩
  · exact (w_LR_sum_150 hc6 _ _ _ _ hf _ hp).trans rfl
  · rcases jif_d hf with ⟨h, hf⟩ | ⟨h, hf⟩
    · exact (w_LR_sum_161 hc6 _ _ _ _ _ hf _ hp).trans rfl
    · exact (w_LR_sum_150 hc6 _ _ _ _ hf _ hp).trans rfl
theorem w_LR_sum_105 {c6 : Int32 → Int32 → Int32 → Nat → jp_M → Option (Int32 × jp_M)} (hc6 : ∀ (l1 : Int32) (l2 : Int32) (l3 : Int32) (w : Nat) (M : jp_M) (res : Int32 × jp_M), c6 l1 l2 l3 w M = some res → ∀ p, p ∉ ([68, 70, 74] : List Nat) → res.2 p = M p) (l2 : Int32) (l3 : Int32) (s0 : Int32) (w : Nat) (M : jp_M) {res : Int32 × jp_M} (hf : f_LR_sum_105 c6 l2 l3 s0 w M = some res) : ∀ p, p ∉ ([68, 70, 74] : List Nat) → res.2 p = M p := by
  intro p hp
  unfold f_LR_sum_105 at hf
  rcases jif_d hf with ⟨h, hf⟩ | ⟨h, hf⟩
  · exact (w_LR_sum_168 hc6 _ _ _ _ _ hf _ hp).trans rfl
  · rcases jif_d hf with ⟨h, hf⟩ | ⟨h, hf⟩
    · exact (w_LR_sum_126 hc6 _ _ _ _ hf _ hp).trans rfl
    · obtain ⟨q1, hc_1, hf⟩ := jbind hf
      exact (w_LR_sum_126 hc6 _ _ _ _ hf _ hp).trans ((w_L_adds hc_1 _ (jout hp (by decide : (([70, 74] : List Nat)).all (fun x => (([68, 70, 74] : List Nat)).contains x) = true))).trans rfl)
theorem w_LR_sum_94 {c6 : Int32 → Int32 → Int32 → Nat → jp_M → Option (Int32 × jp_M)} (hc6 : ∀ (l1 : Int32) (l2 : Int32) (l3 : Int32) (w : Nat) (M : jp_M) (res : Int32 × jp_M), c6 l1 l2 l3 w M = some res → ∀ p, p ∉ ([68, 70, 74] : List Nat) → res.2 p = M p) (l2 : Int32) (l3 : Int32) (w : Nat) (M : jp_M) {res : Int32 × jp_M} (hf : f_LR_sum_94 c6 l2 l3 w M = some res) : ∀ p, p ∉ ([68, 70, 74] : List Nat) → res.2 p = M p := by
  intro p hp
  unfold f_LR_sum_94 at hf
  exact (w_LR_sum_105 hc6 _ _ _ _ _ hf _ hp).trans rfl
theorem w_LR_sum_70 {c6 : Int32 → Int32 → Int32 → Nat → jp_M → Option (Int32 × jp_M)} (hc6 : ∀ (l1 : Int32) (l2 : Int32) (l3 : Int32) (w : Nat) (M : jp_M) (res : Int32 × jp_M), c6 l1 l2 l3 w M = some res → ∀ p, p ∉ ([68, 70, 74] : List Nat) → res.2 p = M p) (l2 : Int32) (l3 : Int32) (w : Nat) (M : jp_M) {res : Int32 × jp_M} (hf : f_LR_sum_70 c6 l2 l3 w M = some res) : ∀ p, p ∉ ([68, 70, 74] : List Nat) → res.2 p = M p := by
  intro p hp
  unfold f_LR_sum_70 at hf
  rcases jif_d hf with ⟨h, hf⟩ | ⟨h, hf⟩
  · exact (w_LR_sum_94 hc6 _ _ _ _ hf _ hp).trans rfl
  · rcases jif_d hf with ⟨h, hf⟩ | ⟨h, hf⟩
    · exact (w_LR_sum_105 hc6 _ _ _ _ _ hf _ hp).trans rfl
    · exact (w_LR_sum_94 hc6 _ _ _ _ hf _ hp).trans rfl
theorem w_LR_sum_25 {c6 : Int32 → Int32 → Int32 → Nat → jp_M → Option (Int32 × jp_M)} (hc6 : ∀ (l1 : Int32) (l2 : Int32) (l3 : Int32) (w : Nat) (M : jp_M) (res : Int32 × jp_M), c6 l1 l2 l3 w M = some res → ∀ p, p ∉ ([68, 70, 74] : List Nat) → res.2 p = M p) (l1 : Int32) (l2 : Int32) (l3 : Int32) (s1 : Int32) (w : Nat) (M : jp_M) {res : Int32 × jp_M} (hf : f_LR_sum_25 c6 l1 l2 l3 s1 w M = some res) : ∀ p, p ∉ ([68, 70, 74] : List Nat) → res.2 p = M p := by
  intro p hp
  unfold f_LR_sum_25 at hf
  rcases jif_d hf with ⟨h, hf⟩ | ⟨h, hf⟩
  · obtain ⟨q2, hc_2, hf⟩ := jbind hf
    obtain ⟨q3, hc_3, hf⟩ := jbind hf
    rcases jif_d hf with ⟨h, hf⟩ | ⟨h, hf⟩
    · exact (w_LR_sum_70 hc6 _ _ _ _ hf _ hp).trans ((w_R_advances hc_3 _ (jout hp (by decide : (([68] : List Nat)).all (fun x => (([68, 70, 74] : List Nat)).contains x) = true))).trans ((w_L_adds hc_2 _ (jout hp (by decide : (([70, 74] : List Nat)).all (fun x => (([68, 70, 74] : List Nat)).contains x) = true))).trans ((w_LR_unit rfl _ (jout hp (by decide : (([68] : List Nat)).all (fun x => (([68, 70, 74] : List Nat)).contains x) = true))).trans rfl)))
    · obtain ⟨q4, hc_4, hf⟩ := jbind hf
      exact (w_LR_sum_70 hc6 _ _ _ _ hf _ hp).trans ((w_L_adds hc_4 _ (jout hp (by decide : (([70, 74] : List Nat)).all (fun x => (([68, 70, 74] : List Nat)).contains x) = true))).trans ((w_R_advances hc_3 _ (jout hp (by decide : (([68] : List Nat)).all (fun x => (([68, 70, 74] : List Nat)).contains x) = true))).trans ((w_L_adds hc_2 _ (jout hp (by decide : (([70, 74] : List Nat)).all (fun x => (([68, 70, 74] : List Nat)).contains x) = true))).trans ((w_LR_unit rfl _ (jout hp (by decide : (([68] : List Nat)).all (fun x => (([68, 70, 74] : List Nat)).contains x) = true))).trans rfl))))
  · obtain rfl := Option.some.inj hf
    exact ((w_LR_unit rfl _ (jout hp (by decide : (([68] : List Nat)).all (fun x => (([68, 70, 74] : List Nat)).contains x) = true))).trans rfl)
theorem w_LR_sum_6  : ∀ (n : Nat) (l1 : Int32) (l2 : Int32) (l3 : Int32) (w : Nat) (M : jp_M) {res : Int32 × jp_M}, f_LR_sum_6 n  l1 l2 l3 w M = some res → ∀ p, p ∉ ([68, 70, 74] : List Nat) → res.2 p = M p := by
  intro n
  induction n with
  | zero =>
    intro l1 l2 l3 w M res hf
    cases hf
  | succ n ih =>
    intro l1 l2 l3 w M res hf p hp
    rw [f_LR_sum_6] at hf
    rcases jif_d hf with ⟨h, hf⟩ | ⟨h, hf⟩
    · obtain rfl := Option.some.inj hf
      exact ((w_R_fails rfl _ (jout hp (by decide : (([68] : List Nat)).all (fun x => (([68, 70, 74] : List Nat)).contains x) = true))).trans rfl)
    · rcases jif_d hf with ⟨h, hf⟩ | ⟨h, hf⟩
      · exact (w_LR_sum_25 (fun l1 l2 l3 w M res hf => ih l1 l2 l3 w M hf) _ _ _ _ _ _ hf _ hp).trans rfl
      · exact (w_LR_sum_25 (fun l1 l2 l3 w M res hf => ih l1 l2 l3 w M hf) _ _ _ _ _ _ hf _ hp).trans rfl
theorem w_LR_sum {w : Nat} {M : jp_M} {res : Int32 × jp_M} (hf : f_LR_sum w M = some res) : ∀ p, p ∉ ([68, 70, 74] : List Nat) → res.2 p = M p := by
  intro p hp
  unfold f_LR_sum at hf
  exact (w_LR_sum_6 jFu _ _ _ _ _ hf _ hp).trans rfl
theorem w_R_passesSign {a1 : Int32} {w : Nat} {M : jp_M} {res : Int32 × jp_M} (hf : f_R_passesSign a1 w M = some res) : ∀ p, p ∉ ([68] : List Nat) → res.2 p = M p := by
  intro p hp
  unfold f_R_passesSign at hf
  rcases jif_d hf with ⟨h, hf⟩ | ⟨h, hf⟩
  · obtain ⟨q2, hc_2, hf⟩ := jbind hf
    obtain rfl := Option.some.inj hf
    exact ((w_R_advances hc_2 _ (jout hp (by decide : (([68] : List Nat)).all (fun x => (([68] : List Nat)).contains x) = true))).trans rfl)
  · obtain rfl := Option.some.inj hf
    exact ((w_R_fails rfl _ (jout hp (by decide : (([68] : List Nat)).all (fun x => (([68] : List Nat)).contains x) = true))).trans rfl)
theorem w_L_becomes {M : jp_M} {res : jp_M} (hf : f_L_becomes M = some res) : ∀ p, p ∉ ([7, 8, 9, 10, 11] : List Nat) → res p = M p := by
  intro p hp
  unfold f_L_becomes at hf
  obtain ⟨hb4, hf⟩ := jg_some hf
  obtain ⟨hb6, hf⟩ := jg_some hf
  obtain ⟨hb8, hf⟩ := jg_some hf
  obtain ⟨hb10, hf⟩ := jg_some hf
  obtain rfl := Option.some.inj hf
  exact ((jp_set_ne (jne hp (by decide : 11 ∈ ([7, 8, 9, 10, 11] : List Nat)))).trans ((jp_set_ne (jne hp (by decide : 10 ∈ ([7, 8, 9, 10, 11] : List Nat)))).trans ((jp_set_ne (jne hp (by decide : 9 ∈ ([7, 8, 9, 10, 11] : List Nat)))).trans ((jp_set_ne (jne hp (by decide : 8 ∈ ([7, 8, 9, 10, 11] : List Nat)))).trans ((jp_set_ne (jne hp (by decide : 7 ∈ ([7, 8, 9, 10, 11] : List Nat)))).trans ((jp_set_ne (jne hp (by decide : 7 ∈ ([7, 8, 9, 10, 11] : List Nat)))).trans rfl))))))
theorem w_R_passesWord {a1 : Int32} {w : Nat} {M : jp_M} {res : Int32 × jp_M} (hf : f_R_passesWord a1 w M = some res) : ∀ p, p ∉ ([68] : List Nat) → res.2 p = M p := by
  intro p hp
  unfold f_R_passesWord at hf
  rcases jif_d hf with ⟨h, hf⟩ | ⟨h, hf⟩
  · obtain ⟨q2, hc_2, hf⟩ := jbind hf
    obtain rfl := Option.some.inj hf
    exact ((w_R_advances hc_2 _ (jout hp (by decide : (([68] : List Nat)).all (fun x => (([68] : List Nat)).contains x) = true))).trans rfl)
  · obtain rfl := Option.some.inj hf
    exact ((w_R_fails rfl _ (jout hp (by decide : (([68] : List Nat)).all (fun x => (([68] : List Nat)).contains x) = true))).trans rfl)
theorem w_IR_fills {a1 : Int32} {M : jp_M} {res : jp_M} (hf : f_IR_fills a1 M = some res) : ∀ p, p ∉ ([77, 79] : List Nat) → res p = M p := by
  intro p hp
  unfold f_IR_fills at hf
  rcases jif_d hf with ⟨h, hf⟩ | ⟨h, hf⟩
  · obtain rfl := Option.some.inj hf
    exact rfl
  · obtain ⟨hb2, hf⟩ := jg_some hf
    obtain rfl := Option.some.inj hf
    exact ((jp_set_ne (jne hp (by decide : 77 ∈ ([77, 79] : List Nat)))).trans ((jp_set_ne (jne hp (by decide : 79 ∈ ([77, 79] : List Nat)))).trans rfl))
theorem w_IR_number_42  (w : Nat) (M : jp_M) {res : Int32 × jp_M} (hf : f_IR_number_42  w M = some res) : ∀ p, p ∉ ([68, 77, 79] : List Nat) → res.2 p = M p := by
  intro p hp
  unfold f_IR_number_42 at hf
  obtain rfl := Option.some.inj hf
  exact ((w_R_fails rfl _ (jout hp (by decide : (([68] : List Nat)).all (fun x => (([68, 77, 79] : List Nat)).contains x) = true))).trans rfl)
theorem w_IR_number {a1 : Int32} {a2 : Int32} {w : Nat} {M : jp_M} {res : Int32 × jp_M} (hf : f_IR_number a1 a2 w M = some res) : ∀ p, p ∉ ([68, 77, 79] : List Nat) → res.2 p = M p := by
  intro p hp
  unfold f_IR_number at hf
  rcases jif_d hf with ⟨h, hf⟩ | ⟨h, hf⟩
  · rcases jif_d hf with ⟨h, hf⟩ | ⟨h, hf⟩
    · exact (w_IR_number_42 _ _ hf _ hp).trans rfl
    · rcases jif_d hf with ⟨h, hf⟩ | ⟨h, hf⟩
      · obtain ⟨q2, hc_2, hf⟩ := jbind hf
        obtain ⟨q3, hc_3, hf⟩ := jbind hf
        obtain rfl := Option.some.inj hf
        exact ((w_R_advances hc_3 _ (jout hp (by decide : (([68] : List Nat)).all (fun x => (([68, 77, 79] : List Nat)).contains x) = true))).trans ((w_IR_fills hc_2 _ (jout hp (by decide : (([77, 79] : List Nat)).all (fun x => (([68, 77, 79] : List Nat)).contains x) = true))).trans ((jp_set_ne (jne hp (by decide : 77 ∈ ([68, 77, 79] : List Nat)))).trans rfl)))
      · exact (w_IR_number_42 _ _ hf _ hp).trans rfl
  · obtain rfl := Option.some.inj hf
    exact ((w_R_fails rfl _ (jout hp (by decide : (([68] : List Nat)).all (fun x => (([68, 77, 79] : List Nat)).contains x) = true))).trans rfl)
theorem w_IR_unlike_33  (M : jp_M) {res : Int32 × jp_M} (hf : f_IR_unlike_33  M = res) : ∀ p, p ∉ ([68] : List Nat) → res.2 p = M p := by
  intro p hp
  unfold f_IR_unlike_33 at hf
  subst hf
  exact rfl
theorem w_IR_unlike {a1 : Int32} {M : jp_M} {res : Int32 × jp_M} (hf : f_IR_unlike a1 M = res) : ∀ p, p ∉ ([68] : List Nat) → res.2 p = M p := by
  intro p hp
  unfold f_IR_unlike at hf
  rcases jif_d hf with ⟨h, hf⟩ | ⟨h, hf⟩
  · exact (w_IR_unlike_33 _ hf _ hp).trans rfl
  · rcases jif_d hf with ⟨h, hf⟩ | ⟨h, hf⟩
    · exact (w_IR_unlike_33 _ hf _ hp).trans rfl
    · rcases jif_d hf with ⟨h, hf⟩ | ⟨h, hf⟩
      · subst hf
        exact ((w_R_fails rfl _ (jout hp (by decide : (([68] : List Nat)).all (fun x => (([68] : List Nat)).contains x) = true))).trans rfl)
      · exact (w_IR_unlike_33 _ hf _ hp).trans ((w_R_fails rfl _ (jout hp (by decide : (([68] : List Nat)).all (fun x => (([68] : List Nat)).contains x) = true))).trans rfl)
theorem w_IR_precedent {w : Nat} {M : jp_M} {res : Int32 × jp_M} (hf : f_IR_precedent w M = some res) : ∀ p, p ∉ ([68, 77, 79] : List Nat) → res.2 p = M p := by
  intro p hp
  unfold f_IR_precedent at hf
  obtain ⟨q1, hc_1, hf⟩ := jbind hf
  rcases jif_d hf with ⟨h, hf⟩ | ⟨h, hf⟩
  · obtain rfl := Option.some.inj hf
    exact ((w_IR_number hc_1 _ (jout hp (by decide : (([68, 77, 79] : List Nat)).all (fun x => (([68, 77, 79] : List Nat)).contains x) = true))).trans rfl)
  · obtain ⟨q2, hc_2, hf⟩ := jbind hf
    rcases jif_d hf with ⟨h, hf⟩ | ⟨h, hf⟩
    · obtain rfl := Option.some.inj hf
      exact ((w_R_passesWord hc_2 _ (jout hp (by decide : (([68] : List Nat)).all (fun x => (([68, 77, 79] : List Nat)).contains x) = true))).trans ((w_IR_number hc_1 _ (jout hp (by decide : (([68, 77, 79] : List Nat)).all (fun x => (([68, 77, 79] : List Nat)).contains x) = true))).trans rfl))
    · rcases jif_d hf with ⟨h, hf⟩ | ⟨h, hf⟩
      · obtain rfl := Option.some.inj hf
        exact ((w_IR_unlike rfl _ (jout hp (by decide : (([68] : List Nat)).all (fun x => (([68, 77, 79] : List Nat)).contains x) = true))).trans ((w_R_passesWord hc_2 _ (jout hp (by decide : (([68] : List Nat)).all (fun x => (([68, 77, 79] : List Nat)).contains x) = true))).trans ((w_IR_number hc_1 _ (jout hp (by decide : (([68, 77, 79] : List Nat)).all (fun x => (([68, 77, 79] : List Nat)).contains x) = true))).trans rfl)))
      · obtain ⟨q4, hc_4, hf⟩ := jbind hf
        rcases jif_d hf with ⟨h, hf⟩ | ⟨h, hf⟩
        · obtain rfl := Option.some.inj hf
          exact ((w_IR_number hc_4 _ (jout hp (by decide : (([68, 77, 79] : List Nat)).all (fun x => (([68, 77, 79] : List Nat)).contains x) = true))).trans ((w_IR_unlike rfl _ (jout hp (by decide : (([68] : List Nat)).all (fun x => (([68, 77, 79] : List Nat)).contains x) = true))).trans ((w_R_passesWord hc_2 _ (jout hp (by decide : (([68] : List Nat)).all (fun x => (([68, 77, 79] : List Nat)).contains x) = true))).trans ((w_IR_number hc_1 _ (jout hp (by decide : (([68, 77, 79] : List Nat)).all (fun x => (([68, 77, 79] : List Nat)).contains x) = true))).trans rfl))))
        · obtain rfl := Option.some.inj hf
          exact ((w_IR_number hc_4 _ (jout hp (by decide : (([68, 77, 79] : List Nat)).all (fun x => (([68, 77, 79] : List Nat)).contains x) = true))).trans ((w_IR_unlike rfl _ (jout hp (by decide : (([68] : List Nat)).all (fun x => (([68, 77, 79] : List Nat)).contains x) = true))).trans ((w_R_passesWord hc_2 _ (jout hp (by decide : (([68] : List Nat)).all (fun x => (([68, 77, 79] : List Nat)).contains x) = true))).trans ((w_IR_number hc_1 _ (jout hp (by decide : (([68, 77, 79] : List Nat)).all (fun x => (([68, 77, 79] : List Nat)).contains x) = true))).trans rfl))))
theorem w_IR_turn {w : Nat} {M : jp_M} {res : Int32 × jp_M} (hf : f_IR_turn w M = some res) : ∀ p, p ∉ ([68, 77, 79] : List Nat) → res.2 p = M p := by
  intro p hp
  unfold f_IR_turn at hf
  obtain ⟨q1, hc_1, hf⟩ := jbind hf
  rcases jif_d hf with ⟨h, hf⟩ | ⟨h, hf⟩
  · obtain rfl := Option.some.inj hf
    exact ((w_IR_number hc_1 _ (jout hp (by decide : (([68, 77, 79] : List Nat)).all (fun x => (([68, 77, 79] : List Nat)).contains x) = true))).trans rfl)
  · obtain ⟨q2, hc_2, hf⟩ := jbind hf
    rcases jif_d hf with ⟨h, hf⟩ | ⟨h, hf⟩
    · obtain rfl := Option.some.inj hf
      exact ((w_R_passesWord hc_2 _ (jout hp (by decide : (([68] : List Nat)).all (fun x => (([68, 77, 79] : List Nat)).contains x) = true))).trans ((w_IR_number hc_1 _ (jout hp (by decide : (([68, 77, 79] : List Nat)).all (fun x => (([68, 77, 79] : List Nat)).contains x) = true))).trans rfl))
    · obtain ⟨q3, hc_3, hf⟩ := jbind hf
      rcases jif_d hf with ⟨h, hf⟩ | ⟨h, hf⟩
      · obtain rfl := Option.some.inj hf
        exact ((w_IR_number hc_3 _ (jout hp (by decide : (([68, 77, 79] : List Nat)).all (fun x => (([68, 77, 79] : List Nat)).contains x) = true))).trans ((w_R_passesWord hc_2 _ (jout hp (by decide : (([68] : List Nat)).all (fun x => (([68, 77, 79] : List Nat)).contains x) = true))).trans ((w_IR_number hc_1 _ (jout hp (by decide : (([68, 77, 79] : List Nat)).all (fun x => (([68, 77, 79] : List Nat)).contains x) = true))).trans rfl)))
      · obtain rfl := Option.some.inj hf
        exact ((w_IR_number hc_3 _ (jout hp (by decide : (([68, 77, 79] : List Nat)).all (fun x => (([68, 77, 79] : List Nat)).contains x) = true))).trans ((w_R_passesWord hc_2 _ (jout hp (by decide : (([68] : List Nat)).all (fun x => (([68, 77, 79] : List Nat)).contains x) = true))).trans ((w_IR_number hc_1 _ (jout hp (by decide : (([68, 77, 79] : List Nat)).all (fun x => (([68, 77, 79] : List Nat)).contains x) = true))).trans rfl)))
theorem w_IR_kind_34  (w : Nat) (M : jp_M) {res : Int32 × jp_M} (hf : f_IR_kind_34  w M = some res) : ∀ p, p ∉ ([68, 77, 79] : List Nat) → res.2 p = M p := by
  intro p hp
  unfold f_IR_kind_34 at hf
  obtain rfl := Option.some.inj hf
  exact ((w_R_fails rfl _ (jout hp (by decide : (([68] : List Nat)).all (fun x => (([68, 77, 79] : List Nat)).contains x) = true))).trans rfl)
theorem w_IR_kind {w : Nat} {M : jp_M} {res : Int32 × jp_M} (hf : f_IR_kind w M = some res) : ∀ p, p ∉ ([68, 77, 79] : List Nat) → res.2 p = M p := by
  intro p hp
  unfold f_IR_kind at hf
  rcases jif_d hf with ⟨h, hf⟩ | ⟨h, hf⟩
  · exact (w_IR_kind_34 _ _ hf _ hp).trans rfl
  · rcases jif_d hf with ⟨h, hf⟩ | ⟨h, hf⟩
    · exact (w_IR_kind_34 _ _ hf _ hp).trans rfl
    · rcases jif_d hf with ⟨h, hf⟩ | ⟨h, hf⟩
      · obtain ⟨q1, hc_1, hf⟩ := jbind hf
        obtain ⟨q2, hc_2, hf⟩ := jbind hf
        obtain rfl := Option.some.inj hf
        exact ((w_R_advances hc_2 _ (jout hp (by decide : (([68] : List Nat)).all (fun x => (([68, 77, 79] : List Nat)).contains x) = true))).trans ((w_IR_fills hc_1 _ (jout hp (by decide : (([77, 79] : List Nat)).all (fun x => (([68, 77, 79] : List Nat)).contains x) = true))).trans rfl))
      · exact (w_IR_kind_34 _ _ hf _ hp).trans rfl
theorem w_IR_petition {w : Nat} {M : jp_M} {res : Int32 × jp_M} (hf : f_IR_petition w M = some res) : ∀ p, p ∉ ([68, 77, 79] : List Nat) → res.2 p = M p := by
  intro p hp
  unfold f_IR_petition at hf
  obtain ⟨q1, hc_1, hf⟩ := jbind hf
  rcases jif_d hf with ⟨h, hf⟩ | ⟨h, hf⟩
  · obtain rfl := Option.some.inj hf
    exact ((w_IR_number hc_1 _ (jout hp (by decide : (([68, 77, 79] : List Nat)).all (fun x => (([68, 77, 79] : List Nat)).contains x) = true))).trans rfl)
  · obtain ⟨q2, hc_2, hf⟩ := jbind hf
    rcases jif_d hf with ⟨h, hf⟩ | ⟨h, hf⟩
    · obtain rfl := Option.some.inj hf
      exact ((w_R_passesWord hc_2 _ (jout hp (by decide : (([68] : List Nat)).all (fun x => (([68, 77, 79] : List Nat)).contains x) = true))).trans ((w_IR_number hc_1 _ (jout hp (by decide : (([68, 77, 79] : List Nat)).all (fun x => (([68, 77, 79] : List Nat)).contains x) = true))).trans rfl))
    · obtain ⟨q3, hc_3, hf⟩ := jbind hf
      rcases jif_d hf with ⟨h, hf⟩ | ⟨h, hf⟩
      · obtain rfl := Option.some.inj hf
        exact ((w_IR_number hc_3 _ (jout hp (by decide : (([68, 77, 79] : List Nat)).all (fun x => (([68, 77, 79] : List Nat)).contains x) = true))).trans ((w_R_passesWord hc_2 _ (jout hp (by decide : (([68] : List Nat)).all (fun x => (([68, 77, 79] : List Nat)).contains x) = true))).trans ((w_IR_number hc_1 _ (jout hp (by decide : (([68, 77, 79] : List Nat)).all (fun x => (([68, 77, 79] : List Nat)).contains x) = true))).trans rfl)))
      · obtain ⟨q4, hc_4, hf⟩ := jbind hf
        rcases jif_d hf with ⟨h, hf⟩ | ⟨h, hf⟩
        · obtain rfl := Option.some.inj hf
          exact ((w_IR_kind hc_4 _ (jout hp (by decide : (([68, 77, 79] : List Nat)).all (fun x => (([68, 77, 79] : List Nat)).contains x) = true))).trans ((w_IR_number hc_3 _ (jout hp (by decide : (([68, 77, 79] : List Nat)).all (fun x => (([68, 77, 79] : List Nat)).contains x) = true))).trans ((w_R_passesWord hc_2 _ (jout hp (by decide : (([68] : List Nat)).all (fun x => (([68, 77, 79] : List Nat)).contains x) = true))).trans ((w_IR_number hc_1 _ (jout hp (by decide : (([68, 77, 79] : List Nat)).all (fun x => (([68, 77, 79] : List Nat)).contains x) = true))).trans rfl))))
        · obtain ⟨q5, hc_5, hf⟩ := jbind hf
          rcases jif_d hf with ⟨h, hf⟩ | ⟨h, hf⟩
          · obtain rfl := Option.some.inj hf
            exact ((w_R_passesWord hc_5 _ (jout hp (by decide : (([68] : List Nat)).all (fun x => (([68, 77, 79] : List Nat)).contains x) = true))).trans ((w_IR_kind hc_4 _ (jout hp (by decide : (([68, 77, 79] : List Nat)).all (fun x => (([68, 77, 79] : List Nat)).contains x) = true))).trans ((w_IR_number hc_3 _ (jout hp (by decide : (([68, 77, 79] : List Nat)).all (fun x => (([68, 77, 79] : List Nat)).contains x) = true))).trans ((w_R_passesWord hc_2 _ (jout hp (by decide : (([68] : List Nat)).all (fun x => (([68, 77, 79] : List Nat)).contains x) = true))).trans ((w_IR_number hc_1 _ (jout hp (by decide : (([68, 77, 79] : List Nat)).all (fun x => (([68, 77, 79] : List Nat)).contains x) = true))).trans rfl)))))
          · obtain ⟨q6, hc_6, hf⟩ := jbind hf
            rcases jif_d hf with ⟨h, hf⟩ | ⟨h, hf⟩
            · obtain rfl := Option.some.inj hf
              exact ((w_IR_number hc_6 _ (jout hp (by decide : (([68, 77, 79] : List Nat)).all (fun x => (([68, 77, 79] : List Nat)).contains x) = true))).trans ((w_R_passesWord hc_5 _ (jout hp (by decide : (([68] : List Nat)).all (fun x => (([68, 77, 79] : List Nat)).contains x) = true))).trans ((w_IR_kind hc_4 _ (jout hp (by decide : (([68, 77, 79] : List Nat)).all (fun x => (([68, 77, 79] : List Nat)).contains x) = true))).trans ((w_IR_number hc_3 _ (jout hp (by decide : (([68, 77, 79] : List Nat)).all (fun x => (([68, 77, 79] : List Nat)).contains x) = true))).trans ((w_R_passesWord hc_2 _ (jout hp (by decide : (([68] : List Nat)).all (fun x => (([68, 77, 79] : List Nat)).contains x) = true))).trans ((w_IR_number hc_1 _ (jout hp (by decide : (([68, 77, 79] : List Nat)).all (fun x => (([68, 77, 79] : List Nat)).contains x) = true))).trans rfl))))))
            · obtain ⟨q7, hc_7, hf⟩ := jbind hf
              rcases jif_d hf with ⟨h, hf⟩ | ⟨h, hf⟩
              · obtain rfl := Option.some.inj hf
                exact ((w_IR_number hc_7 _ (jout hp (by decide : (([68, 77, 79] : List Nat)).all (fun x => (([68, 77, 79] : List Nat)).contains x) = true))).trans ((w_IR_number hc_6 _ (jout hp (by decide : (([68, 77, 79] : List Nat)).all (fun x => (([68, 77, 79] : List Nat)).contains x) = true))).trans ((w_R_passesWord hc_5 _ (jout hp (by decide : (([68] : List Nat)).all (fun x => (([68, 77, 79] : List Nat)).contains x) = true))).trans ((w_IR_kind hc_4 _ (jout hp (by decide : (([68, 77, 79] : List Nat)).all (fun x => (([68, 77, 79] : List Nat)).contains x) = true))).trans ((w_IR_number hc_3 _ (jout hp (by decide : (([68, 77, 79] : List Nat)).all (fun x => (([68, 77, 79] : List Nat)).contains x) = true))).trans ((w_R_passesWord hc_2 _ (jout hp (by decide : (([68] : List Nat)).all (fun x => (([68, 77, 79] : List Nat)).contains x) = true))).trans ((w_IR_number hc_1 _ (jout hp (by decide : (([68, 77, 79] : List Nat)).all (fun x => (([68, 77, 79] : List Nat)).contains x) = true))).trans rfl)))))))
              · obtain ⟨q8, hc_8, hf⟩ := jbind hf
                rcases jif_d hf with ⟨h, hf⟩ | ⟨h, hf⟩
                · obtain rfl := Option.some.inj hf
                  exact ((w_IR_number hc_8 _ (jout hp (by decide : (([68, 77, 79] : List Nat)).all (fun x => (([68, 77, 79] : List Nat)).contains x) = true))).trans ((w_IR_number hc_7 _ (jout hp (by decide : (([68, 77, 79] : List Nat)).all (fun x => (([68, 77, 79] : List Nat)).contains x) = true))).trans ((w_IR_number hc_6 _ (jout hp (by decide : (([68, 77, 79] : List Nat)).all (fun x => (([68, 77, 79] : List Nat)).contains x) = true))).trans ((w_R_passesWord hc_5 _ (jout hp (by decide : (([68] : List Nat)).all (fun x => (([68, 77, 79] : List Nat)).contains x) = true))).trans ((w_IR_kind hc_4 _ (jout hp (by decide : (([68, 77, 79] : List Nat)).all (fun x => (([68, 77, 79] : List Nat)).contains x) = true))).trans ((w_IR_number hc_3 _ (jout hp (by decide : (([68, 77, 79] : List Nat)).all (fun x => (([68, 77, 79] : List Nat)).contains x) = true))).trans ((w_R_passesWord hc_2 _ (jout hp (by decide : (([68] : List Nat)).all (fun x => (([68, 77, 79] : List Nat)).contains x) = true))).trans ((w_IR_number hc_1 _ (jout hp (by decide : (([68, 77, 79] : List Nat)).all (fun x => (([68, 77, 79] : List Nat)).contains x) = true))).trans rfl))))))))
                · obtain ⟨q9, hc_9, hf⟩ := jbind hf
                  rcases jif_d hf with ⟨h, hf⟩ | ⟨h, hf⟩
                  · obtain rfl := Option.some.inj hf
                    exact ((w_R_passesWord hc_9 _ (jout hp (by decide : (([68] : List Nat)).all (fun x => (([68, 77, 79] : List Nat)).contains x) = true))).trans ((w_IR_number hc_8 _ (jout hp (by decide : (([68, 77, 79] : List Nat)).all (fun x => (([68, 77, 79] : List Nat)).contains x) = true))).trans ((w_IR_number hc_7 _ (jout hp (by decide : (([68, 77, 79] : List Nat)).all (fun x => (([68, 77, 79] : List Nat)).contains x) = true))).trans ((w_IR_number hc_6 _ (jout hp (by decide : (([68, 77, 79] : List Nat)).all (fun x => (([68, 77, 79] : List Nat)).contains x) = true))).trans ((w_R_passesWord hc_5 _ (jout hp (by decide : (([68] : List Nat)).all (fun x => (([68, 77, 79] : List Nat)).contains x) = true))).trans ((w_IR_kind hc_4 _ (jout hp (by decide : (([68, 77, 79] : List Nat)).all (fun x => (([68, 77, 79] : List Nat)).contains x) = true))).trans ((w_IR_number hc_3 _ (jout hp (by decide : (([68, 77, 79] : List Nat)).all (fun x => (([68, 77, 79] : List Nat)).contains x) = true))).trans ((w_R_passesWord hc_2 _ (jout hp (by decide : (([68] : List Nat)).all (fun x => (([68, 77, 79] : List Nat)).contains x) = true))).trans ((w_IR_number hc_1 _ (jout hp (by decide : (([68, 77, 79] : List Nat)).all (fun x => (([68, 77, 79] : List Nat)).contains x) = true))).trans rfl)))))))))
                  · obtain ⟨q10, hc_10, hf⟩ := jbind hf
                    rcases jif_d hf with ⟨h, hf⟩ | ⟨h, hf⟩
                    · obtain rfl := Option.some.inj hf
                      exact ((w_IR_number hc_10 _ (jout hp (by decide : (([68, 77, 79] : List Nat)).all (fun x => (([68, 77, 79] : List Nat)).contains x) = true))).trans ((w_R_passesWord hc_9 _ (jout hp (by decide : (([68] : List Nat)).all (fun x => (([68, 77, 79] : List Nat)).contains x) = true))).trans ((w_IR_number hc_8 _ (jout hp (by decide : (([68, 77, 79] : List Nat)).all (fun x => (([68, 77, 79] : List Nat)).contains x) = true))).trans ((w_IR_number hc_7 _ (jout hp (by decide : (([68, 77, 79] : List Nat)).all (fun x => (([68, 77, 79] : List Nat)).contains x) = true))).trans ((w_IR_number hc_6 _ (jout hp (by decide : (([68, 77, 79] : List Nat)).all (fun x => (([68, 77, 79] : List Nat)).contains x) = true))).trans ((w_R_passesWord hc_5 _ (jout hp (by decide : (([68] : List Nat)).all (fun x => (([68, 77, 79] : List Nat)).contains x) = true))).trans ((w_IR_kind hc_4 _ (jout hp (by decide : (([68, 77, 79] : List Nat)).all (fun x => (([68, 77, 79] : List Nat)).contains x) = true))).trans ((w_IR_number hc_3 _ (jout hp (by decide : (([68, 77, 79] : List Nat)).all (fun x => (([68, 77, 79] : List Nat)).contains x) = true))).trans ((w_R_passesWord hc_2 _ (jout hp (by decide : (([68] : List Nat)).all (fun x => (([68, 77, 79] : List Nat)).contains x) = true))).trans ((w_IR_number hc_1 _ (jout hp (by decide : (([68, 77, 79] : List Nat)).all (fun x => (([68, 77, 79] : List Nat)).contains x) = true))).trans rfl))))))))))
                    · obtain rfl := Option.some.inj hf
                      exact ((w_IR_number hc_10 _ (jout hp (by decide : (([68, 77, 79] : List Nat)).all (fun x => (([68, 77, 79] : List Nat)).contains x) = true))).trans ((w_R_passesWord hc_9 _ (jout hp (by decide : (([68] : List Nat)).all (fun x => (([68, 77, 79] : List Nat)).contains x) = true))).trans ((w_IR_number hc_8 _ (jout hp (by decide : (([68, 77, 79] : List Nat)).all (fun x => (([68, 77, 79] : List Nat)).contains x) = true))).trans ((w_IR_number hc_7 _ (jout hp (by decide : (([68, 77, 79] : List Nat)).all (fun x => (([68, 77, 79] : List Nat)).contains x) = true))).trans ((w_IR_number hc_6 _ (jout hp (by decide : (([68, 77, 79] : List Nat)).all (fun x => (([68, 77, 79] : List Nat)).contains x) = true))).trans ((w_R_passesWord hc_5 _ (jout hp (by decide : (([68] : List Nat)).all (fun x => (([68, 77, 79] : List Nat)).contains x) = true))).trans ((w_IR_kind hc_4 _ (jout hp (by decide : (([68, 77, 79] : List Nat)).all (fun x => (([68, 77, 79] : List Nat)).contains x) = true))).trans ((w_IR_number hc_3 _ (jout hp (by decide : (([68, 77, 79] : List Nat)).all (fun x => (([68, 77, 79] : List Nat)).contains x) = true))).trans ((w_R_passesWord hc_2 _ (jout hp (by decide : (([68] : List Nat)).all (fun x => (([68, 77, 79] : List Nat)).contains x) = true))).trans ((w_IR_number hc_1 _ (jout hp (by decide : (([68, 77, 79] : List Nat)).all (fun x => (([68, 77, 79] : List Nat)).contains x) = true))).trans rfl))))))))))
theorem w_IR_line_61  (l2 : Int32) (w : Nat) (M : jp_M) {res : Int32 × jp_M} (hf : f_IR_line_61  l2 w M = some res) : ∀ p, p ∉ ([68, 77, 79] : List Nat) → res.2 p = M p := by
  intro p hp
  unfold f_IR_line_61 at hf
  rcases jif_d hf with ⟨h, hf⟩ | ⟨h, hf⟩
  · obtain rfl := Option.some.inj hf
    exact rfl
  · obtain ⟨q1, hc_1, hf⟩ := jbind hf
    rcases jif_d hf with ⟨h, hf⟩ | ⟨h, hf⟩
    · obtain rfl := Option.some.inj hf
      exact ((w_R_passesSign hc_1 _ (jout hp (by decide : (([68] : List Nat)).all (fun x => (([68, 77, 79] : List Nat)).contains x) = true))).trans rfl)
    · obtain rfl := Option.some.inj hf
      exact ((w_R_passesSign hc_1 _ (jout hp (by decide : (([68] : List Nat)).all (fun x => (([68, 77, 79] : List Nat)).contains x) = true))).trans rfl)
theorem w_IR_line {a1 : Int32} {w : Nat} {M : jp_M} {res : Int32 × jp_M} (hf : f_IR_line a1 w M = some res) : ∀ p, p ∉ ([68, 77, 79] : List Nat) → res.2 p = M p := by
  intro p hp
  unfold f_IR_line at hf
  obtain ⟨q1, hc_1, hf⟩ := jbind hf
  rcases jif_d hf with ⟨h, hf⟩ | ⟨h, hf⟩
  · rcases jif_d hf with ⟨h, hf⟩ | ⟨h, hf⟩
    · obtain ⟨q2, hc_2, hf⟩ := jbind hf
      exact (w_IR_line_61 _ _ _ hf _ hp).trans ((w_IR_petition hc_2 _ (jout hp (by decide : (([68, 77, 79] : List Nat)).all (fun x => (([68, 77, 79] : List Nat)).contains x) = true))).trans ((w_R_passesWord hc_1 _ (jout hp (by decide : (([68] : List Nat)).all (fun x => (([68, 77, 79] : List Nat)).contains x) = true))).trans rfl))
    · rcases jif_d hf with ⟨h, hf⟩ | ⟨h, hf⟩
      · obtain ⟨q3, hc_3, hf⟩ := jbind hf
        exact (w_IR_line_61 _ _ _ hf _ hp).trans ((w_IR_turn hc_3 _ (jout hp (by decide : (([68, 77, 79] : List Nat)).all (fun x => (([68, 77, 79] : List Nat)).contains x) = true))).trans ((w_R_passesWord hc_1 _ (jout hp (by decide : (([68] : List Nat)).all (fun x => (([68, 77, 79] : List Nat)).contains x) = true))).trans rfl))
      · obtain ⟨q4, hc_4, hf⟩ := jbind hf
        exact (w_IR_line_61 _ _ _ hf _ hp).trans ((w_IR_precedent hc_4 _ (jout hp (by decide : (([68, 77, 79] : List Nat)).all (fun x => (([68, 77, 79] : List Nat)).contains x) = true))).trans ((w_R_passesWord hc_1 _ (jout hp (by decide : (([68] : List Nat)).all (fun x => (([68, 77, 79] : List Nat)).contains x) = true))).trans rfl))
  · obtain rfl := Option.some.inj hf
    exact ((w_R_passesWord hc_1 _ (jout hp (by decide : (([68] : List Nat)).all (fun x => (([68, 77, 79] : List Nat)).contains x) = true))).trans rfl)
theorem w_IR_reads_72 {c15 : Int32 → Int32 → Nat → jp_M → Option (Int32 × jp_M)} (hc15 : ∀ (l1 : Int32) (l4 : Int32) (w : Nat) (M : jp_M) (res : Int32 × jp_M), c15 l1 l4 w M = some res → ∀ p, p ∉ ([68, 77, 78, 79] : List Nat) → res.2 p = M p) (l1 : Int32) (l4 : Int32) (w : Nat) (M : jp_M) {res : Int32 × jp_M} (hf : f_IR_reads_72 c15 l1 l4 w M = some res) : ∀ p, p ∉ ([68, 77, 78, 79] : List Nat) → res.2 p = M p := by
  intro p hp
  unfold f_IR_reads_72 at hf
  obtain ⟨q1, hc_1, hf⟩ := jbind hf
  rcases jif_d hf with ⟨h, hf⟩ | ⟨h, hf⟩
  · exact (hc15 _ _ _ _ _ hf _ hp).trans ((jp_set_ne (jne hp (by decide : 78 ∈ ([68, 77, 78, 79] : List Nat)))).trans ((w_IR_line hc_1 _ (jout hp (by decide : (([68, 77, 79] : List Nat)).all (fun x => (([68, 77, 78, 79] : List Nat)).contains x) = true))).trans rfl))
  · obtain rfl := Option.some.inj hf
    exact ((w_IR_line hc_1 _ (jout hp (by decide : (([68, 77, 79] : List Nat)).all (fun x => (([68, 77, 78, 79] : List Nat)).contains x) = true))).trans rfl)
theorem w_IR_reads_26  : ∀ (n : Nat) (l1 : Int32) (l4 : Int32) (w : Nat) (M : jp_M) {res : Int32 × jp_M}, f_IR_reads_26 n  l1 l4 w M = some res → ∀ p, p ∉ ([68, 77, 78, 79] : List Nat) → res.2 p = M p := by
  intro n
  induction n with
  | zero =>
    intro l1 l4 w M res hf
    cases hf
  | succ n ih =>
    intro l1 l4 w M res hf p hp
    rw [f_IR_reads_26] at hf
    rcases jif_d hf with ⟨h, hf⟩ | ⟨h, hf⟩
    · obtain rfl := Option.some.inj hf
      exact rfl
    · rcases jif_d hf with ⟨h, hf⟩ | ⟨h, hf⟩
      · rcases jif_d hf with ⟨h, hf⟩ | ⟨h, hf⟩
        · exact (w_IR_reads_72 (fun l1 l4 w M res hf => ih l1 l4 w M hf) _ _ _ _ hf _ hp).trans rfl
        · rcases jif_d hf with ⟨h, hf⟩ | ⟨h, hf⟩
          · exact (w_IR_reads_72 (fun l1 l4 w M res hf => ih l1 l4 w M hf) _ _ _ _ hf _ hp).trans rfl
          · obtain rfl := Option.some.inj hf
            exact ((w_R_fails rfl _ (jout hp (by decide : (([68] : List Nat)).all (fun x => (([68, 77, 78, 79] : List Nat)).contains x) = true))).trans rfl)
      · obtain rfl := Option.some.inj hf
        exact rfl
theorem w_IR_reads {a1 : Int32} {a2 : Int32} {a3 : Int32} {w : Nat} {M : jp_M} {res : Int32 × jp_M} (hf : f_IR_reads a1 a2 a3 w M = some res) : ∀ p, p ∉ ([68, 77, 78, 79] : List Nat) → res.2 p = M p := by
  intro p hp
  unfold f_IR_reads at hf
  exact (w_IR_reads_26 jFu _ _ _ _ hf _ hp).trans ((jp_set_ne (jne hp (by decide : 77 ∈ ([68, 77, 78, 79] : List Nat)))).trans ((jp_set_ne (jne hp (by decide : 78 ∈ ([68, 77, 78, 79] : List Nat)))).trans ((jp_set_ne (jne hp (by decide : 77 ∈ ([68, 77, 78, 79] : List Nat)))).trans ((jp_set_ne (jne hp (by decide : 77 ∈ ([68, 77, 78, 79] : List Nat)))).trans rfl))))
theorem w_S_becomes {M : jp_M} {res : jp_M} (hf : f_S_becomes M = some res) : ∀ p, p ∉ ([14, 15] : List Nat) → res p = M p := by
  intro p hp
  unfold f_S_becomes at hf
  obtain ⟨hb3, hf⟩ := jg_some hf
  obtain rfl := Option.some.inj hf
  exact ((jp_set_ne (jne hp (by decide : 15 ∈ ([14, 15] : List Nat)))).trans ((jp_set_ne (jne hp (by decide : 14 ∈ ([14, 15] : List Nat)))).trans rfl))
theorem w_A_leases_73 {c18 : Int32 → jp_M → Option (jp_M)} (hc18 : ∀ (l2 : Int32) (M : jp_M) (res : jp_M), c18 l2 M = some res → ∀ p, p ∉ ([1, 16] : List Nat) → res p = M p) (l2 : Int32) (M : jp_M) {res : jp_M} (hf : f_A_leases_73 c18 l2 M = some res) : ∀ p, p ∉ ([1, 16] : List Nat) → res p = M p := by
  intro p hp
  unfold f_A_leases_73 at hf
  exact (hc18 _ _ _ hf _ hp).trans rfl
theorem w_A_leases_31  : ∀ (n : Nat) (l2 : Int32) (M : jp_M) {res : jp_M}, f_A_leases_31 n  l2 M = some res → ∀ p, p ∉ ([1, 16] : List Nat) → res p = M p := by
  intro n
  induction n with
  | zero =>
    intro l2 M res hf
    cases hf
  | succ n ih =>
    intro l2 M res hf p hp
    rw [f_A_leases_31] at hf
    rcases jif_d hf with ⟨h, hf⟩ | ⟨h, hf⟩
    · obtain rfl := Option.some.inj hf
      exact rfl
    · obtain ⟨hb1, hf⟩ := jg_some hf
      rcases jif_d hf with ⟨h, hf⟩ | ⟨h, hf⟩
      · exact (w_A_leases_73 (fun l2 M res hf => ih l2 M hf) _ _ hf _ hp).trans rfl
      · obtain ⟨hb3, hf⟩ := jg_some hf
        obtain ⟨hb5, hf⟩ := jg_some hf
        exact (w_A_leases_73 (fun l2 M res hf => ih l2 M hf) _ _ hf _ hp).trans ((jp_set_ne (jne hp (by decide : 16 ∈ ([1, 16] : List Nat)))).trans rfl)
theorem w_A_leases_10  : ∀ (n : Nat) (l2 : Int32) (M : jp_M) {res : jp_M}, f_A_leases_10 n  l2 M = some res → ∀ p, p ∉ ([1, 16] : List Nat) → res p = M p := by
  intro n
  induction n with
  | zero =>
    intro l2 M res hf
    cases hf
  | succ n ih =>
    intro l2 M res hf p hp
    rw [f_A_leases_10] at hf
    rcases jif_d hf with ⟨h, hf⟩ | ⟨h, hf⟩
    · exact (w_A_leases_31 jFu _ _ hf _ hp).trans rfl
    · obtain ⟨hb2, hf⟩ := jg_some hf
      exact (ih _ _ hf _ hp).trans ((jp_set_ne (jne hp (by decide : 16 ∈ ([1, 16] : List Nat)))).trans rfl)
theorem w_A_leases {M : jp_M} {res : jp_M} (hf : f_A_leases M = some res) : ∀ p, p ∉ ([1, 16] : List Nat) → res p = M p := by
  intro p hp
  unfold f_A_leases at hf
  exact (w_A_leases_10 jFu _ _ hf _ hp).trans ((jp_set_ne (jne hp (by decide : 1 ∈ ([1, 16] : List Nat)))).trans rfl)
theorem w_S_becomes_1 {M : jp_M} {res : jp_M} (hf : f_S_becomes_1 M = some res) : ∀ p, p ∉ ([17, 18] : List Nat) → res p = M p := by
  intro p hp
  unfold f_S_becomes_1 at hf
  obtain ⟨hb3, hf⟩ := jg_some hf
  obtain rfl := Option.some.inj hf
  exact ((jp_set_ne (jne hp (by decide : 18 ∈ ([17, 18] : List Nat)))).trans ((jp_set_ne (jne hp (by decide : 17 ∈ ([17, 18] : List Nat)))).trans rfl))
theorem w_A_isTold {a1 : Int32} {M : jp_M} {res : jp_M} (hf : f_A_isTold a1 M = some res) : ∀ p, p ∉ ([1, 14, 15, 16, 17, 18] : List Nat) → res p = M p := by
  intro p hp
  unfold f_A_isTold at hf
  rcases jif_d hf with ⟨h, hf⟩ | ⟨h, hf⟩
  · rcases jif_d hf with ⟨h, hf⟩ | ⟨h, hf⟩
    · obtain ⟨q1, hc_1, hf⟩ := jbind hf
      obtain rfl := Option.some.inj hf
      exact ((w_S_becomes_1 hc_1 _ (jout hp (by decide : (([17, 18] : List Nat)).all (fun x => (([1, 14, 15, 16, 17, 18] : List Nat)).contains x) = true))).trans rfl)
    · obtain ⟨q2, hc_2, hf⟩ := jbind hf
      obtain rfl := Option.some.inj hf
      exact ((w_A_leases hc_2 _ (jout hp (by decide : (([1, 16] : List Nat)).all (fun x => (([1, 14, 15, 16, 17, 18] : List Nat)).contains x) = true))).trans rfl)
  · obtain ⟨q3, hc_3, hf⟩ := jbind hf
    obtain rfl := Option.some.inj hf
    exact ((w_S_becomes hc_3 _ (jout hp (by decide : (([14, 15] : List Nat)).all (fun x => (([1, 14, 15, 16, 17, 18] : List Nat)).contains x) = true))).trans rfl)
theorem w_C_use {a1 : Int32} {a2 : Int32} {M : jp_M} {res : Int32 × jp_M} (hf : f_C_use a1 a2 M = some res) : ∀ p, p ∉ ([12, 13] : List Nat) → res.2 p = M p := by
  intro p hp
  unfold f_C_use at hf
  rcases jif_d hf with ⟨h, hf⟩ | ⟨h, hf⟩
  · obtain rfl := Option.some.inj hf
    exact rfl
  · rcases jif_d hf with ⟨h, hf⟩ | ⟨h, hf⟩
    · obtain rfl := Option.some.inj hf
      exact rfl
    · rcases jif_d hf with ⟨h, hf⟩ | ⟨h, hf⟩
      · rcases jif_d hf with ⟨h, hf⟩ | ⟨h, hf⟩
        · obtain ⟨q2, hc_2, hf⟩ := jbind hf
          obtain rfl := Option.some.inj hf
          exact ((w_L_tells_1 hc_2 _ (jout hp (by decide : (([12, 13] : List Nat)).all (fun x => (([12, 13] : List Nat)).contains x) = true))).trans rfl)
        · obtain ⟨hb3, hf⟩ := jg_some hf
          obtain rfl := Option.some.inj hf
          exact rfl
      · obtain rfl := Option.some.inj hf
        exact rfl
theorem w_C_would {a1 : Int32} {a2 : Int32} {a3 : Int32} {a4 : Int32} {a5 : Int32} {M : jp_M} {res : Int32 × jp_M} (hf : f_C_would a1 a2 a3 a4 a5 M = some res) : ∀ p, p ∉ ([12, 13, 55] : List Nat) → res.2 p = M p := by
  intro p hp
  unfold f_C_would at hf
  rcases jif_d hf with ⟨h, hf⟩ | ⟨h, hf⟩
  · obtain ⟨q2, hc_2, hf⟩ := jbind hf
    obtain ⟨q3, hc_3, hf⟩ := jbind hf
    rcases jif_d hf with ⟨h, hf⟩ | ⟨h, hf⟩
    · obtain rfl := Option.some.inj hf
      exact ((w_L_tells hc_2 _ (jout hp (by decide : (([12, 13] : List Nat)).all (fun x => (([12, 13, 55] : List Nat)).contains x) = true))).trans ((w_K_wants rfl _ (jout hp (by decide : (([55] : List Nat)).all (fun x => (([12, 13, 55] : List Nat)).contains x) = true))).trans rfl))
    · obtain rfl := Option.some.inj hf
      exact ((w_L_tells hc_2 _ (jout hp (by decide : (([12, 13] : List Nat)).all (fun x => (([12, 13, 55] : List Nat)).contains x) = true))).trans ((w_K_wants rfl _ (jout hp (by decide : (([55] : List Nat)).all (fun x => (([12, 13, 55] : List Nat)).contains x) = true))).trans rfl))
  · obtain rfl := Option.some.inj hf
    exact ((w_K_wants rfl _ (jout hp (by decide : (([55] : List Nat)).all (fun x => (([12, 13, 55] : List Nat)).contains x) = true))).trans rfl)
theorem w_W_becomes_6 {M : jp_M} {res : jp_M} (hf : f_W_becomes_6 M = res) : ∀ p, p ∉ ([50, 51, 52, 53] : List Nat) → res p = M p := by
  intro p hp
  unfold f_W_becomes_6 at hf
  subst hf
  exact ((jp_set_ne (jne hp (by decide : 53 ∈ ([50, 51, 52, 53] : List Nat)))).trans ((jp_set_ne (jne hp (by decide : 52 ∈ ([50, 51, 52, 53] : List Nat)))).trans ((jp_set_ne (jne hp (by decide : 51 ∈ ([50, 51, 52, 53] : List Nat)))).trans ((jp_set_ne (jne hp (by decide : 50 ∈ ([50, 51, 52, 53] : List Nat)))).trans ((jp_set_ne (jne hp (by decide : 50 ∈ ([50, 51, 52, 53] : List Nat)))).trans ((jp_set_ne (jne hp (by decide : 50 ∈ ([50, 51, 52, 53] : List Nat)))).trans ((jp_set_ne (jne hp (by decide : 50 ∈ ([50, 51, 52, 53] : List Nat)))).trans ((jp_set_ne (jne hp (by decide : 50 ∈ ([50, 51, 52, 53] : List Nat)))).trans ((jp_set_ne (jne hp (by decide : 50 ∈ ([50, 51, 52, 53] : List Nat)))).trans ((jp_set_ne (jne hp (by decide : 50 ∈ ([50, 51, 52, 53] : List Nat)))).trans ((jp_set_ne (jne hp (by decide : 50 ∈ ([50, 51, 52, 53] : List Nat)))).trans rfl)))))))))))
theorem w_W_becomes_7 {M : jp_M} {res : jp_M} (hf : f_W_becomes_7 M = res) : ∀ p, p ∉ ([2, 3, 4, 5] : List Nat) → res p = M p := by
  intro p hp
  unfold f_W_becomes_7 at hf
  subst hf
  exact ((jp_set_ne (jne hp (by decide : 5 ∈ ([2, 3, 4, 5] : List Nat)))).trans ((jp_set_ne (jne hp (by decide : 4 ∈ ([2, 3, 4, 5] : List Nat)))).trans ((jp_set_ne (jne hp (by decide : 3 ∈ ([2, 3, 4, 5] : List Nat)))).trans ((jp_set_ne (jne hp (by decide : 2 ∈ ([2, 3, 4, 5] : List Nat)))).trans ((jp_set_ne (jne hp (by decide : 2 ∈ ([2, 3, 4, 5] : List Nat)))).trans ((jp_set_ne (jne hp (by decide : 2 ∈ ([2, 3, 4, 5] : List Nat)))).trans ((jp_set_ne (jne hp (by decide : 2 ∈ ([2, 3, 4, 5] : List Nat)))).trans ((jp_set_ne (jne hp (by decide : 2 ∈ ([2, 3, 4, 5] : List Nat)))).trans ((jp_set_ne (jne hp (by decide : 2 ∈ ([2, 3, 4, 5] : List Nat)))).trans ((jp_set_ne (jne hp (by decide : 2 ∈ ([2, 3, 4, 5] : List Nat)))).trans ((jp_set_ne (jne hp (by decide : 2 ∈ ([2, 3, 4, 5] : List Nat)))).trans rfl)))))))))))
theorem w_C_goes_41  : ∀ (n : Nat) (l1 : Int32) (l2 : Int32) (l3 : Int32) (M : jp_M) {res : Int32 × jp_M}, f_C_goes_41 n  l1 l2 l3 M = some res → ∀ p, p ∉ ([2, 3, 4, 5, 6, 12, 13, 50, 51, 52, 53, 54, 55] : List Nat) → res.2 p = M p := by
  intro n
  induction n with
  | zero =>
    intro l1 l2 l3 M res hf
    cases hf
  | succ n ih =>
    intro l1 l2 l3 M res hf p hp
    rw [f_C_goes_41] at hf
    rcases jif_d hf with ⟨h, hf⟩ | ⟨h, hf⟩
    · obtain ⟨q1, hc_1, hf⟩ := jbind hf
      obtain rfl := Option.some.inj hf
      exact ((w_W_becomes_7 rfl _ (jout hp (by decide : (([2, 3, 4, 5] : List Nat)).all (fun x => (([2, 3, 4, 5, 6, 12, 13, 50, 51, 52, 53, 54, 55] : List Nat)).contains x) = true))).trans ((jp_set_ne (jne hp (by decide : 54 ∈ ([2, 3, 4, 5, 6, 12, 13, 50, 51, 52, 53, 54, 55] : List Nat)))).trans rfl))
    · obtain ⟨q4, hc_4, hf⟩ := jbind hf
      exact (ih _ _ _ _ hf _ hp).trans ((w_K_passesDay hc_4 _ (jout hp (by decide : (([2, 3, 4, 5, 6, 12, 13, 55] : List Nat)).all (fun x => (([2, 3, 4, 5, 6, 12, 13, 50, 51, 52, 53, 54, 55] : List Nat)).contains x) = true))).trans rfl)
theorem w_C_goes {a1 : Int32} {a2 : Int32} {M : jp_M} {res : Int32 × jp_M} (hf : f_C_goes a1 a2 M = some res) : ∀ p, p ∉ ([2, 3, 4, 5, 6, 12, 13, 50, 51, 52, 53, 54, 55] : List Nat) → res.2 p = M p := by
  intro p hp
  unfold f_C_goes at hf
  rcases jif_d hf with ⟨h, hf⟩ | ⟨h, hf⟩
  · obtain rfl := Option.some.inj hf
    exact rfl
  · rcases jif_d hf with ⟨h, hf⟩ | ⟨h, hf⟩
    · exact (w_C_goes_41 jFu _ _ _ _ hf _ hp).trans ((jp_set_ne (jne hp (by decide : 54 ∈ ([2, 3, 4, 5, 6, 12, 13, 50, 51, 52, 53, 54, 55] : List Nat)))).trans ((w_W_becomes_6 rfl _ (jout hp (by decide : (([50, 51, 52, 53] : List Nat)).all (fun x => (([2, 3, 4, 5, 6, 12, 13, 50, 51, 52, 53, 54, 55] : List Nat)).contains x) = true))).trans rfl))
    · obtain rfl := Option.some.inj hf
      exact rfl
theorem w_T_learnsFree_2  : ∀ (n : Nat) (l1 : Int32) (M : jp_M) {res : jp_M}, f_T_learnsFree_2 n  l1 M = some res → ∀ p, p ∉ ([57] : List Nat) → res p = M p := by
  intro n
  induction n with
  | zero =>
    intro l1 M res hf
    cases hf
  | succ n ih =>
    intro l1 M res hf p hp
    rw [f_T_learnsFree_2] at hf
    rcases jif_d hf with ⟨h, hf⟩ | ⟨h, hf⟩
    · obtain rfl := Option.some.inj hf
      exact rfl
    · obtain ⟨q1, hc_1, hf⟩ := jbind hf
      obtain ⟨hb3, hf⟩ := jg_some hf
      exact (ih _ _ hf _ hp).trans ((jp_set_ne (jne hp (by decide : 57 ∈ ([57] : List Nat)))).trans rfl)
theorem w_T_learnsFree {M : jp_M} {res : jp_M} (hf : f_T_learnsFree M = some res) : ∀ p, p ∉ ([57] : List Nat) → res p = M p := by
  intro p hp
  unfold f_T_learnsFree at hf
  exact (w_T_learnsFree_2 jFu _ _ hf _ hp).trans rfl
theorem w_T_reaches_74  (l1 : Int32) (l4 : Int32) (M : jp_M) {res : jp_M} (hf : f_T_reaches_74  l1 l4 M = some res) : ∀ p, p ∉ ([56, 58, 59, 60] : List Nat) → res p = M p := by
  intro p hp
  unfold f_T_reaches_74 at hf
  obtain ⟨hb1, hf⟩ := jg_some hf
  obtain ⟨hb2, hf⟩ := jg_some hf
  rcases jif_d hf with ⟨h, hf⟩ | ⟨h, hf⟩
  · obtain rfl := Option.some.inj hf
    exact rfl
  · obtain ⟨hb3, hf⟩ := jg_some hf
    obtain ⟨hb4, hf⟩ := jg_some hf
    obtain ⟨hb6, hf⟩ := jg_some hf
    obtain rfl := Option.some.inj hf
    exact ((jp_set_ne (jne hp (by decide : 59 ∈ ([56, 58, 59, 60] : List Nat)))).trans rfl)
theorem w_T_reaches {a1 : Int32} {a2 : Int32} {a3 : Int32} {M : jp_M} {res : jp_M} (hf : f_T_reaches a1 a2 a3 M = some res) : ∀ p, p ∉ ([56, 58, 59, 60] : List Nat) → res p = M p := by
  intro p hp
  unfold f_T_reaches at hf
  obtain ⟨q1, hc_1, hf⟩ := jbind hf
  rcases jif_d hf with ⟨h, hf⟩ | ⟨h, hf⟩
  · obtain ⟨hb2, hf⟩ := jg_some hf
    rcases jif_d hf with ⟨h, hf⟩ | ⟨h, hf⟩
    · exact (w_T_reaches_74 _ _ _ hf _ hp).trans rfl
    · rcases jif_d hf with ⟨h, hf⟩ | ⟨h, hf⟩
      · exact (w_T_reaches_74 _ _ _ hf _ hp).trans rfl
      · obtain ⟨hb3, hf⟩ := jg_some hf
        obtain ⟨hb5, hf⟩ := jg_some hf
        obtain ⟨hb7, hf⟩ := jg_some hf
        exact (w_T_reaches_74 _ _ _ hf _ hp).trans ((jp_set_ne (jne hp (by decide : 56 ∈ ([56, 58, 59, 60] : List Nat)))).trans ((jp_set_ne (jne hp (by decide : 60 ∈ ([56, 58, 59, 60] : List Nat)))).trans ((jp_set_ne (jne hp (by decide : 58 ∈ ([56, 58, 59, 60] : List Nat)))).trans rfl)))
  · obtain rfl := Option.some.inj hf
    exact rfl
theorem w_T_walks_234  (l4 : Int32) (M : jp_M) {res : Int32 × jp_M} (hf : f_T_walks_234  l4 M = some res) : ∀ p, p ∉ ([56, 57, 58, 59, 60] : List Nat) → res.2 p = M p := by
  intro p hp
  unfold f_T_walks_234 at hf
  obtain ⟨hb1, hf⟩ := jg_some hf
  obtain ⟨hb3, hf⟩ := jg_some hf
  rcases jif_d hf with ⟨h, hf⟩ | ⟨h, hf⟩
  · obtain rfl := Option.some.inj hf
    exact ((jp_set_ne (jne hp (by decide : 56 ∈ ([56, 57, 58, 59, 60] : List Nat)))).trans ((jp_set_ne (jne hp (by decide : 56 ∈ ([56, 57, 58, 59, 60] : List Nat)))).trans rfl))
  · obtain rfl := Option.some.inj hf
    exact ((jp_set_ne (jne hp (by decide : 56 ∈ ([56, 57, 58, 59, 60] : List Nat)))).trans ((jp_set_ne (jne hp (by decide : 56 ∈ ([56, 57, 58, 59, 60] : List Nat)))).trans rfl))
theorem w_T_walks_120  : ∀ (n : Nat) (l4 : Int32) (l5 : Int32) (M : jp_M) {res : Int32 × jp_M}, f_T_walks_120 n  l4 l5 M = some res → ∀ p, p ∉ ([56, 57, 58, 59, 60] : List Nat) → res.2 p = M p := by
  intro n
  induction n with
  | zero =>
    intro l4 l5 M res hf
    cases hf
  | succ n ih =>
    intro l4 l5 M res hf p hp
    rw [f_T_walks_120] at hf
    rcases jif_d hf with ⟨h, hf⟩ | ⟨h, hf⟩
    · exact (w_T_walks_234 _ _ hf _ hp).trans rfl
    · rcases jif_d hf with ⟨h, hf⟩ | ⟨h, hf⟩
      · exact (w_T_walks_234 _ _ hf _ hp).trans rfl
      · obtain ⟨hb1, hf⟩ := jg_some hf
        obtain ⟨hb2, hf⟩ := jg_some hf
        obtain ⟨hb3, hf⟩ := jg_some hf
        obtain ⟨q4, hc_4, hf⟩ := jbind hf
        obtain ⟨hb5, hf⟩ := jg_some hf
        obtain ⟨q6, hc_6, hf⟩ := jbind hf
        obtain ⟨hb7, hf⟩ := jg_some hf
        obtain ⟨q8, hc_8, hf⟩ := jbind hf
        obtain ⟨hb9, hf⟩ := jg_some hf
        obtain ⟨q10, hc_10, hf⟩ := jbind hf
        exact (ih _ _ _ hf _ hp).trans ((w_T_reaches hc_10 _ (jout hp (by decide : (([56, 58, 59, 60] : List Nat)).all (fun x => (([56, 57, 58, 59, 60] : List Nat)).contains x) = true))).trans ((w_T_reaches hc_8 _ (jout hp (by decide : (([56, 58, 59, 60] : List Nat)).all (fun x => (([56, 57, 58, 59, 60] : List Nat)).contains x) = true))).trans ((w_T_reaches hc_6 _ (jout hp (by decide : (([56, 58, 59, 60] : List Nat)).all (fun x => (([56, 57, 58, 59, 60] : List Nat)).contains x) = true))).trans ((w_T_reaches hc_4 _ (jout hp (by decide : (([56, 58, 59, 60] : List Nat)).all (fun x => (([56, 57, 58, 59, 60] : List Nat)).contains x) = true))).trans rfl))))
theorem w_T_walks_38  : ∀ (n : Nat) (l1 : Int32) (l2 : Int32) (l3 : Int32) (M : jp_M) {res : Int32 × jp_M}, f_T_walks_38 n  l1 l2 l3 M = some res → ∀ p, p ∉ ([56, 57, 58, 59, 60] : List Nat) → res.2 p = M p := by
  intro n
  induction n with
  | zero =>
    intro l1 l2 l3 M res hf
    cases hf
  | succ n ih =>
    intro l1 l2 l3 M res hf p hp
    rw [f_T_walks_38] at hf
    rcases jif_d hf with ⟨h, hf⟩ | ⟨h, hf⟩
    · obtain ⟨hb2, hf⟩ := jg_some hf
      obtain ⟨hb4, hf⟩ := jg_some hf
      exact (w_T_walks_120 jFu _ _ _ hf _ hp).trans ((jp_set_ne (jne hp (by decide : 56 ∈ ([56, 57, 58, 59, 60] : List Nat)))).trans ((jp_set_ne (jne hp (by decide : 60 ∈ ([56, 57, 58, 59, 60] : List Nat)))).trans ((jp_set_ne (jne hp (by decide : 59 ∈ ([56, 57, 58, 59, 60] : List Nat)))).trans ((jp_set_ne (jne hp (by decide : 58 ∈ ([56, 57, 58, 59, 60] : List Nat)))).trans rfl))))
    · obtain ⟨hb8, hf⟩ := jg_some hf
      obtain ⟨hb10, hf⟩ := jg_some hf
      exact (ih _ _ _ _ hf _ hp).trans ((jp_set_ne (jne hp (by decide : 59 ∈ ([56, 57, 58, 59, 60] : List Nat)))).trans ((jp_set_ne (jne hp (by decide : 58 ∈ ([56, 57, 58, 59, 60] : List Nat)))).trans rfl))
theorem w_T_walks {a1 : Int32} {a2 : Int32} {M : jp_M} {res : Int32 × jp_M} (hf : f_T_walks a1 a2 M = some res) : ∀ p, p ∉ ([56, 57, 58, 59, 60] : List Nat) → res.2 p = M p := by
  intro p hp
  unfold f_T_walks at hf
  obtain ⟨q1, hc_1, hf⟩ := jbind hf
  obtain ⟨q2, hc_2, hf⟩ := jbind hf
  rcases jif_d hf with ⟨h, hf⟩ | ⟨h, hf⟩
  · obtain rfl := Option.some.inj hf
    exact ((w_T_learnsFree hc_1 _ (jout hp (by decide : (([57] : List Nat)).all (fun x => (([56, 57, 58, 59, 60] : List Nat)).contains x) = true))).trans rfl)
  · obtain ⟨q3, hc_3, hf⟩ := jbind hf
    rcases jif_d hf with ⟨h, hf⟩ | ⟨h, hf⟩
    · exact (w_T_walks_38 jFu _ _ _ _ hf _ hp).trans ((w_T_learnsFree hc_1 _ (jout hp (by decide : (([57] : List Nat)).all (fun x => (([56, 57, 58, 59, 60] : List Nat)).contains x) = true))).trans rfl)
    · obtain rfl := Option.some.inj hf
      exact ((w_T_learnsFree hc_1 _ (jout hp (by decide : (([57] : List Nat)).all (fun x => (([56, 57, 58, 59, 60] : List Nat)).contains x) = true))).trans rfl)
theorem w_C_through {a1 : Int32} {a2 : Int32} {a3 : Int32} {M : jp_M} {res : Int32 × jp_M} (hf : f_C_through a1 a2 a3 M = some res) : ∀ p, p ∉ ([56, 57, 58, 59, 60] : List Nat) → res.2 p = M p := by
  intro p hp
  unfold f_C_through at hf
  rcases jif_d hf with ⟨h, hf⟩ | ⟨h, hf⟩
  · obtain rfl := Option.some.inj hf
    exact rfl
  · rcases jif_d hf with ⟨h, hf⟩ | ⟨h, hf⟩
    · obtain rfl := Option.some.inj hf
      exact rfl
    · rcases jif_d hf with ⟨h, hf⟩ | ⟨h, hf⟩
      · obtain rfl := Option.some.inj hf
        exact rfl
      · obtain ⟨q4, hc_4, hf⟩ := jbind hf
        rcases jif_d hf with ⟨h, hf⟩ | ⟨h, hf⟩
        · rcases jif_d hf with ⟨h, hf⟩ | ⟨h, hf⟩
          · obtain rfl := Option.some.inj hf
            exact ((w_T_walks hc_4 _ (jout hp (by decide : (([56, 57, 58, 59, 60] : List Nat)).all (fun x => (([56, 57, 58, 59, 60] : List Nat)).contains x) = true))).trans rfl)
          · obtain rfl := Option.some.inj hf
            exact ((w_T_walks hc_4 _ (jout hp (by decide : (([56, 57, 58, 59, 60] : List Nat)).all (fun x => (([56, 57, 58, 59, 60] : List Nat)).contains x) = true))).trans rfl)
        · obtain rfl := Option.some.inj hf
          exact ((w_T_walks hc_4 _ (jout hp (by decide : (([56, 57, 58, 59, 60] : List Nat)).all (fun x => (([56, 57, 58, 59, 60] : List Nat)).contains x) = true))).trans rfl)
theorem w_T_widensFrom_64 {c4 : Int32 → Int32 → Int32 → Int32 → jp_M → Option (jp_M)} (hc4 : ∀ (l1 : Int32) (l2 : Int32) (l3 : Int32) (l4 : Int32) (M : jp_M) (res : jp_M), c4 l1 l2 l3 l4 M = some res → ∀ p, p ∉ ([56] : List Nat) → res p = M p) (l1 : Int32) (l2 : Int32) (l3 : Int32) (l4 : Int32) (M : jp_M) {res : jp_M} (hf : f_T_widensFrom_64 c4 l1 l2 l3 l4 M = some res) : ∀ p, p ∉ ([56] : List Nat) → res p = M p := by
  intro p hp
  unfold f_T_widensFrom_64 at hf
  exact (hc4 _ _ _ _ _ _ hf _ hp).trans rfl
theorem w_T_widensFrom_6  : ∀ (n : Nat) (l1 : Int32) (l2 : Int32) (l3 : Int32) (l4 : Int32) (M : jp_M) {res : jp_M}, f_T_widensFrom_6 n  l1 l2 l3 l4 M = some res → ∀ p, p ∉ ([56] : List Nat) → res p = M p := by
  intro n
  induction n with
  | zero =>
    intro l1 l2 l3 l4 M res hf
    cases hf
  | succ n ih =>
    intro l1 l2 l3 l4 M res hf p hp
    rw [f_T_widensFrom_6] at hf
    rcases jif_d hf with ⟨h, hf⟩ | ⟨h, hf⟩
    · obtain rfl := Option.some.inj hf
      exact rfl
    · rcases jif_d hf with ⟨h, hf⟩ | ⟨h, hf⟩
      · obtain rfl := Option.some.inj hf
        exact rfl
      · obtain ⟨q1, hc_1, hf⟩ := jbind hf
        rcases jif_d hf with ⟨h, hf⟩ | ⟨h, hf⟩
        · exact (w_T_widensFrom_64 (fun l1 l2 l3 l4 M res hf => ih l1 l2 l3 l4 M hf) _ _ _ _ _ hf _ hp).trans rfl
        · exact (w_T_widensFrom_64 (fun l1 l2 l3 l4 M res hf => ih l1 l2 l3 l4 M hf) _ _ _ _ _ hf _ hp).trans ((jp_set_ne (jne hp (by decide : 56 ∈ ([56] : List Nat)))).trans ((jp_set_ne (jne hp (by decide : 56 ∈ ([56] : List Nat)))).trans rfl))
theorem w_T_widensFrom {a1 : Int32} {a2 : Int32} {M : jp_M} {res : jp_M} (hf : f_T_widensFrom a1 a2 M = some res) : ∀ p, p ∉ ([56] : List Nat) → res p = M p := by
  intro p hp
  unfold f_T_widensFrom at hf
  exact (w_T_widensFrom_6 jFu _ _ _ _ _ hf _ hp).trans rfl
theorem w_T_widens_24 {c10 : Int32 → jp_M → Option (jp_M)} (hc10 : ∀ (l1 : Int32) (M : jp_M) (res : jp_M), c10 l1 M = some res → ∀ p, p ∉ ([56, 57] : List Nat) → res p = M p) : ∀ (n : Nat) (l1 : Int32) (l2 : Int32) (M : jp_M) {res : jp_M}, f_T_widens_24 n c10 l1 l2 M = some res → ∀ p, p ∉ ([56, 57] : List Nat) → res p = M p := by
  intro n
  induction n with
  | zero =>
    intro l1 l2 M res hf
    cases hf
  | succ n ih =>
    intro l1 l2 M res hf p hp
    rw [f_T_widens_24] at hf
    rcases jif_d hf with ⟨h, hf⟩ | ⟨h, hf⟩
    · exact (hc10 _ _ _ hf _ hp).trans rfl
    · obtain ⟨q1, hc_1, hf⟩ := jbind hf
      exact (ih _ _ _ hf _ hp).trans ((w_T_widensFrom hc_1 _ (jout hp (by decide : (([56] : List Nat)).all (fun x => (([56, 57] : List Nat)).contains x) = true))).trans rfl)
theorem w_T_widens_16  : ∀ (n : Nat) (l1 : Int32) (M : jp_M) {res : jp_M}, f_T_widens_16 n  l1 M = some res → ∀ p, p ∉ ([56, 57] : List Nat) → res p = M p := by
  intro n
  induction n with
  | zero =>
    intro l1 M res hf
    cases hf
  | succ n ih =>
    intro l1 M res hf p hp
    rw [f_T_widens_16] at hf
    rcases jif_d hf with ⟨h, hf⟩ | ⟨h, hf⟩
    · obtain rfl := Option.some.inj hf
      exact rfl
    · exact (w_T_widens_24 (fun l1 M res hf => ih l1 M hf) jFu _ _ _ hf _ hp).trans rfl
theorem w_T_widens {M : jp_M} {res : jp_M} (hf : f_T_widens M = some res) : ∀ p, p ∉ ([56, 57] : List Nat) → res p = M p := by
  intro p hp
  unfold f_T_widens at hf
  obtain ⟨q1, hc_1, hf⟩ := jbind hf
  exact (w_T_widens_16 jFu _ _ hf _ hp).trans ((jp_set_ne (jne hp (by decide : 56 ∈ ([56, 57] : List Nat)))).trans ((jp_set_ne (jne hp (by decide : 56 ∈ ([56, 57] : List Nat)))).trans ((w_T_learnsFree hc_1 _ (jout hp (by decide : (([57] : List Nat)).all (fun x => (([56, 57] : List Nat)).contains x) = true))).trans rfl)))
theorem w_C_wide {a1 : Int32} {M : jp_M} {res : Int32 × jp_M} (hf : f_C_wide a1 M = some res) : ∀ p, p ∉ ([56, 57] : List Nat) → res.2 p = M p := by
  intro p hp
  unfold f_C_wide at hf
  rcases jif_d hf with ⟨h, hf⟩ | ⟨h, hf⟩
  · obtain ⟨q2, hc_2, hf⟩ := jbind hf
    rcases jif_d hf with ⟨h, hf⟩ | ⟨h, hf⟩
    · obtain rfl := Option.some.inj hf
      exact ((w_T_widens hc_2 _ (jout hp (by decide : (([56, 57] : List Nat)).all (fun x => (([56, 57] : List Nat)).contains x) = true))).trans rfl)
    · obtain rfl := Option.some.inj hf
      exact ((w_T_widens hc_2 _ (jout hp (by decide : (([56, 57] : List Nat)).all (fun x => (([56, 57] : List Nat)).contains x) = true))).trans rfl)
  · obtain rfl := Option.some.inj hf
    exact rfl
theorem w_C_wish {a1 : Int32} {a2 : Int32} {a3 : Int32} {M : jp_M} {res : Int32 × jp_M} (hf : f_C_wish a1 a2 a3 M = some res) : ∀ p, p ∉ ([19, 20] : List Nat) → res.2 p = M p := by
  intro p hp
  unfold f_C_wish at hf
  rcases jif_d hf with ⟨h, hf⟩ | ⟨h, hf⟩
  · rcases jif_d hf with ⟨h, hf⟩ | ⟨h, hf⟩
    · obtain rfl := Option.some.inj hf
      exact rfl
    · rcases jif_d hf with ⟨h, hf⟩ | ⟨h, hf⟩
      · obtain rfl := Option.some.inj hf
        exact rfl
      · rcases jif_d hf with ⟨h, hf⟩ | ⟨h, hf⟩
        · obtain rfl := Option.some.inj hf
          exact rfl
        · rcases jif_d hf with ⟨h, hf⟩ | ⟨h, hf⟩
          · obtain rfl := Option.some.inj hf
            exact rfl
          · rcases jif_d hf with ⟨h, hf⟩ | ⟨h, hf⟩
            · obtain ⟨hb4, hf⟩ := jg_some hf
              obtain ⟨hb6, hf⟩ := jg_some hf
              obtain ⟨hb8, hf⟩ := jg_some hf
              obtain rfl := Option.some.inj hf
              exact ((jp_set_ne (jne hp (by decide : 19 ∈ ([19, 20] : List Nat)))).trans ((jp_set_ne (jne hp (by decide : 20 ∈ ([19, 20] : List Nat)))).trans ((jp_set_ne (jne hp (by decide : 20 ∈ ([19, 20] : List Nat)))).trans ((jp_set_ne (jne hp (by decide : 20 ∈ ([19, 20] : List Nat)))).trans rfl))))
            · obtain rfl := Option.some.inj hf
              exact rfl
  · obtain rfl := Option.some.inj hf
    exact ((jp_set_ne (jne hp (by decide : 19 ∈ ([19, 20] : List Nat)))).trans rfl)
theorem w_TT_learnsClashes_63 {c2 : Int32 → jp_M → Option (jp_M)} (hc2 : ∀ (l1 : Int32) (M : jp_M) (res : jp_M), c2 l1 M = some res → ∀ p, p ∉ ([62] : List Nat) → res p = M p) {c14 : Int32 → Int32 → jp_M → Option (jp_M)} (hc14 : ∀ (l1 : Int32) (l2 : Int32) (M : jp_M) (res : jp_M), c14 l1 l2 M = some res → ∀ p, p ∉ ([62] : List Nat) → res p = M p) (l1 : Int32) (l2 : Int32) (M : jp_M) {res : jp_M} (hf : f_TT_learnsClashes_63 c2 c14 l1 l2 M = some res) : ∀ p, p ∉ ([62] : List Nat) → res p = M p := by
  intro p hp
  unfold f_TT_learnsClashes_63 at hf
  exact (hc14 _ _ _ _ hf _ hp).trans rfl
theorem w_TT_learnsClashes_22 {c2 : Int32 → jp_M → Option (jp_M)} (hc2 : ∀ (l1 : Int32) (M : jp_M) (res : jp_M), c2 l1 M = some res → ∀ p, p ∉ ([62] : List Nat) → res p = M p) : ∀ (n : Nat) (l1 : Int32) (l2 : Int32) (M : jp_M) {res : jp_M}, f_TT_learnsClashes_22 n c2 l1 l2 M = some res → ∀ p, p ∉ ([62] : List Nat) → res p = M p := by
  intro n
  induction n with
  | zero =>
    intro l1 l2 M res hf
    cases hf
  | succ n ih =>
    intro l1 l2 M res hf p hp
    rw [f_TT_learnsClashes_22] at hf
    rcases jif_d hf with ⟨h, hf⟩ | ⟨h, hf⟩
    · exact (hc2 _ _ _ hf _ hp).trans rfl
    · rcases jif_d hf with ⟨h, hf⟩ | ⟨h, hf⟩
      · exact (w_TT_learnsClashes_63 hc2 (fun l1 l2 M res hf => ih l1 l2 M hf) _ _ _ hf _ hp).trans rfl
      · obtain ⟨q1, hc_1, hf⟩ := jbind hf
        rcases jif_d hf with ⟨h, hf⟩ | ⟨h, hf⟩
        · exact (w_TT_learnsClashes_63 hc2 (fun l1 l2 M res hf => ih l1 l2 M hf) _ _ _ hf _ hp).trans rfl
        · obtain ⟨hb2, hf⟩ := jg_some hf
          obtain ⟨hb4, hf⟩ := jg_some hf
          exact (w_TT_learnsClashes_63 hc2 (fun l1 l2 M res hf => ih l1 l2 M hf) _ _ _ hf _ hp).trans ((jp_set_ne (jne hp (by decide : 62 ∈ ([62] : List Nat)))).trans rfl)
theorem w_TT_learnsClashes_2  : ∀ (n : Nat) (l1 : Int32) (M : jp_M) {res : jp_M}, f_TT_learnsClashes_2 n  l1 M = some res → ∀ p, p ∉ ([62] : List Nat) → res p = M p := by
  intro n
  induction n with
  | zero =>
    intro l1 M res hf
    cases hf
  | succ n ih =>
    intro l1 M res hf p hp
    rw [f_TT_learnsClashes_2] at hf
    rcases jif_d hf with ⟨h, hf⟩ | ⟨h, hf⟩
    · obtain rfl := Option.some.inj hf
      exact rfl
    · obtain ⟨hb2, hf⟩ := jg_some hf
      exact (w_TT_learnsClashes_22 (fun l1 M res hf => ih l1 M hf) jFu _ _ _ hf _ hp).trans ((jp_set_ne (jne hp (by decide : 62 ∈ ([62] : List Nat)))).trans rfl)
theorem w_TT_learnsClashes {M : jp_M} {res : jp_M} (hf : f_TT_learnsClashes M = some res) : ∀ p, p ∉ ([62] : List Nat) → res p = M p := by
  intro p hp
  unfold f_TT_learnsClashes at hf
  exact (w_TT_learnsClashes_2 jFu _ _ hf _ hp).trans rfl
theorem w_TT_choosesWishes_53 {c10 : Int32 → jp_M → Option (jp_M)} (hc10 : ∀ (l1 : Int32) (M : jp_M) (res : jp_M), c10 l1 M = some res → ∀ p, p ∉ ([61, 62] : List Nat) → res p = M p) (l1 : Int32) (M : jp_M) {res : jp_M} (hf : f_TT_choosesWishes_53 c10 l1 M = some res) : ∀ p, p ∉ ([61, 62] : List Nat) → res p = M p := by
  intro p hp
  unfold f_TT_choosesWishes_53 at hf
  exact (hc10 _ _ _ hf _ hp).trans rfl
theorem w_TT_choosesWishes_16  : ∀ (n : Nat) (l1 : Int32) (M : jp_M) {res : jp_M}, f_TT_choosesWishes_16 n  l1 M = some res → ∀ p, p ∉ ([61, 62] : List Nat) → res p = M p := by
  intro n
  induction n with
  | zero =>
    intro l1 M res hf
    cases hf
  | succ n ih =>
    intro l1 M res hf p hp
    rw [f_TT_choosesWishes_16] at hf
    rcases jif_d hf with ⟨h, hf⟩ | ⟨h, hf⟩
    · obtain rfl := Option.some.inj hf
      exact rfl
    · obtain ⟨q1, hc_1, hf⟩ := jbind hf
      rcases jif_d hf with ⟨h, hf⟩ | ⟨h, hf⟩
      · exact (w_TT_choosesWishes_53 (fun l1 M res hf => ih l1 M hf) _ _ hf _ hp).trans rfl
      · exact (w_TT_choosesWishes_53 (fun l1 M res hf => ih l1 M hf) _ _ hf _ hp).trans ((jp_set_ne (jne hp (by decide : 61 ∈ ([61, 62] : List Nat)))).trans ((jp_set_ne (jne hp (by decide : 61 ∈ ([61, 62] : List Nat)))).trans rfl))
theorem w_TT_choosesWishes {M : jp_M} {res : jp_M} (hf : f_TT_choosesWishes M = some res) : ∀ p, p ∉ ([61, 62] : List Nat) → res p = M p := by
  intro p hp
  unfold f_TT_choosesWishes at hf
  obtain ⟨q1, hc_1, hf⟩ := jbind hf
  exact (w_TT_choosesWishes_16 jFu _ _ hf _ hp).trans ((jp_set_ne (jne hp (by decide : 61 ∈ ([61, 62] : List Nat)))).trans ((jp_set_ne (jne hp (by decide : 61 ∈ ([61, 62] : List Nat)))).trans ((w_TT_learnsClashes hc_1 _ (jout hp (by decide : (([62] : List Nat)).all (fun x => (([61, 62] : List Nat)).contains x) = true))).trans rfl)))
theorem w_C_beside {a1 : Int32} {M : jp_M} {res : Int32 × jp_M} (hf : f_C_beside a1 M = some res) : ∀ p, p ∉ ([61, 62] : List Nat) → res.2 p = M p := by
  intro p hp
  unfold f_C_beside at hf
  rcases jif_d hf with ⟨h, hf⟩ | ⟨h, hf⟩
  · obtain ⟨q2, hc_2, hf⟩ := jbind hf
    rcases jif_d hf with ⟨h, hf⟩ | ⟨h, hf⟩
    · obtain rfl := Option.some.inj hf
      exact ((w_TT_choosesWishes hc_2 _ (jout hp (by decide : (([61, 62] : List Nat)).all (fun x => (([61, 62] : List Nat)).contains x) = true))).trans rfl)
    · obtain rfl := Option.some.inj hf
      exact ((w_TT_choosesWishes hc_2 _ (jout hp (by decide : (([61, 62] : List Nat)).all (fun x => (([61, 62] : List Nat)).contains x) = true))).trans rfl)
  · obtain rfl := Option.some.inj hf
    exact rfl
theorem w_C_kite {a1 : Int32} {a2 : Int32} {M : jp_M} {res : Int32 × jp_M} (hf : f_C_kite a1 a2 M = some res) : ∀ p, p ∉ ([19, 21] : List Nat) → res.2 p = M p := by
  intro p hp
  unfold f_C_kite at hf
  rcases jif_d hf with ⟨h, hf⟩ | ⟨h, hf⟩
  · rcases jif_d hf with ⟨h, hf⟩ | ⟨h, hf⟩
    · obtain rfl := Option.some.inj hf
      exact rfl
    · rcases jif_d hf with ⟨h, hf⟩ | ⟨h, hf⟩
      · obtain rfl := Option.some.inj hf
        exact rfl
      · rcases jif_d hf with ⟨h, hf⟩ | ⟨h, hf⟩
        · obtain ⟨hb4, hf⟩ := jg_some hf
          obtain ⟨hb6, hf⟩ := jg_some hf
          obtain rfl := Option.some.inj hf
          exact ((jp_set_ne (jne hp (by decide : 19 ∈ ([19, 21] : List Nat)))).trans ((jp_set_ne (jne hp (by decide : 21 ∈ ([19, 21] : List Nat)))).trans ((jp_set_ne (jne hp (by decide : 21 ∈ ([19, 21] : List Nat)))).trans rfl)))
        · obtain rfl := Option.some.inj hf
          exact rfl
  · obtain rfl := Option.some.inj hf
    exact ((jp_set_ne (jne hp (by decide : 19 ∈ ([19, 21] : List Nat)))).trans rfl)
theorem w_TT_lengthensChain_45 {c2 : Int32 → Int32 → jp_M → Option (jp_M)} (hc2 : ∀ (l1 : Int32) (l2 : Int32) (M : jp_M) (res : jp_M), c2 l1 l2 M = some res → ∀ p, p ∉ ([63] : List Nat) → res p = M p) (l1 : Int32) (l2 : Int32) (M : jp_M) {res : jp_M} (hf : f_TT_lengthensChain_45 c2 l1 l2 M = some res) : ∀ p, p ∉ ([63] : List Nat) → res p = M p := by
  intro p hp
  unfold f_TT_lengthensChain_45 at hf
  exact (hc2 _ _ _ _ hf _ hp).trans rfl
theorem w_TT_lengthensChain_2  : ∀ (n : Nat) (l1 : Int32) (l2 : Int32) (M : jp_M) {res : jp_M}, f_TT_lengthensChain_2 n  l1 l2 M = some res → ∀ p, p ∉ ([63] : List Nat) → res p = M p := by
  intro n
  induction n with
  | zero =>
    intro l1 l2 M res hf
    cases hf
  | succ n ih =>
    intro l1 l2 M res hf p hp
    rw [f_TT_lengthensChain_2] at hf
    rcases jif_d hf with ⟨h, hf⟩ | ⟨h, hf⟩
    · obtain rfl := Option.some.inj hf
      exact rfl
    · obtain ⟨q1, hc_1, hf⟩ := jbind hf
      rcases jif_d hf with ⟨h, hf⟩ | ⟨h, hf⟩
      · exact (w_TT_lengthensChain_45 (fun l1 l2 M res hf => ih l1 l2 M hf) _ _ _ hf _ hp).trans rfl
      · obtain ⟨hb2, hf⟩ := jg_some hf
        obtain ⟨hb3, hf⟩ := jg_some hf
        obtain ⟨hb5, hf⟩ := jg_some hf
        exact (w_TT_lengthensChain_45 (fun l1 l2 M res hf => ih l1 l2 M hf) _ _ _ hf _ hp).trans ((jp_set_ne (jne hp (by decide : 63 ∈ ([63] : List Nat)))).trans rfl)
theorem w_TT_lengthensChain {a1 : Int32} {M : jp_M} {res : jp_M} (hf : f_TT_lengthensChain a1 M = some res) : ∀ p, p ∉ ([63] : List Nat) → res p = M p := by
  intro p hp
  unfold f_TT_lengthensChain at hf
  exact (w_TT_lengthensChain_2 jFu _ _ _ hf _ hp).trans rfl
theorem w_TT_layers_43 {c18 : Int32 → Int32 → jp_M → Option (Int32 × jp_M)} (hc18 : ∀ (l1 : Int32) (l2 : Int32) (M : jp_M) (res : Int32 × jp_M), c18 l1 l2 M = some res → ∀ p, p ∉ ([63] : List Nat) → res.2 p = M p) : ∀ (n : Nat) (l1 : Int32) (l2 : Int32) (l3 : Int32) (M : jp_M) {res : Int32 × jp_M}, f_TT_layers_43 n c18 l1 l2 l3 M = some res → ∀ p, p ∉ ([63] : List Nat) → res.2 p = M p := by
  intro n
  induction n with
  | zero =>
    intro l1 l2 l3 M res hf
    cases hf
  | succ n ih =>
    intro l1 l2 l3 M res hf p hp
    rw [f_TT_layers_43] at hf
    rcases jif_d hf with ⟨h, hf⟩ | ⟨h, hf⟩
    · exact (hc18 _ _ _ _ hf _ hp).trans rfl
    · obtain ⟨q1, hc_1, hf⟩ := jbind hf
      obtain ⟨hb2, hf⟩ := jg_some hf
      exact (ih _ _ _ _ hf _ hp).trans ((w_TT_lengthensChain hc_1 _ (jout hp (by decide : (([63] : List Nat)).all (fun x => (([63] : List Nat)).contains x) = true))).trans rfl)
theorem w_TT_layers_30  : ∀ (n : Nat) (l1 : Int32) (l2 : Int32) (M : jp_M) {res : Int32 × jp_M}, f_TT_layers_30 n  l1 l2 M = some res → ∀ p, p ∉ ([63] : List Nat) → res.2 p = M p := by
  intro n
  induction n with
  | zero =>
    intro l1 l2 M res hf
    cases hf
  | succ n ih =>
    intro l1 l2 M res hf p hp
    rw [f_TT_layers_30] at hf
    rcases jif_d hf with ⟨h, hf⟩ | ⟨h, hf⟩
    · obtain rfl := Option.some.inj hf
      exact rfl
    · exact (w_TT_layers_43 (fun l1 l2 M res hf => ih l1 l2 M hf) jFu _ _ _ _ hf _ hp).trans rfl
theorem w_TT_layers_4  : ∀ (n : Nat) (l1 : Int32) (l2 : Int32) (M : jp_M) {res : Int32 × jp_M}, f_TT_layers_4 n  l1 l2 M = some res → ∀ p, p ∉ ([63] : List Nat) → res.2 p = M p := by
  intro n
  induction n with
  | zero =>
    intro l1 l2 M res hf
    cases hf
  | succ n ih =>
    intro l1 l2 M res hf p hp
    rw [f_TT_layers_4] at hf
    rcases jif_d hf with ⟨h, hf⟩ | ⟨h, hf⟩
    · exact (w_TT_layers_30 jFu _ _ _ hf _ hp).trans rfl
    · obtain ⟨hb2, hf⟩ := jg_some hf
      exact (ih _ _ _ hf _ hp).trans ((jp_set_ne (jne hp (by decide : 63 ∈ ([63] : List Nat)))).trans rfl)
theorem w_TT_layers {M : jp_M} {res : Int32 × jp_M} (hf : f_TT_layers M = some res) : ∀ p, p ∉ ([63] : List Nat) → res.2 p = M p := by
  intro p hp
  unfold f_TT_layers at hf
  exact (w_TT_layers_4 jFu _ _ _ hf _ hp).trans rfl
theorem w_C_strings {a1 : Int32} {M : jp_M} {res : Int32 × jp_M} (hf : f_C_strings a1 M = some res) : ∀ p, p ∉ ([63] : List Nat) → res.2 p = M p := by
  intro p hp
  unfold f_C_strings at hf
  rcases jif_d hf with ⟨h, hf⟩ | ⟨h, hf⟩
  · obtain ⟨q1, hc_1, hf⟩ := jbind hf
    obtain rfl := Option.some.inj hf
    exact rfl
  · rcases jif_d hf with ⟨h, hf⟩ | ⟨h, hf⟩
    · obtain ⟨q2, hc_2, hf⟩ := jbind hf
      obtain rfl := Option.some.inj hf
      exact ((w_TT_layers hc_2 _ (jout hp (by decide : (([63] : List Nat)).all (fun x => (([63] : List Nat)).contains x) = true))).trans rfl)
    · obtain rfl := Option.some.inj hf
      exact rfl
theorem w_C_way {a1 : Int32} {a2 : Int32} {a3 : Int32} {M : jp_M} {res : Int32 × jp_M} (hf : f_C_way a1 a2 a3 M = some res) : ∀ p, p ∉ ([23] : List Nat) → res.2 p = M p := by
  intro p hp
  unfold f_C_way at hf
  rcases jif_d hf with ⟨h, hf⟩ | ⟨h, hf⟩
  · obtain rfl := Option.some.inj hf
    exact rfl
  · rcases jif_d hf with ⟨h, hf⟩ | ⟨h, hf⟩
    · obtain rfl := Option.some.inj hf
      exact rfl
    · rcases jif_d hf with ⟨h, hf⟩ | ⟨h, hf⟩
      · obtain ⟨hb5, hf⟩ := jg_some hf
        obtain rfl := Option.some.inj hf
        exact ((jp_set_ne (jne hp (by decide : 23 ∈ ([23] : List Nat)))).trans rfl)
      · obtain rfl := Option.some.inj hf
        exact rfl
theorem w_TT_leastWays_62 {c11 : Int32 → jp_M → Option (Int32 × jp_M)} (hc11 : ∀ (l2 : Int32) (M : jp_M) (res : Int32 × jp_M), c11 l2 M = some res → ∀ p, p ∉ ([64] : List Nat) → res.2 p = M p) {c20 : Int32 → Int32 → Int32 → Int32 → jp_M → Option (Int32 × jp_M)} (hc20 : ∀ (l2 : Int32) (l3 : Int32) (l4 : Int32) (l5 : Int32) (M : jp_M) (res : Int32 × jp_M), c20 l2 l3 l4 l5 M = some res → ∀ p, p ∉ ([64] : List Nat) → res.2 p = M p) (l2 : Int32) (l3 : Int32) (l4 : Int32) (l5 : Int32) (M : jp_M) {res : Int32 × jp_M} (hf : f_TT_leastWays_62 c11 c20 l2 l3 l4 l5 M = some res) : ∀ p, p ∉ ([64] : List Nat) → res.2 p = M p := by
  intro p hp
  unfold f_TT_leastWays_62 at hf
  exact (hc20 _ _ _ _ _ _ hf _ hp).trans rfl
theorem w_TT_leastWays_31 {c11 : Int32 → jp_M → Option (Int32 × jp_M)} (hc11 : ∀ (l2 : Int32) (M : jp_M) (res : Int32 × jp_M), c11 l2 M = some res → ∀ p, p ∉ ([64] : List Nat) → res.2 p = M p) : ∀ (n : Nat) (l2 : Int32) (l3 : Int32) (l4 : Int32) (l5 : Int32) (M : jp_M) {res : Int32 × jp_M}, f_TT_leastWays_31 n c11 l2 l3 l4 l5 M = some res → ∀ p, p ∉ ([64] : List Nat) → res.2 p = M p := by
  intro n
  induction n with
  | zero =>
    intro l2 l3 l4 l5 M res hf
    cases hf
  | succ n ih =>
    intro l2 l3 l4 l5 M res hf p hp
    rw [f_TT_leastWays_31] at hf
    rcases jif_d hf with ⟨h, hf⟩ | ⟨h, hf⟩
    · obtain ⟨hb2, hf⟩ := jg_some hf
      exact (hc11 _ _ _ hf _ hp).trans ((jp_set_ne (jne hp (by decide : 64 ∈ ([64] : List Nat)))).trans rfl)
    · rcases jif_d hf with ⟨h, hf⟩ | ⟨h, hf⟩
      · exact (w_TT_leastWays_62 hc11 (fun l2 l3 l4 l5 M res hf => ih l2 l3 l4 l5 M hf) _ _ _ _ _ hf _ hp).trans rfl
      · obtain ⟨q3, hc_3, hf⟩ := jbind hf
        exact (w_TT_leastWays_62 hc11 (fun l2 l3 l4 l5 M res hf => ih l2 l3 l4 l5 M hf) _ _ _ _ _ hf _ hp).trans rfl
theorem w_TT_leastWays_14  : ∀ (n : Nat) (l2 : Int32) (M : jp_M) {res : Int32 × jp_M}, f_TT_leastWays_14 n  l2 M = some res → ∀ p, p ∉ ([64] : List Nat) → res.2 p = M p := by
  intro n
  induction n with
  | zero =>
    intro l2 M res hf
    cases hf
  | succ n ih =>
    intro l2 M res hf p hp
    rw [f_TT_leastWays_14] at hf
    rcases jif_d hf with ⟨h, hf⟩ | ⟨h, hf⟩
    · obtain rfl := Option.some.inj hf
      exact rfl
    · exact (w_TT_leastWays_31 (fun l2 M res hf => ih l2 M hf) jFu _ _ _ _ _ hf _ hp).trans rfl
theorem w_TT_leastWays {M : jp_M} {res : Int32 × jp_M} (hf : f_TT_leastWays M = some res) : ∀ p, p ∉ ([64] : List Nat) → res.2 p = M p := by
  intro p hp
  unfold f_TT_leastWays at hf
  exact (w_TT_leastWays_14 jFu _ _ hf _ hp).trans ((jp_set_ne (jne hp (by decide : 64 ∈ ([64] : List Nat)))).trans rfl)
theorem w_TT_eaveOf_65 {c9 : Int32 → Int32 → Int32 → Int32 → jp_M → Option (Int32 × jp_M)} (hc9 : ∀ (l1 : Int32) (l2 : Int32) (l3 : Int32) (l4 : Int32) (M : jp_M) (res : Int32 × jp_M), c9 l1 l2 l3 l4 M = some res → ∀ p, p ∉ ([64] : List Nat) → res.2 p = M p) {c16 : Int32 → Int32 → Int32 → Int32 → Int32 → jp_M → Option (Int32 × jp_M)} (hc16 : ∀ (l1 : Int32) (l2 : Int32) (l3 : Int32) (l4 : Int32) (l5 : Int32) (M : jp_M) (res : Int32 × jp_M), c16 l1 l2 l3 l4 l5 M = some res → ∀ p, p ∉ ([64] : List Nat) → res.2 p = M p) (l1 : Int32) (l2 : Int32) (l3 : Int32) (l4 : Int32) (l5 : Int32) (M : jp_M) {res : Int32 × jp_M} (hf : f_TT_eaveOf_65 c9 c16 l1 l2 l3 l4 l5 M = some res) : ∀ p, p ∉ ([64] : List Nat) → res.2 p = M p := by
  intro p hp
  unfold f_TT_eaveOf_65 at hf
  exact (hc16 _ _ _ _ _ _ _ hf _ hp).trans rfl
