/-! SwallowsAirModel.isIn(III)Z -/
def f_M_isIn (a1 : Int32) (a2 : Int32) (a3 : Int32) : Int32 :=
  if jp_c .lt a1 a2 = true then (
  (0 : Int32)) else (
  if jp_c .gt a1 a3 = true then (
  (0 : Int32)) else (
  (1 : Int32)))
theorem t_M_isIn {Ln : Nat} {xs : Nat → Int32} {sv : jp_V} {a1 : Int32} {a2 : Int32} {a3 : Int32} {w : Nat} {M : jp_M} {res : Int32} (hf : f_M_isIn a1 a2 a3 = res) : jE (jZ (jK Ln xs sv)) 0 163 [(.inr (some 104)), (.inl a1), (.inl a2), (.inl a3)] (jSH w) M (some (.inl res), jSH w, M) := by
  unfold f_M_isIn at hf
  refine jE_in (L0 := [some (.inr (some 104)), some (.inl a1), some (.inl a2), some (.inl a3)]) rfl (by decide) rfl (fun d hd => ?_)
  refine jR_in rfl ⟨rfl, rfl, rfl⟩ rfl ?_
  refine js_iload_n rfl ?_
  refine js_iload_n rfl ?_
  refine js_icmp (tgt := 14) rfl rfl (fun h => ?_) (fun h => ?_)
  · have hf := jif_t hf h
    refine jR_in rfl ⟨rfl, rfl, rfl⟩ rfl ?_
    refine js_iconst (v := (0 : Int32)) rfl ?_
    subst hf
    exact js_iret rfl rfl
  · have hf := jif_f hf h
    refine js_iload_n rfl ?_
    refine js_iload_n rfl ?_
    refine js_icmp (tgt := 14) rfl rfl (fun h => ?_) (fun h => ?_)
    · have hf := jif_t hf h
      refine jR_in rfl ⟨rfl, rfl, rfl⟩ rfl ?_
      refine js_iconst (v := (0 : Int32)) rfl ?_
      subst hf
      exact js_iret rfl rfl
    · have hf := jif_f hf h
      refine js_iconst (v := (1 : Int32)) rfl ?_
      refine js_goto (tgt := 15) rfl rfl ?_
      refine jR_in rfl ⟨rfl, rfl, rfl⟩ rfl ?_
      subst hf
      exact js_iret rfl rfl
theorem b_M_isIn {a1 : Int32} {a2 : Int32} {a3 : Int32} {res : Int32} (hf : f_M_isIn a1 a2 a3 = res) : res = 0 ∨ res = 1 := by
  unfold f_M_isIn at hf
  rcases jif_d hf with ⟨h, hf⟩ | ⟨h, hf⟩
  · subst hf
    exact Or.inl rfl
  · rcases jif_d hf with ⟨h, hf⟩ | ⟨h, hf⟩
    · subst hf
      exact Or.inl rfl
    · subst hf
      exact Or.inr rfl
/-! SwallowsAirModel.useAt(I)I -/
def f_M_useAt (a1 : Int32) : Int32 :=
  ((56 : Int32) + ((8 : Int32) * a1))
theorem t_M_useAt {Ln : Nat} {xs : Nat → Int32} {sv : jp_V} {a1 : Int32} {w : Nat} {M : jp_M} {res : Int32} (hf : f_M_useAt a1 = res) : jE (jZ (jK Ln xs sv)) 0 180 [(.inr (some 104)), (.inl a1)] (jSH w) M (some (.inl res), jSH w, M) := by
  unfold f_M_useAt at hf
  refine jE_in (L0 := [some (.inr (some 104)), some (.inl a1)]) rfl (by decide) rfl (fun d hd => ?_)
  refine jR_in rfl ⟨rfl, rfl, rfl⟩ rfl ?_
  refine js_bipush (v := (56 : Int32)) rfl ?_
  refine js_bipush (v := (8 : Int32)) rfl ?_
  refine js_iload_n rfl ?_
  refine js_imul ?_
  refine js_iadd ?_
  subst hf
  exact js_iret rfl rfl
/-! SwallowsAirModel.useOf(II)I -/
def f_M_useOf_60 (c2 : Int32 → Int32 → Int32 → jp_M → Option (Int32)) (l1 : Int32) (l2 : Int32) (l3 : Int32) (M : jp_M) : Option (Int32) :=
  c2 l1 l2 (l3 + (1 : Int32)) M
theorem t_M_useOf_60 {Ln : Nat} {xs : Nat → Int32} {sv : jp_V} {d : Nat} (hd : 1 ≤ d) {c2 : Int32 → Int32 → Int32 → jp_M → Option (Int32)} (hc2 : ∀ (l1 : Int32) (l2 : Int32) (l3 : Int32) (o4 : Option jp_V) (w : Nat) (M : jp_M) (res : Int32), c2 l1 l2 l3 M = some res → jR (jZ (jK Ln xs sv)) d 181 2 ([some (.inr (some 104)), some (.inl l1), some (.inl l2), some (.inl l3), o4], [], jSH w, M) (some (.inl res), jSH w, M)) (l1 : Int32) (l2 : Int32) (l3 : Int32) (o4 : Option jp_V) (w : Nat) (M : jp_M) {res : Int32} (hf : f_M_useOf_60 c2 l1 l2 l3 M = some res) : jR (jZ (jK Ln xs sv)) d 181 60 ([some (.inr (some 104)), some (.inl l1), some (.inl l2), some (.inl l3), o4], [], jSH w, M) (some (.inl res), jSH w, M) := by
  unfold f_M_useOf_60 at hf
  refine jR_in rfl ⟨rfl, rfl, rfl⟩ rfl ?_
  refine js_iinc (v := (1 : Int32)) rfl rfl rfl rfl ?_
  refine js_goto (tgt := 2) rfl rfl ?_
  exact hc2 _ _ _ _ _ _ _ hf
def f_M_useOf_2  : Nat → Int32 → Int32 → Int32 → jp_M → Option (Int32)
  | 0, _, _, _, _ => none
  | n + 1, l1, l2, l3, M =>
    if jp_c .ge l3 (M 105 5) = true then (
    some (-1 : Int32)) else (
    jg (jp_in ((f_M_useAt l3) + (3 : Int32)) 184) (
    if jp_c .ne (M 105 (Int32.toNatClampNeg ((f_M_useAt l3) + (3 : Int32)))) l1 = true then (
    f_M_useOf_60 (f_M_useOf_2 n ) l1 l2 l3 M) else (
    jg (jp_in ((f_M_useAt l3) + (4 : Int32)) 184) (
    jg (jp_in ((f_M_useAt l3) + (5 : Int32)) 184) (
    if jp_c .eq (f_M_isIn l2 (M 105 (Int32.toNatClampNeg ((f_M_useAt l3) + (4 : Int32)))) (M 105 (Int32.toNatClampNeg ((f_M_useAt l3) + (5 : Int32))))) 0 = true then (
    f_M_useOf_60 (f_M_useOf_2 n ) l1 l2 l3 M) else (
    some l3))))))
theorem t_M_useOf_2 {Ln : Nat} {xs : Nat → Int32} {sv : jp_V} {d : Nat} (hd : 1 ≤ d)  : ∀ (n : Nat) (l1 : Int32) (l2 : Int32) (l3 : Int32) (o4 : Option jp_V) (w : Nat) (M : jp_M) {res : Int32}, f_M_useOf_2 n  l1 l2 l3 M = some res → jR (jZ (jK Ln xs sv)) d 181 2 ([some (.inr (some 104)), some (.inl l1), some (.inl l2), some (.inl l3), o4], [], jSH w, M) (some (.inl res), jSH w, M) := by
  intro n
  induction n with
  | zero =>
    intro l1 l2 l3 o4 w M res hf
    cases hf
  | succ n ih =>
    intro l1 l2 l3 o4 w M res hf
    rw [f_M_useOf_2] at hf
    refine jR_in rfl ⟨rfl, rfl, rfl⟩ rfl ?_
    refine js_iload_n rfl ?_
    refine js_aload_n rfl ?_
    refine js_getr rfl rfl rfl ?_
    refine js_iconst (v := (5 : Int32)) rfl ?_
    refine js_iald rfl (by decide) ?_
    refine js_icmp (tgt := 66) rfl rfl (fun h => ?_) (fun h => ?_)
    · have hf := jif_t hf h
      refine jR_in rfl ⟨rfl, rfl, rfl⟩ rfl ?_
      refine js_iconst (v := (-1 : Int32)) rfl ?_
      cases hf
      exact js_iret rfl rfl
    · have hf := jif_f hf h
      refine js_aload_n rfl ?_
      refine js_iload_n rfl ?_
      refine js_c2i rfl rfl ⟨rfl, rfl⟩ rfl rfl (t_M_useAt rfl) (by omega) ?_
      refine js_istore rfl rfl ?_
      refine js_aload_n rfl ?_
      refine js_getr rfl rfl rfl ?_
      refine js_iload rfl ?_
      refine js_iconst (v := (3 : Int32)) rfl ?_
      refine js_iadd ?_
      obtain ⟨hb2, hf⟩ := jg_some hf
      refine js_iald rfl hb2 ?_
      refine js_iload_n rfl ?_
      refine js_icmp (tgt := 60) rfl rfl (fun h => ?_) (fun h => ?_)
      · have hf := jif_t hf h
        exact t_M_useOf_60 hd (fun l1 l2 l3 o4 w M res hf => ih l1 l2 l3 o4 w M hf) _ _ _ _ _ _ hf
      · have hf := jif_f hf h
        refine js_aload_n rfl ?_
        refine js_iload_n rfl ?_
        refine js_aload_n rfl ?_
        refine js_getr rfl rfl rfl ?_
        refine js_iload rfl ?_
        refine js_iconst (v := (4 : Int32)) rfl ?_
        refine js_iadd ?_
        obtain ⟨hb3, hf⟩ := jg_some hf
        refine js_iald rfl hb3 ?_
        refine js_aload_n rfl ?_
        refine js_getr rfl rfl rfl ?_
        refine js_iload rfl ?_
        refine js_iconst (v := (5 : Int32)) rfl ?_
        refine js_iadd ?_
        obtain ⟨hb4, hf⟩ := jg_some hf
        refine js_iald rfl hb4 ?_
        refine js_c4i rfl rfl ⟨rfl, rfl⟩ rfl rfl (t_M_isIn rfl) (by omega) ?_
        refine js_ifc (tgt := 60) rfl rfl (fun h => ?_) (fun h => ?_)
        · have hf := jif_t hf h
          exact t_M_useOf_60 hd (fun l1 l2 l3 o4 w M res hf => ih l1 l2 l3 o4 w M hf) _ _ _ _ _ _ hf
        · have hf := jif_f hf h
          refine js_iload_n rfl ?_
          cases hf
          exact js_iret rfl rfl
def f_M_useOf (a1 : Int32) (a2 : Int32) (M : jp_M) : Option (Int32) :=
  f_M_useOf_2 jFu a1 a2 (0 : Int32) M
theorem t_M_useOf {Ln : Nat} {xs : Nat → Int32} {sv : jp_V} {a1 : Int32} {a2 : Int32} {w : Nat} {M : jp_M} {res : Int32} (hf : f_M_useOf a1 a2 M = some res) : jE (jZ (jK Ln xs sv)) 1 181 [(.inr (some 104)), (.inl a1), (.inl a2)] (jSH w) M (some (.inl res), jSH w, M) := by
  unfold f_M_useOf at hf
  refine jE_in (L0 := [some (.inr (some 104)), some (.inl a1), some (.inl a2), some (.inl (0 : Int32)), none]) rfl (by decide) rfl (fun d hd => ?_)
  refine jR_in rfl ⟨rfl, rfl, rfl⟩ rfl ?_
  refine js_iconst (v := (0 : Int32)) rfl ?_
  refine js_istore_n rfl rfl ?_
  exact jS_out rfl ⟨rfl, rfl, rfl⟩ rfl (t_M_useOf_2 hd jFu _ _ _ _ _ _ hf)
/-! SwallowsAirModel.isFree(II)Z -/
def f_M_isFree (a1 : Int32) (a2 : Int32) (M : jp_M) : Option (Int32) :=
  (f_M_useOf a1 a2 M).bind fun q1 => (
  if jp_c .ne q1 (-1 : Int32) = true then (
  some (0 : Int32)) else (
  some (1 : Int32)))
theorem t_M_isFree {Ln : Nat} {xs : Nat → Int32} {sv : jp_V} {a1 : Int32} {a2 : Int32} {w : Nat} {M : jp_M} {res : Int32} (hf : f_M_isFree a1 a2 M = some res) : jE (jZ (jK Ln xs sv)) 2 182 [(.inr (some 104)), (.inl a1), (.inl a2)] (jSH w) M (some (.inl res), jSH w, M) := by
  unfold f_M_isFree at hf
  refine jE_in (L0 := [some (.inr (some 104)), some (.inl a1), some (.inl a2)]) rfl (by decide) rfl (fun d hd => ?_)
  refine jR_in rfl ⟨rfl, rfl, rfl⟩ rfl ?_
  refine js_aload_n rfl ?_
  refine js_iload_n rfl ?_
  refine js_iload_n rfl ?_
  obtain ⟨q1, hc_1, hf⟩ := jbind hf
  refine js_c3i rfl rfl ⟨rfl, rfl⟩ rfl rfl (t_M_useOf hc_1) (by omega) ?_
  refine js_iconst (v := (-1 : Int32)) rfl ?_
  refine js_icmp (tgt := 14) rfl rfl (fun h => ?_) (fun h => ?_)
  · have hf := jif_t hf h
    refine jR_in rfl ⟨rfl, rfl, rfl⟩ rfl ?_
    refine js_iconst (v := (0 : Int32)) rfl ?_
    cases hf
    exact js_iret rfl rfl
  · have hf := jif_f hf h
    refine js_iconst (v := (1 : Int32)) rfl ?_
    refine js_goto (tgt := 15) rfl rfl ?_
    refine jR_in rfl ⟨rfl, rfl, rfl⟩ rfl ?_
    cases hf
    exact js_iret rfl rfl
theorem b_M_isFree {a1 : Int32} {a2 : Int32} {M : jp_M} {res : Int32} (hf : f_M_isFree a1 a2 M = some res) : res = 0 ∨ res = 1 := by
  unfold f_M_isFree at hf
  obtain ⟨q1, hc_1, hf⟩ := jbind hf
  rcases jif_d hf with ⟨h, hf⟩ | ⟨h, hf⟩
  · cases hf
    exact Or.inl rfl
  · cases hf
    exact Or.inr rfl
/-! SwallowsAir.within(II)Z -/
def f_C_within (a0 : Int32) (a1 : Int32) : Int32 :=
  if jp_c .lt a0 0 = true then (
  (0 : Int32)) else (
  if jp_c .gt a0 a1 = true then (
  (0 : Int32)) else (
  (1 : Int32)))
theorem t_C_within {Ln : Nat} {xs : Nat → Int32} {sv : jp_V} {a0 : Int32} {a1 : Int32} {w : Nat} {M : jp_M} {res : Int32} (hf : f_C_within a0 a1 = res) : jE (jZ (jK Ln xs sv)) 0 152 [(.inl a0), (.inl a1)] (jSH w) M (some (.inl res), jSH w, M) := by
  unfold f_C_within at hf
  refine jE_in (L0 := [some (.inl a0), some (.inl a1)]) rfl (by decide) rfl (fun d hd => ?_)
  refine jR_in rfl ⟨rfl, rfl, rfl⟩ rfl ?_
  refine js_iload_n rfl ?_
  refine js_ifc (tgt := 13) rfl rfl (fun h => ?_) (fun h => ?_)
  · have hf := jif_t hf h
    refine jR_in rfl ⟨rfl, rfl, rfl⟩ rfl ?_
    refine js_iconst (v := (0 : Int32)) rfl ?_
    subst hf
    exact js_iret rfl rfl
  · have hf := jif_f hf h
    refine js_iload_n rfl ?_
    refine js_iload_n rfl ?_
    refine js_icmp (tgt := 13) rfl rfl (fun h => ?_) (fun h => ?_)
    · have hf := jif_t hf h
      refine jR_in rfl ⟨rfl, rfl, rfl⟩ rfl ?_
      refine js_iconst (v := (0 : Int32)) rfl ?_
      subst hf
      exact js_iret rfl rfl
    · have hf := jif_f hf h
      refine js_iconst (v := (1 : Int32)) rfl ?_
      refine js_goto (tgt := 14) rfl rfl ?_
      refine jR_in rfl ⟨rfl, rfl, rfl⟩ rfl ?_
      subst hf
      exact js_iret rfl rfl
theorem b_C_within {a0 : Int32} {a1 : Int32} {res : Int32} (hf : f_C_within a0 a1 = res) : res = 0 ∨ res = 1 := by
  unfold f_C_within at hf
  rcases jif_d hf with ⟨h, hf⟩ | ⟨h, hf⟩
  · subst hf
    exact Or.inl rfl
  · rcases jif_d hf with ⟨h, hf⟩ | ⟨h, hf⟩
    · subst hf
      exact Or.inl rfl
    · subst hf
      exact Or.inr rfl
/-! SwallowsAir$World.hasPerson(I)Z -/
def f_W_hasPerson (a1 : Int32) (M : jp_M) : Int32 :=
  if jp_c .lt a1 0 = true then (
  (0 : Int32)) else (
  if jp_c .ge a1 (M 2 4) = true then (
  (0 : Int32)) else (
  (1 : Int32)))
theorem t_W_hasPerson {Ln : Nat} {xs : Nat → Int32} {sv : jp_V} {a1 : Int32} {w : Nat} {M : jp_M} {res : Int32} (hf : f_W_hasPerson a1 M = res) : jE (jZ (jK Ln xs sv)) 0 97 [(.inr (some 2)), (.inl a1)] (jSH w) M (some (.inl res), jSH w, M) := by
  unfold f_W_hasPerson at hf
  refine jE_in (L0 := [some (.inr (some 2)), some (.inl a1)]) rfl (by decide) rfl (fun d hd => ?_)
  refine jR_in rfl ⟨rfl, rfl, rfl⟩ rfl ?_
  refine js_iload_n rfl ?_
  refine js_ifc (tgt := 16) rfl rfl (fun h => ?_) (fun h => ?_)
  · have hf := jif_t hf h
    refine jR_in rfl ⟨rfl, rfl, rfl⟩ rfl ?_
    refine js_iconst (v := (0 : Int32)) rfl ?_
    subst hf
    exact js_iret rfl rfl
  · have hf := jif_f hf h
    refine js_iload_n rfl ?_
    refine js_aload_n rfl ?_
    refine js_geti rfl rfl rfl ?_
    refine js_icmp (tgt := 16) rfl rfl (fun h => ?_) (fun h => ?_)
    · have hf := jif_t hf h
      refine jR_in rfl ⟨rfl, rfl, rfl⟩ rfl ?_
      refine js_iconst (v := (0 : Int32)) rfl ?_
      subst hf
      exact js_iret rfl rfl
    · have hf := jif_f hf h
      refine js_iconst (v := (1 : Int32)) rfl ?_
      refine js_goto (tgt := 17) rfl rfl ?_
      refine jR_in rfl ⟨rfl, rfl, rfl⟩ rfl ?_
      subst hf
      exact js_iret rfl rfl
theorem b_W_hasPerson {a1 : Int32} {M : jp_M} {res : Int32} (hf : f_W_hasPerson a1 M = res) : res = 0 ∨ res = 1 := by
  unfold f_W_hasPerson at hf
  rcases jif_d hf with ⟨h, hf⟩ | ⟨h, hf⟩
  · subst hf
    exact Or.inl rfl
  · rcases jif_d hf with ⟨h, hf⟩ | ⟨h, hf⟩
    · subst hf
      exact Or.inl rfl
    · subst hf
      exact Or.inr rfl
/-! SwallowsAir.setPerson(IIII)Z -/
def f_C_setPerson (a1 : Int32) (a2 : Int32) (a3 : Int32) (a4 : Int32) (M : jp_M) : Option (Int32 × jp_M) :=
  if jp_c .eq (f_W_hasPerson a2 M) 0 = true then (
  some ((0 : Int32), M)) else (
  if jp_c .ne (f_C_within a3 a4) 0 = true then (
  jg (jp_in (((5 : Int32) * a2) + a1) 50) (
  let M3 := jp_set M 3 (upd (M 3) (Int32.toNatClampNeg (((5 : Int32) * a2) + a1)) a3)
  some ((1 : Int32), M3))) else (
  some ((0 : Int32), M)))
theorem t_C_setPerson {Ln : Nat} {xs : Nat → Int32} {sv : jp_V} {a1 : Int32} {a2 : Int32} {a3 : Int32} {a4 : Int32} {w : Nat} {M : jp_M} {res : Int32 × jp_M} (hf : f_C_setPerson a1 a2 a3 a4 M = some res) : jE (jZ (jK Ln xs sv)) 1 155 [(.inr (some 0)), (.inl a1), (.inl a2), (.inl a3), (.inl a4)] (jSH w) M (some (.inl res.1), jSH w, res.2) := by
  unfold f_C_setPerson at hf
  refine jE_in (L0 := [some (.inr (some 0)), some (.inl a1), some (.inl a2), some (.inl a3), some (.inl a4)]) rfl (by decide) rfl (fun d hd => ?_)
  refine jR_in rfl ⟨rfl, rfl, rfl⟩ rfl ?_
  refine js_aload_n rfl ?_
  refine js_getr rfl rfl rfl ?_
  refine js_getr rfl rfl rfl ?_
  refine js_iload_n rfl ?_
  refine js_c2i rfl rfl ⟨rfl, rfl⟩ rfl rfl (t_W_hasPerson rfl) (by omega) ?_
  refine js_ifc (tgt := 23) rfl rfl (fun h => ?_) (fun h => ?_)
  · have hf := jif_t hf h
    refine jR_in rfl ⟨rfl, rfl, rfl⟩ rfl ?_
    refine js_iconst (v := (0 : Int32)) rfl ?_
    cases hf
    exact js_iret rfl rfl
  · have hf := jif_f hf h
    refine js_iload_n rfl ?_
    refine js_iload rfl ?_
    refine js_c2i rfl rfl ⟨rfl, rfl⟩ rfl rfl (t_C_within rfl) (by omega) ?_
    refine js_ifc (tgt := 25) rfl rfl (fun h => ?_) (fun h => ?_)
    · have hf := jif_t hf h
      refine jR_in rfl ⟨rfl, rfl, rfl⟩ rfl ?_
      refine js_aload_n rfl ?_
      refine js_getr rfl rfl rfl ?_
      refine js_getr rfl rfl rfl ?_
      refine js_getr rfl rfl rfl ?_
      refine js_iconst (v := (5 : Int32)) rfl ?_
      refine js_iload_n rfl ?_
      refine js_imul ?_
      refine js_iload_n rfl ?_
      refine js_iadd ?_
      refine js_iload_n rfl ?_
      obtain ⟨hb4, hf⟩ := jg_some hf
      refine js_iast rfl hb4 ?_
      refine js_iconst (v := (1 : Int32)) rfl ?_
      cases hf
      exact js_iret rfl rfl
    · have hf := jif_f hf h
      refine js_iconst (v := (0 : Int32)) rfl ?_
      cases hf
      exact js_iret rfl rfl
theorem b_C_setPerson {a1 : Int32} {a2 : Int32} {a3 : Int32} {a4 : Int32} {M : jp_M} {res : Int32 × jp_M} (hf : f_C_setPerson a1 a2 a3 a4 M = some res) : res.1 = 0 ∨ res.1 = 1 := by
  unfold f_C_setPerson at hf
  rcases jif_d hf with ⟨h, hf⟩ | ⟨h, hf⟩
  · cases hf
    exact Or.inl rfl
  · rcases jif_d hf with ⟨h, hf⟩ | ⟨h, hf⟩
    · obtain ⟨hb4, hf⟩ := jg_some hf
      cases hf
      exact Or.inr rfl
    · cases hf
      exact Or.inl rfl
/-! SwallowsAirModel.has(II)Z -/
def f_M_has (a1 : Int32) (a2 : Int32) : Int32 :=
  if jp_c .ne ((a1 >>> (a2 &&& 31)) &&& (1 : Int32)) (1 : Int32) = true then (
  (0 : Int32)) else (
  (1 : Int32))
theorem t_M_has {Ln : Nat} {xs : Nat → Int32} {sv : jp_V} {a1 : Int32} {a2 : Int32} {w : Nat} {M : jp_M} {res : Int32} (hf : f_M_has a1 a2 = res) : jE (jZ (jK Ln xs sv)) 0 170 [(.inr (some 104)), (.inl a1), (.inl a2)] (jSH w) M (some (.inl res), jSH w, M) := by
  unfold f_M_has at hf
  refine jE_in (L0 := [some (.inr (some 104)), some (.inl a1), some (.inl a2)]) rfl (by decide) rfl (fun d hd => ?_)
  refine jR_in rfl ⟨rfl, rfl, rfl⟩ rfl ?_
  refine js_iload_n rfl ?_
  refine js_iload_n rfl ?_
  refine js_ishr ?_
  refine js_iconst (v := (1 : Int32)) rfl ?_
  refine js_iand ?_
  refine js_iconst (v := (1 : Int32)) rfl ?_
  refine js_icmp (tgt := 13) rfl rfl (fun h => ?_) (fun h => ?_)
  · have hf := jif_t hf h
    refine jR_in rfl ⟨rfl, rfl, rfl⟩ rfl ?_
    refine js_iconst (v := (0 : Int32)) rfl ?_
    subst hf
    exact js_iret rfl rfl
  · have hf := jif_f hf h
    refine js_iconst (v := (1 : Int32)) rfl ?_
    refine js_goto (tgt := 14) rfl rfl ?_
    refine jR_in rfl ⟨rfl, rfl, rfl⟩ rfl ?_
    subst hf
    exact js_iret rfl rfl
theorem b_M_has {a1 : Int32} {a2 : Int32} {res : Int32} (hf : f_M_has a1 a2 = res) : res = 0 ∨ res = 1 := by
  unfold f_M_has at hf
  rcases jif_d hf with ⟨h, hf⟩ | ⟨h, hf⟩
  · subst hf
    exact Or.inl rfl
  · subst hf
    exact Or.inr rfl
/-! SwallowsAirModel.lesser(II)I -/
def f_M_lesser (a1 : Int32) (a2 : Int32) : Int32 :=
  if jp_c .ge a1 a2 = true then (
  a2) else (
  a1)
theorem t_M_lesser {Ln : Nat} {xs : Nat → Int32} {sv : jp_V} {a1 : Int32} {a2 : Int32} {w : Nat} {M : jp_M} {res : Int32} (hf : f_M_lesser a1 a2 = res) : jE (jZ (jK Ln xs sv)) 0 166 [(.inr (some 104)), (.inl a1), (.inl a2)] (jSH w) M (some (.inl res), jSH w, M) := by
  unfold f_M_lesser at hf
  refine jE_in (L0 := [some (.inr (some 104)), some (.inl a1), some (.inl a2)]) rfl (by decide) rfl (fun d hd => ?_)
  refine jR_in rfl ⟨rfl, rfl, rfl⟩ rfl ?_
  refine js_iload_n rfl ?_
  refine js_iload_n rfl ?_
  refine js_icmp (tgt := 9) rfl rfl (fun h => ?_) (fun h => ?_)
  · have hf := jif_t hf h
    refine jR_in rfl ⟨rfl, rfl, rfl⟩ rfl ?_
    refine js_iload_n rfl ?_
    subst hf
    exact js_iret rfl rfl
  · have hf := jif_f hf h
    refine js_iload_n rfl ?_
    refine js_goto (tgt := 10) rfl rfl ?_
    refine jR_in rfl ⟨rfl, rfl, rfl⟩ rfl ?_
    subst hf
    exact js_iret rfl rfl
/-! SwallowsAirModel.leastBy(III)I -/
def f_M_leastBy (a1 : Int32) (a2 : Int32) (a3 : Int32) (M : jp_M) : Option (Int32) :=
  jg (jp_in (((6 : Int32) * a1) + a2) 36) (
  jg (jp_in (a3 ||| ((1 : Int32) <<< (a2 &&& 31))) 64) (
  some ((M 135 (Int32.toNatClampNeg (((6 : Int32) * a1) + a2))) + (M 136 (Int32.toNatClampNeg (a3 ||| ((1 : Int32) <<< (a2 &&& 31))))))))
theorem t_M_leastBy {Ln : Nat} {xs : Nat → Int32} {sv : jp_V} {a1 : Int32} {a2 : Int32} {a3 : Int32} {w : Nat} {M : jp_M} {res : Int32} (hf : f_M_leastBy a1 a2 a3 M = some res) : jE (jZ (jK Ln xs sv)) 0 280 [(.inr (some 104)), (.inl a1), (.inl a2), (.inl a3)] (jSH w) M (some (.inl res), jSH w, M) := by
  unfold f_M_leastBy at hf
  refine jE_in (L0 := [some (.inr (some 104)), some (.inl a1), some (.inl a2), some (.inl a3)]) rfl (by decide) rfl (fun d hd => ?_)
  refine jR_in rfl ⟨rfl, rfl, rfl⟩ rfl ?_
  refine js_aload_n rfl ?_
  refine js_getr rfl rfl rfl ?_
  refine js_bipush (v := (6 : Int32)) rfl ?_
  refine js_iload_n rfl ?_
  refine js_imul ?_
  refine js_iload_n rfl ?_
  refine js_iadd ?_
  obtain ⟨hb1, hf⟩ := jg_some hf
  refine js_iald rfl hb1 ?_
  refine js_aload_n rfl ?_
  refine js_getr rfl rfl rfl ?_
  refine js_iload_n rfl ?_
  refine js_iconst (v := (1 : Int32)) rfl ?_
  refine js_iload_n rfl ?_
  refine js_ishl ?_
  refine js_ior ?_
  obtain ⟨hb2, hf⟩ := jg_some hf
  refine js_iald rfl hb2 ?_
  refine js_iadd ?_
  cases hf
  exact js_iret rfl rfl
/-! SwallowsAirModel.onesOf(I)I -/
def f_M_onesOf_4  : Nat → Int32 → Int32 → Option (Int32)
  | 0, _, _ => none
  | n + 1, l2, l3 =>
    if jp_c .eq l3 0 = true then (
    some l2) else (
    f_M_onesOf_4 n (l2 + (1 : Int32)) (l3 &&& (l3 - (1 : Int32))))
theorem t_M_onesOf_4 {Ln : Nat} {xs : Nat → Int32} {sv : jp_V} {d : Nat} (hd : 0 ≤ d)  : ∀ (n : Nat) (l2 : Int32) (l3 : Int32) (o0 : Option jp_V) (o1 : Option jp_V) (w : Nat) (M : jp_M) {res : Int32}, f_M_onesOf_4 n  l2 l3 = some res → jR (jZ (jK Ln xs sv)) d 169 4 ([o0, o1, some (.inl l2), some (.inl l3)], [], jSH w, M) (some (.inl res), jSH w, M) := by
  intro n
  induction n with
  | zero =>
    intro l2 l3 o0 o1 w M res hf
    cases hf
  | succ n ih =>
    intro l2 l3 o0 o1 w M res hf
    rw [f_M_onesOf_4] at hf
    refine jR_in rfl ⟨rfl, rfl, rfl⟩ rfl ?_
    refine js_iload_n rfl ?_
    refine js_ifc (tgt := 21) rfl rfl (fun h => ?_) (fun h => ?_)
    · have hf := jif_t hf h
      refine jR_in rfl ⟨rfl, rfl, rfl⟩ rfl ?_
      refine js_iload_n rfl ?_
      cases hf
      exact js_iret rfl rfl
    · have hf := jif_f hf h
      refine js_iload_n rfl ?_
      refine js_iconst (v := (1 : Int32)) rfl ?_
      refine js_iadd ?_
      refine js_istore_n rfl rfl ?_
      refine js_iload_n rfl ?_
      refine js_iload_n rfl ?_
      refine js_iconst (v := (1 : Int32)) rfl ?_
      refine js_isub ?_
      refine js_iand ?_
      refine js_istore_n rfl rfl ?_
      refine js_goto (tgt := 4) rfl rfl ?_
      exact ih _ _ _ _ _ _ hf
def f_M_onesOf (a1 : Int32) : Option (Int32) :=
  f_M_onesOf_4 jFu (0 : Int32) a1
theorem t_M_onesOf {Ln : Nat} {xs : Nat → Int32} {sv : jp_V} {a1 : Int32} {w : Nat} {M : jp_M} {res : Int32} (hf : f_M_onesOf a1 = some res) : jE (jZ (jK Ln xs sv)) 0 169 [(.inr (some 104)), (.inl a1)] (jSH w) M (some (.inl res), jSH w, M) := by
  unfold f_M_onesOf at hf
  refine jE_in (L0 := [some (.inr (some 104)), some (.inl a1), some (.inl (0 : Int32)), some (.inl a1)]) rfl (by decide) rfl (fun d hd => ?_)
  refine jR_in rfl ⟨rfl, rfl, rfl⟩ rfl ?_
  refine js_iconst (v := (0 : Int32)) rfl ?_
  refine js_istore_n rfl rfl ?_
  refine js_iload_n rfl ?_
  refine js_istore_n rfl rfl ?_
  exact jS_out rfl ⟨rfl, rfl, rfl⟩ rfl (t_M_onesOf_4 hd jFu _ _ _ _ _ _ hf)
/-! SwallowsAirModel.findsEaves()V -/
def f_M_findsEaves_67 (c2 : Int32 → jp_M → Option (jp_M)) (c17 : Int32 → Int32 → Int32 → Int32 → jp_M → Option (jp_M)) (l1 : Int32) (l2 : Int32) (l3 : Int32) (l4 : Int32) (M : jp_M) : Option (jp_M) :=
  c17 l1 l2 l3 (l4 + (1 : Int32)) M
theorem t_M_findsEaves_67 {Ln : Nat} {xs : Nat → Int32} {sv : jp_V} {d : Nat} (hd : 1 ≤ d) {c2 : Int32 → jp_M → Option (jp_M)} (hc2 : ∀ (l1 : Int32) (o2 : Option jp_V) (o3 : Option jp_V) (o4 : Option jp_V) (w : Nat) (M : jp_M) (res : jp_M), c2 l1 M = some res → jR (jZ (jK Ln xs sv)) d 281 3 ([some (.inr (some 104)), some (.inl l1), o2, o3, o4], [], jSH w, M) (none, jSH w, res)) {c17 : Int32 → Int32 → Int32 → Int32 → jp_M → Option (jp_M)} (hc17 : ∀ (l1 : Int32) (l2 : Int32) (l3 : Int32) (l4 : Int32) (w : Nat) (M : jp_M) (res : jp_M), c17 l1 l2 l3 l4 M = some res → jR (jZ (jK Ln xs sv)) d 281 30 ([some (.inr (some 104)), some (.inl l1), some (.inl l2), some (.inl l3), some (.inl l4)], [], jSH w, M) (none, jSH w, res)) (l1 : Int32) (l2 : Int32) (l3 : Int32) (l4 : Int32) (w : Nat) (M : jp_M) {res : jp_M} (hf : f_M_findsEaves_67 c2 c17 l1 l2 l3 l4 M = some res) : jR (jZ (jK Ln xs sv)) d 281 67 ([some (.inr (some 104)), some (.inl l1), some (.inl l2), some (.inl l3), some (.inl l4)], [], jSH w, M) (none, jSH w, res) := by
  unfold f_M_findsEaves_67 at hf
  refine jR_in rfl ⟨rfl, rfl, rfl⟩ rfl ?_
  refine js_iinc (v := (1 : Int32)) rfl rfl rfl rfl ?_
  refine js_goto (tgt := 30) rfl rfl ?_
  exact hc17 _ _ _ _ _ _ _ hf
def f_M_findsEaves_73 (c2 : Int32 → jp_M → Option (jp_M)) (l1 : Int32) (l3 : Int32) (M : jp_M) : Option (jp_M) :=
  jg (jp_in l1 64) (
  let M1 := jp_set M 136 (upd (M 136) (Int32.toNatClampNeg l1) l3)
  c2 (l1 + (-1 : Int32)) M1)
theorem t_M_findsEaves_73 {Ln : Nat} {xs : Nat → Int32} {sv : jp_V} {d : Nat} (hd : 1 ≤ d) {c2 : Int32 → jp_M → Option (jp_M)} (hc2 : ∀ (l1 : Int32) (o2 : Option jp_V) (o3 : Option jp_V) (o4 : Option jp_V) (w : Nat) (M : jp_M) (res : jp_M), c2 l1 M = some res → jR (jZ (jK Ln xs sv)) d 281 3 ([some (.inr (some 104)), some (.inl l1), o2, o3, o4], [], jSH w, M) (none, jSH w, res)) (l1 : Int32) (l3 : Int32) (o2 : Option jp_V) (o4 : Option jp_V) (w : Nat) (M : jp_M) {res : jp_M} (hf : f_M_findsEaves_73 c2 l1 l3 M = some res) : jR (jZ (jK Ln xs sv)) d 281 73 ([some (.inr (some 104)), some (.inl l1), o2, some (.inl l3), o4], [], jSH w, M) (none, jSH w, res) := by
  unfold f_M_findsEaves_73 at hf
  refine jR_in rfl ⟨rfl, rfl, rfl⟩ rfl ?_
  refine js_aload_n rfl ?_
  refine js_getr rfl rfl rfl ?_
  refine js_iload_n rfl ?_
  refine js_iload_n rfl ?_
  obtain ⟨hb2, hf⟩ := jg_some hf
  refine js_iast rfl hb2 ?_
  refine js_iinc (v := (-1 : Int32)) rfl rfl rfl rfl ?_
  refine js_goto (tgt := 3) rfl rfl ?_
  exact hc2 _ _ _ _ _ _ _ hf
def f_M_findsEaves_30  : Nat → (Int32 → jp_M → Option (jp_M)) → Int32 → Int32 → Int32 → Int32 → jp_M → Option (jp_M)
  | 0, _, _, _, _, _, _ => none
  | n + 1, c2, l1, l2, l3, l4, M =>
    if jp_c .ge l4 (6 : Int32) = true then (
    f_M_findsEaves_73 c2 l1 l3 M) else (
    if jp_c .ge l2 (6 : Int32) = true then (
    f_M_findsEaves_73 c2 l1 l3 M) else (
    if jp_c .ne (f_M_has l1 l4) 0 = true then (
    f_M_findsEaves_67 c2 (f_M_findsEaves_30 n c2) l1 l2 l3 l4 M) else (
    (f_M_leastBy l2 l4 l1 M).bind fun q2 => (
    f_M_findsEaves_67 c2 (f_M_findsEaves_30 n c2) l1 l2 (f_M_lesser l3 q2) l4 M))))
theorem t_M_findsEaves_30 {Ln : Nat} {xs : Nat → Int32} {sv : jp_V} {d : Nat} (hd : 1 ≤ d) {c2 : Int32 → jp_M → Option (jp_M)} (hc2 : ∀ (l1 : Int32) (o2 : Option jp_V) (o3 : Option jp_V) (o4 : Option jp_V) (w : Nat) (M : jp_M) (res : jp_M), c2 l1 M = some res → jR (jZ (jK Ln xs sv)) d 281 3 ([some (.inr (some 104)), some (.inl l1), o2, o3, o4], [], jSH w, M) (none, jSH w, res)) : ∀ (n : Nat) (l1 : Int32) (l2 : Int32) (l3 : Int32) (l4 : Int32) (w : Nat) (M : jp_M) {res : jp_M}, f_M_findsEaves_30 n c2 l1 l2 l3 l4 M = some res → jR (jZ (jK Ln xs sv)) d 281 30 ([some (.inr (some 104)), some (.inl l1), some (.inl l2), some (.inl l3), some (.inl l4)], [], jSH w, M) (none, jSH w, res) := by
  intro n
  induction n with
  | zero =>
    intro l1 l2 l3 l4 w M res hf
    cases hf
  | succ n ih =>
    intro l1 l2 l3 l4 w M res hf
    rw [f_M_findsEaves_30] at hf
    refine jR_in rfl ⟨rfl, rfl, rfl⟩ rfl ?_
    refine js_iload rfl ?_
    refine js_bipush (v := (6 : Int32)) rfl ?_
    refine js_icmp (tgt := 73) rfl rfl (fun h => ?_) (fun h => ?_)
    · have hf := jif_t hf h
      exact t_M_findsEaves_73 hd hc2 _ _ _ _ _ _ hf
    · have hf := jif_f hf h
      refine js_iload_n rfl ?_
      refine js_bipush (v := (6 : Int32)) rfl ?_
      refine js_icmp (tgt := 73) rfl rfl (fun h => ?_) (fun h => ?_)
      · have hf := jif_t hf h
        exact t_M_findsEaves_73 hd hc2 _ _ _ _ _ _ hf
      · have hf := jif_f hf h
        refine js_aload_n rfl ?_
        refine js_iload_n rfl ?_
        refine js_iload rfl ?_
        refine js_c3i rfl rfl ⟨rfl, rfl⟩ rfl rfl (t_M_has rfl) (by omega) ?_
        refine js_ifc (tgt := 67) rfl rfl (fun h => ?_) (fun h => ?_)
        · have hf := jif_t hf h
          exact t_M_findsEaves_67 hd hc2 (fun l1 l2 l3 l4 w M res hf => ih l1 l2 l3 l4 w M hf) _ _ _ _ _ _ hf
        · have hf := jif_f hf h
          refine js_aload_n rfl ?_
          refine js_iload_n rfl ?_
          refine js_aload_n rfl ?_
          refine js_iload_n rfl ?_
          refine js_iload rfl ?_
          refine js_iload_n rfl ?_
          obtain ⟨q2, hc_2, hf⟩ := jbind hf
          refine js_c4i rfl rfl ⟨rfl, rfl⟩ rfl rfl (t_M_leastBy hc_2) (by omega) ?_
          refine js_c3i rfl rfl ⟨rfl, rfl⟩ rfl rfl (t_M_lesser rfl) (by omega) ?_
          refine js_istore_n rfl rfl ?_
          exact jS_out rfl ⟨rfl, rfl, rfl⟩ rfl (t_M_findsEaves_67 hd hc2 (fun l1 l2 l3 l4 w M res hf => ih l1 l2 l3 l4 w M hf) _ _ _ _ _ _ hf)
def f_M_findsEaves_26 (c2 : Int32 → jp_M → Option (jp_M)) (l1 : Int32) (l2 : Int32) (s0 : Int32) (M : jp_M) : Option (jp_M) :=
  f_M_findsEaves_30 jFu c2 l1 l2 s0 (0 : Int32) M
theorem t_M_findsEaves_26 {Ln : Nat} {xs : Nat → Int32} {sv : jp_V} {d : Nat} (hd : 1 ≤ d) {c2 : Int32 → jp_M → Option (jp_M)} (hc2 : ∀ (l1 : Int32) (o2 : Option jp_V) (o3 : Option jp_V) (o4 : Option jp_V) (w : Nat) (M : jp_M) (res : jp_M), c2 l1 M = some res → jR (jZ (jK Ln xs sv)) d 281 3 ([some (.inr (some 104)), some (.inl l1), o2, o3, o4], [], jSH w, M) (none, jSH w, res)) (l1 : Int32) (l2 : Int32) (s0 : Int32) (o3 : Option jp_V) (o4 : Option jp_V) (w : Nat) (M : jp_M) {res : jp_M} (hf : f_M_findsEaves_26 c2 l1 l2 s0 M = some res) : jR (jZ (jK Ln xs sv)) d 281 26 ([some (.inr (some 104)), some (.inl l1), some (.inl l2), o3, o4], [.inl s0], jSH w, M) (none, jSH w, res) := by
  unfold f_M_findsEaves_26 at hf
  refine jR_in rfl ⟨rfl, rfl, rfl⟩ rfl ?_
  refine js_istore_n rfl rfl ?_
  refine js_iconst (v := (0 : Int32)) rfl ?_
  refine js_istore rfl rfl ?_
  exact jS_out rfl ⟨rfl, rfl, rfl⟩ rfl (t_M_findsEaves_30 hd hc2 jFu _ _ _ _ _ _ hf)
def f_M_findsEaves_3  : Nat → Int32 → jp_M → Option (jp_M)
  | 0, _, _ => none
  | n + 1, l1, M =>
    if jp_c .lt l1 0 = true then (
    some M) else (
    (f_M_onesOf l1).bind fun q1 => (
    if jp_c .ne q1 (6 : Int32) = true then (
    f_M_findsEaves_26 (f_M_findsEaves_3 n ) l1 q1 (100000000 : Int32) M) else (
    f_M_findsEaves_26 (f_M_findsEaves_3 n ) l1 q1 (0 : Int32) M)))
theorem t_M_findsEaves_3 {Ln : Nat} {xs : Nat → Int32} {sv : jp_V} {d : Nat} (hd : 1 ≤ d)  : ∀ (n : Nat) (l1 : Int32) (o2 : Option jp_V) (o3 : Option jp_V) (o4 : Option jp_V) (w : Nat) (M : jp_M) {res : jp_M}, f_M_findsEaves_3 n  l1 M = some res → jR (jZ (jK Ln xs sv)) d 281 3 ([some (.inr (some 104)), some (.inl l1), o2, o3, o4], [], jSH w, M) (none, jSH w, res) := by
  intro n
  induction n with
  | zero =>
    intro l1 o2 o3 o4 w M res hf
    cases hf
  | succ n ih =>
    intro l1 o2 o3 o4 w M res hf
    rw [f_M_findsEaves_3] at hf
    refine jR_in rfl ⟨rfl, rfl, rfl⟩ rfl ?_
    refine js_iload_n rfl ?_
    refine js_ifc (tgt := 86) rfl rfl (fun h => ?_) (fun h => ?_)
    · have hf := jif_t hf h
      refine jR_in rfl ⟨rfl, rfl, rfl⟩ rfl ?_
      cases hf
      exact js_ret rfl rfl
    · have hf := jif_f hf h
      refine js_aload_n rfl ?_
      refine js_iload_n rfl ?_
      obtain ⟨q1, hc_1, hf⟩ := jbind hf
      refine js_c2i rfl rfl ⟨rfl, rfl⟩ rfl rfl (t_M_onesOf hc_1) (by omega) ?_
      refine js_istore_n rfl rfl ?_
      refine js_iload_n rfl ?_
      refine js_bipush (v := (6 : Int32)) rfl ?_
      refine js_icmp (tgt := 23) rfl rfl (fun h => ?_) (fun h => ?_)
      · have hf := jif_t hf h
        refine jR_in rfl ⟨rfl, rfl, rfl⟩ rfl ?_
        refine js_ldcw (v := (100000000 : Int32)) rfl ?_
        exact jS_out rfl ⟨rfl, rfl, rfl⟩ rfl (t_M_findsEaves_26 hd (fun l1 o2 o3 o4 w M res hf => ih l1 o2 o3 o4 w M hf) _ _ _ _ _ _ _ hf)
      · have hf := jif_f hf h
        refine js_iconst (v := (0 : Int32)) rfl ?_
        refine js_goto (tgt := 26) rfl rfl ?_
        exact t_M_findsEaves_26 hd (fun l1 o2 o3 o4 w M res hf => ih l1 o2 o3 o4 w M hf) _ _ _ _ _ _ _ hf
def f_M_findsEaves (M : jp_M) : Option (jp_M) :=
  f_M_findsEaves_3 jFu (63 : Int32) M
theorem t_M_findsEaves {Ln : Nat} {xs : Nat → Int32} {sv : jp_V} {w : Nat} {M : jp_M} {res : jp_M} (hf : f_M_findsEaves M = some res) : jE (jZ (jK Ln xs sv)) 1 281 [(.inr (some 104))] (jSH w) M (none, jSH w, res) := by
  unfold f_M_findsEaves at hf
  refine jE_in (L0 := [some (.inr (some 104)), some (.inl (63 : Int32)), none, none, none]) rfl (by decide) rfl (fun d hd => ?_)
  refine jR_in rfl ⟨rfl, rfl, rfl⟩ rfl ?_
  refine js_bipush (v := (63 : Int32)) rfl ?_
  refine js_istore_n rfl rfl ?_
  exact jS_out rfl ⟨rfl, rfl, rfl⟩ rfl (t_M_findsEaves_3 hd jFu _ _ _ _ _ _ hf)
/-! SwallowsAir$World.becomes(LSwallowsAir$World;)V -/
def f_W_becomes (M : jp_M) : jp_M :=
  let M1 := jp_set M 80 (upd (M 80) 0 (M 2 0))
  let M2 := jp_set M1 80 (upd (M1 80) 1 (M1 2 1))
  let M3 := jp_set M2 80 (upd (M2 80) 2 (M2 2 2))
  let M4 := jp_set M3 80 (upd (M3 80) 3 (M3 2 3))
  let M5 := jp_set M4 80 (upd (M4 80) 4 (M4 2 4))
  let M6 := jp_set M5 80 (upd (M5 80) 5 (M5 2 5))
  let M7 := jp_set M6 80 (upd (M6 80) 6 (M6 2 6))
  let M8 := jp_set M7 80 (upd (M7 80) 7 (M7 2 7))
  let M9 := jp_set M8 81 (va_cpy (M8 3) (M8 81) 0 0 50)
  let M10 := jp_set M9 82 (va_cpy (M9 4) (M9 82) 0 0 30)
  let M11 := jp_set M10 83 (va_cpy (M10 5) (M10 83) 0 0 128)
  M11
theorem t_W_becomes {Ln : Nat} {xs : Nat → Int32} {sv : jp_V} {w : Nat} {M : jp_M} {res : jp_M} (hf : f_W_becomes M = res) : jE (jZ (jK Ln xs sv)) 0 96 [(.inr (some 80)), (.inr (some 2))] (jSH w) M (none, jSH w, res) := by
  unfold f_W_becomes at hf
  refine jE_in (L0 := [some (.inr (some 80)), some (.inr (some 2))]) rfl (by decide) rfl (fun d hd => ?_)
  refine jR_in rfl ⟨rfl, rfl, rfl⟩ rfl ?_
  refine js_aload_n rfl ?_
  refine js_ifnonnull (tgt := 5) rfl rfl ?_
  refine jR_in rfl ⟨rfl, rfl, rfl⟩ rfl ?_
  refine js_aload_n rfl ?_
  refine js_aload_n rfl ?_
  refine js_geti rfl rfl rfl ?_
  refine js_puti rfl rfl (Or.inl rfl) ?_
  refine js_aload_n rfl ?_
  refine js_aload_n rfl ?_
  refine js_geti rfl rfl rfl ?_
  refine js_puti rfl rfl (Or.inl rfl) ?_
  refine js_aload_n rfl ?_
  refine js_aload_n rfl ?_
  refine js_geti rfl rfl rfl ?_
  refine js_puti rfl rfl (Or.inl rfl) ?_
  refine js_aload_n rfl ?_
  refine js_aload_n rfl ?_
  refine js_geti rfl rfl rfl ?_
  refine js_puti rfl rfl (Or.inl rfl) ?_
  refine js_aload_n rfl ?_
  refine js_aload_n rfl ?_
  refine js_geti rfl rfl rfl ?_
  refine js_puti rfl rfl (Or.inl rfl) ?_
  refine js_aload_n rfl ?_
  refine js_aload_n rfl ?_
  refine js_geti rfl rfl rfl ?_
  refine js_puti rfl rfl (Or.inl rfl) ?_
  refine js_aload_n rfl ?_
  refine js_aload_n rfl ?_
  refine js_geti rfl rfl rfl ?_
  refine js_puti rfl rfl (Or.inl rfl) ?_
  refine js_aload_n rfl ?_
  refine js_aload_n rfl ?_
  refine js_geti rfl rfl rfl ?_
  refine js_puti rfl rfl (Or.inl rfl) ?_
  refine js_aload_n rfl ?_
  refine js_getr rfl rfl rfl ?_
  refine js_iconst (v := (0 : Int32)) rfl ?_
  refine js_aload_n rfl ?_
  refine js_getr rfl rfl rfl ?_
  refine js_iconst (v := (0 : Int32)) rfl ?_
  refine js_aload_n rfl ?_
  refine js_getr rfl rfl rfl ?_
  refine js_alen (v := (50 : Int32)) rfl rfl rfl ?_
  refine js_copy rfl rfl rfl (by decide) (by decide) rfl ?_
  refine js_aload_n rfl ?_
  refine js_getr rfl rfl rfl ?_
  refine js_iconst (v := (0 : Int32)) rfl ?_
  refine js_aload_n rfl ?_
  refine js_getr rfl rfl rfl ?_
  refine js_iconst (v := (0 : Int32)) rfl ?_
  refine js_aload_n rfl ?_
  refine js_getr rfl rfl rfl ?_
  refine js_alen (v := (30 : Int32)) rfl rfl rfl ?_
  refine js_copy rfl rfl rfl (by decide) (by decide) rfl ?_
  refine js_aload_n rfl ?_
  refine js_getr rfl rfl rfl ?_
  refine js_iconst (v := (0 : Int32)) rfl ?_
  refine js_aload_n rfl ?_
  refine js_getr rfl rfl rfl ?_
  refine js_iconst (v := (0 : Int32)) rfl ?_
  refine js_aload_n rfl ?_
  refine js_getr rfl rfl rfl ?_
  refine js_alen (v := (128 : Int32)) rfl rfl rfl ?_
  refine js_copy rfl rfl rfl (by decide) (by decide) rfl ?_
  subst hf
  exact js_ret rfl rfl
/-! SwallowsAir.forgetKept()V -/
def f_C_forgetKept (M : jp_M) : jp_M :=
  let M1 := jp_set M 0 (upd (M 0) 4 (0 : Int32))
  M1
theorem t_C_forgetKept {Ln : Nat} {xs : Nat → Int32} {sv : jp_V} {w : Nat} {M : jp_M} {res : jp_M} (hf : f_C_forgetKept M = res) : jE (jZ (jK Ln xs sv)) 0 160 [(.inr (some 0))] (jSH w) M (none, jSH w, res) := by
  unfold f_C_forgetKept at hf
  refine jE_in (L0 := [some (.inr (some 0))]) rfl (by decide) rfl (fun d hd => ?_)
  refine jR_in rfl ⟨rfl, rfl, rfl⟩ rfl ?_
  refine js_aload_n rfl ?_
  refine js_iconst (v := (0 : Int32)) rfl ?_
  refine js_puti rfl rfl (Or.inl rfl) ?_
  subst hf
  exact js_ret rfl rfl
/-! SwallowsAir.state(I)I -/
def f_C_state (a1 : Int32) (M : jp_M) : Int32 × jp_M :=
  let M1 := jp_set M 2 (upd (M 2) 0 a1)
  let q2 := f_C_forgetKept M1
  ((M 2 0), q2)
theorem t_C_state {Ln : Nat} {xs : Nat → Int32} {sv : jp_V} {a1 : Int32} {w : Nat} {M : jp_M} {res : Int32 × jp_M} (hf : f_C_state a1 M = res) : jE (jZ (jK Ln xs sv)) 1 112 [(.inr (some 0)), (.inl a1)] (jSH w) M (some (.inl res.1), jSH w, res.2) := by
  unfold f_C_state at hf
  refine jE_in (L0 := [some (.inr (some 0)), some (.inl a1), some (.inl (M 2 0))]) rfl (by decide) rfl (fun d hd => ?_)
  refine jR_in rfl ⟨rfl, rfl, rfl⟩ rfl ?_
  refine js_aload_n rfl ?_
  refine js_getr rfl rfl rfl ?_
  refine js_getr rfl rfl rfl ?_
  refine js_geti rfl rfl rfl ?_
  refine js_istore_n rfl rfl ?_
  refine js_aload_n rfl ?_
  refine js_getr rfl rfl rfl ?_
  refine js_getr rfl rfl rfl ?_
  refine js_iload_n rfl ?_
  refine js_puti rfl rfl (Or.inl rfl) ?_
  refine js_aload_n rfl ?_
  refine js_c1v rfl rfl ⟨rfl, rfl⟩ rfl rfl (t_C_forgetKept rfl) (by omega) ?_
  refine js_iload_n rfl ?_
  subst hf
  exact js_iret rfl rfl
/-! SwallowsAir$World.isSummer()Z -/
def f_W_isSummer (M : jp_M) : Int32 :=
  if jp_c .lt ((M 2 1) % (360 : Int32)) (90 : Int32) = true then (
  (0 : Int32)) else (
  if jp_c .gt ((M 2 1) % (360 : Int32)) (269 : Int32) = true then (
  (0 : Int32)) else (
  (1 : Int32)))
theorem t_W_isSummer {Ln : Nat} {xs : Nat → Int32} {sv : jp_V} {w : Nat} {M : jp_M} {res : Int32} (hf : f_W_isSummer M = res) : jE (jZ (jK Ln xs sv)) 0 99 [(.inr (some 2))] (jSH w) M (some (.inl res), jSH w, M) := by
  unfold f_W_isSummer at hf
  refine jE_in (L0 := [some (.inr (some 2)), some (.inl ((M 2 1) % (360 : Int32)))]) rfl (by decide) rfl (fun d hd => ?_)
  refine jR_in rfl ⟨rfl, rfl, rfl⟩ rfl ?_
  refine js_aload_n rfl ?_
  refine js_geti rfl rfl rfl ?_
  refine js_sipush (v := (360 : Int32)) rfl ?_
  refine js_irem (by decide) ?_
  refine js_istore_n rfl rfl ?_
  refine js_iload_n rfl ?_
  refine js_bipush (v := (90 : Int32)) rfl ?_
  refine js_icmp (tgt := 26) rfl rfl (fun h => ?_) (fun h => ?_)
  · have hf := jif_t hf h
    refine jR_in rfl ⟨rfl, rfl, rfl⟩ rfl ?_
    refine js_iconst (v := (0 : Int32)) rfl ?_
    subst hf
    exact js_iret rfl rfl
  · have hf := jif_f hf h
    refine js_iload_n rfl ?_
    refine js_sipush (v := (269 : Int32)) rfl ?_
    refine js_icmp (tgt := 26) rfl rfl (fun h => ?_) (fun h => ?_)
    · have hf := jif_t hf h
      refine jR_in rfl ⟨rfl, rfl, rfl⟩ rfl ?_
      refine js_iconst (v := (0 : Int32)) rfl ?_
      subst hf
      exact js_iret rfl rfl
    · have hf := jif_f hf h
      refine js_iconst (v := (1 : Int32)) rfl ?_
      refine js_goto (tgt := 27) rfl rfl ?_
      refine jR_in rfl ⟨rfl, rfl, rfl⟩ rfl ?_
      subst hf
      exact js_iret rfl rfl
theorem b_W_isSummer {M : jp_M} {res : Int32} (hf : f_W_isSummer M = res) : res = 0 ∨ res = 1 := by
  unfold f_W_isSummer at hf
  rcases jif_d hf with ⟨h, hf⟩ | ⟨h, hf⟩
  · subst hf
    exact Or.inl rfl
  · rcases jif_d hf with ⟨h, hf⟩ | ⟨h, hf⟩
    · subst hf
      exact Or.inl rfl
    · subst hf
      exact Or.inr rfl
/-! SwallowsAir$Law.joined(III)I -/
def f_L_joined (a0 : Int32) (a1 : Int32) (a2 : Int32) : Option (Int32) :=
  if a0 = (38 : Int32) then (
  some (a1 &&& a2)) else if a0 = (39 : Int32) then (
  some (a1 ||| a2)) else if a0 = (40 : Int32) then (
  some (a1 ||| a2)) else if a0 = (41 : Int32) then (
  some (a1 ||| a2)) else if a0 = (42 : Int32) then (
  some (a1 * a2)) else if a0 = (43 : Int32) then (
  some (a1 + a2)) else if a0 = (44 : Int32) then (
  some (a1 ||| a2)) else if a0 = (45 : Int32) then (
  some (a1 - a2)) else if a0 = (46 : Int32) then (
  some (a1 ||| a2)) else if a0 = (47 : Int32) then (
  if jp_c .ne a2 0 = true then (
  jg (¬ a2 = 0) (
  some (a1 / a2))) else (
  some (0 : Int32))) else if a0 = (48 : Int32) then (
  some (a1 ||| a2)) else if a0 = (49 : Int32) then (
  some (a1 ||| a2)) else if a0 = (50 : Int32) then (
  some (a1 ||| a2)) else if a0 = (51 : Int32) then (
  some (a1 ||| a2)) else if a0 = (52 : Int32) then (
  some (a1 ||| a2)) else if a0 = (53 : Int32) then (
  some (a1 ||| a2)) else if a0 = (54 : Int32) then (
  some (a1 ||| a2)) else if a0 = (55 : Int32) then (
  some (a1 ||| a2)) else if a0 = (56 : Int32) then (
  some (a1 ||| a2)) else if a0 = (57 : Int32) then (
  some (a1 ||| a2)) else if a0 = (58 : Int32) then (
  some (a1 ||| a2)) else if a0 = (59 : Int32) then (
  some (a1 ||| a2)) else if a0 = (60 : Int32) then (
  if jp_c .ge a1 a2 = true then (
  some (0 : Int32)) else (
  some (1 : Int32))) else if a0 = (61 : Int32) then (
  if jp_c .ne a1 a2 = true then (
  some (0 : Int32)) else (
  some (1 : Int32))) else if a0 = (62 : Int32) then (
  if jp_c .le a1 a2 = true then (
  some (0 : Int32)) else (
  some (1 : Int32))) else (
  some (a1 ||| a2))
theorem t_L_joined {Ln : Nat} {xs : Nat → Int32} {sv : jp_V} {a0 : Int32} {a1 : Int32} {a2 : Int32} {w : Nat} {M : jp_M} {res : Int32} (hf : f_L_joined a0 a1 a2 = some res) : jE (jZ (jK Ln xs sv)) 0 41 [(.inl a0), (.inl a1), (.inl a2)] (jSH w) M (some (.inl res), jSH w, M) := by
  unfold f_L_joined at hf
  refine jE_in (L0 := [some (.inl a0), some (.inl a1), some (.inl a2)]) rfl (by decide) rfl (fun d hd => ?_)
  refine jR_in rfl ⟨rfl, rfl, rfl⟩ rfl ?_
  refine js_iload_n rfl ?_
  rcases jif_d hf with ⟨hk, hf⟩ | ⟨hk38, hf⟩
  · refine js_tabIn (v := (38 : Int32)) (off := 172) (tgt := 173) hk rfl rfl rfl rfl ?_
    refine jR_in rfl ⟨rfl, rfl, rfl⟩ rfl ?_
    refine js_iload_n rfl ?_
    refine js_iload_n rfl ?_
    refine js_iand ?_
    cases hf
    exact js_iret rfl rfl
  · rcases jif_d hf with ⟨hk, hf⟩ | ⟨hk39, hf⟩
    · refine js_tabIn (v := (39 : Int32)) (off := 176) (tgt := 177) hk rfl rfl rfl rfl ?_
      refine jR_in rfl ⟨rfl, rfl, rfl⟩ rfl ?_
      refine js_iload_n rfl ?_
      refine js_iload_n rfl ?_
      refine js_ior ?_
      cases hf
      exact js_iret rfl rfl
    · rcases jif_d hf with ⟨hk, hf⟩ | ⟨hk40, hf⟩
      · refine js_tabIn (v := (40 : Int32)) (off := 176) (tgt := 177) hk rfl rfl rfl rfl ?_
        refine jR_in rfl ⟨rfl, rfl, rfl⟩ rfl ?_
        refine js_iload_n rfl ?_
        refine js_iload_n rfl ?_
        refine js_ior ?_
        cases hf
        exact js_iret rfl rfl
      · rcases jif_d hf with ⟨hk, hf⟩ | ⟨hk41, hf⟩
        · refine js_tabIn (v := (41 : Int32)) (off := 176) (tgt := 177) hk rfl rfl rfl rfl ?_
          refine jR_in rfl ⟨rfl, rfl, rfl⟩ rfl ?_
          refine js_iload_n rfl ?_
          refine js_iload_n rfl ?_
          refine js_ior ?_
          cases hf
          exact js_iret rfl rfl
        · rcases jif_d hf with ⟨hk, hf⟩ | ⟨hk42, hf⟩
          · refine js_tabIn (v := (42 : Int32)) (off := 123) (tgt := 124) hk rfl rfl rfl rfl ?_
            refine jR_in rfl ⟨rfl, rfl, rfl⟩ rfl ?_
            refine js_iload_n rfl ?_
            refine js_iload_n rfl ?_
            refine js_imul ?_
            cases hf
            exact js_iret rfl rfl
          · rcases jif_d hf with ⟨hk, hf⟩ | ⟨hk43, hf⟩
            · refine js_tabIn (v := (43 : Int32)) (off := 115) (tgt := 116) hk rfl rfl rfl rfl ?_
              refine jR_in rfl ⟨rfl, rfl, rfl⟩ rfl ?_
              refine js_iload_n rfl ?_
              refine js_iload_n rfl ?_
              refine js_iadd ?_
              cases hf
              exact js_iret rfl rfl
            · rcases jif_d hf with ⟨hk, hf⟩ | ⟨hk44, hf⟩
              · refine js_tabIn (v := (44 : Int32)) (off := 176) (tgt := 177) hk rfl rfl rfl rfl ?_
                refine jR_in rfl ⟨rfl, rfl, rfl⟩ rfl ?_
                refine js_iload_n rfl ?_
                refine js_iload_n rfl ?_
                refine js_ior ?_
                cases hf
                exact js_iret rfl rfl
              · rcases jif_d hf with ⟨hk, hf⟩ | ⟨hk45, hf⟩
                · refine js_tabIn (v := (45 : Int32)) (off := 119) (tgt := 120) hk rfl rfl rfl rfl ?_
                  refine jR_in rfl ⟨rfl, rfl, rfl⟩ rfl ?_
                  refine js_iload_n rfl ?_
                  refine js_iload_n rfl ?_
                  refine js_isub ?_
                  cases hf
                  exact js_iret rfl rfl
                · rcases jif_d hf with ⟨hk, hf⟩ | ⟨hk46, hf⟩
                  · refine js_tabIn (v := (46 : Int32)) (off := 176) (tgt := 177) hk rfl rfl rfl rfl ?_
                    refine jR_in rfl ⟨rfl, rfl, rfl⟩ rfl ?_
                    refine js_iload_n rfl ?_
                    refine js_iload_n rfl ?_
                    refine js_ior ?_
                    cases hf
                    exact js_iret rfl rfl
                  · rcases jif_d hf with ⟨hk, hf⟩ | ⟨hk47, hf⟩
                    · refine js_tabIn (v := (47 : Int32)) (off := 127) (tgt := 128) hk rfl rfl rfl rfl ?_
                      refine jR_in rfl ⟨rfl, rfl, rfl⟩ rfl ?_
                      refine js_iload_n rfl ?_
                      refine js_ifc (tgt := 136) rfl rfl (fun h => ?_) (fun h => ?_)
                      · have hf := jif_t hf h
                        refine jR_in rfl ⟨rfl, rfl, rfl⟩ rfl ?_
                        refine js_iload_n rfl ?_
                        refine js_iload_n rfl ?_
                        obtain ⟨hb2, hf⟩ := jg_some hf
                        refine js_idiv hb2 ?_
                        cases hf
                        exact js_iret rfl rfl
                      · have hf := jif_f hf h
                        refine js_iconst (v := (0 : Int32)) rfl ?_
                        refine js_goto (tgt := 139) rfl rfl ?_
                        refine jR_in rfl ⟨rfl, rfl, rfl⟩ rfl ?_
                        cases hf
                        exact js_iret rfl rfl
                    · rcases jif_d hf with ⟨hk, hf⟩ | ⟨hk48, hf⟩
                      · refine js_tabIn (v := (48 : Int32)) (off := 176) (tgt := 177) hk rfl rfl rfl rfl ?_
                        refine jR_in rfl ⟨rfl, rfl, rfl⟩ rfl ?_
                        refine js_iload_n rfl ?_
                        refine js_iload_n rfl ?_
                        refine js_ior ?_
                        cases hf
                        exact js_iret rfl rfl
                      · rcases jif_d hf with ⟨hk, hf⟩ | ⟨hk49, hf⟩
                        · refine js_tabIn (v := (49 : Int32)) (off := 176) (tgt := 177) hk rfl rfl rfl rfl ?_
                          refine jR_in rfl ⟨rfl, rfl, rfl⟩ rfl ?_
                          refine js_iload_n rfl ?_
                          refine js_iload_n rfl ?_
                          refine js_ior ?_
                          cases hf
                          exact js_iret rfl rfl
                        · rcases jif_d hf with ⟨hk, hf⟩ | ⟨hk50, hf⟩
                          · refine js_tabIn (v := (50 : Int32)) (off := 176) (tgt := 177) hk rfl rfl rfl rfl ?_
                            refine jR_in rfl ⟨rfl, rfl, rfl⟩ rfl ?_
                            refine js_iload_n rfl ?_
                            refine js_iload_n rfl ?_
                            refine js_ior ?_
                            cases hf
                            exact js_iret rfl rfl
                          · rcases jif_d hf with ⟨hk, hf⟩ | ⟨hk51, hf⟩
                            · refine js_tabIn (v := (51 : Int32)) (off := 176) (tgt := 177) hk rfl rfl rfl rfl ?_
                              refine jR_in rfl ⟨rfl, rfl, rfl⟩ rfl ?_
                              refine js_iload_n rfl ?_
                              refine js_iload_n rfl ?_
                              refine js_ior ?_
                              cases hf
                              exact js_iret rfl rfl
                            · rcases jif_d hf with ⟨hk, hf⟩ | ⟨hk52, hf⟩
                              · refine js_tabIn (v := (52 : Int32)) (off := 176) (tgt := 177) hk rfl rfl rfl rfl ?_
                                refine jR_in rfl ⟨rfl, rfl, rfl⟩ rfl ?_
                                refine js_iload_n rfl ?_
                                refine js_iload_n rfl ?_
                                refine js_ior ?_
                                cases hf
                                exact js_iret rfl rfl
                              · rcases jif_d hf with ⟨hk, hf⟩ | ⟨hk53, hf⟩
                                · refine js_tabIn (v := (53 : Int32)) (off := 176) (tgt := 177) hk rfl rfl rfl rfl ?_
                                  refine jR_in rfl ⟨rfl, rfl, rfl⟩ rfl ?_
                                  refine js_iload_n rfl ?_
                                  refine js_iload_n rfl ?_
                                  refine js_ior ?_
                                  cases hf
                                  exact js_iret rfl rfl
                                · rcases jif_d hf with ⟨hk, hf⟩ | ⟨hk54, hf⟩
                                  · refine js_tabIn (v := (54 : Int32)) (off := 176) (tgt := 177) hk rfl rfl rfl rfl ?_
                                    refine jR_in rfl ⟨rfl, rfl, rfl⟩ rfl ?_
                                    refine js_iload_n rfl ?_
                                    refine js_iload_n rfl ?_
                                    refine js_ior ?_
                                    cases hf
                                    exact js_iret rfl rfl
                                  · rcases jif_d hf with ⟨hk, hf⟩ | ⟨hk55, hf⟩
                                    · refine js_tabIn (v := (55 : Int32)) (off := 176) (tgt := 177) hk rfl rfl rfl rfl ?_
                                      refine jR_in rfl ⟨rfl, rfl, rfl⟩ rfl ?_
                                      refine js_iload_n rfl ?_
                                      refine js_iload_n rfl ?_
                                      refine js_ior ?_
                                      cases hf
                                      exact js_iret rfl rfl
                                    · rcases jif_d hf with ⟨hk, hf⟩ | ⟨hk56, hf⟩
                                      · refine js_tabIn (v := (56 : Int32)) (off := 176) (tgt := 177) hk rfl rfl rfl rfl ?_
                                        refine jR_in rfl ⟨rfl, rfl, rfl⟩ rfl ?_
                                        refine js_iload_n rfl ?_
                                        refine js_iload_n rfl ?_
                                        refine js_ior ?_
                                        cases hf
                                        exact js_iret rfl rfl
                                      · rcases jif_d hf with ⟨hk, hf⟩ | ⟨hk57, hf⟩
                                        · refine js_tabIn (v := (57 : Int32)) (off := 176) (tgt := 177) hk rfl rfl rfl rfl ?_
                                          refine jR_in rfl ⟨rfl, rfl, rfl⟩ rfl ?_
                                          refine js_iload_n rfl ?_
                                          refine js_iload_n rfl ?_
                                          refine js_ior ?_
                                          cases hf
                                          exact js_iret rfl rfl
                                        · rcases jif_d hf with ⟨hk, hf⟩ | ⟨hk58, hf⟩
                                          · refine js_tabIn (v := (58 : Int32)) (off := 176) (tgt := 177) hk rfl rfl rfl rfl ?_
                                            refine jR_in rfl ⟨rfl, rfl, rfl⟩ rfl ?_
                                            refine js_iload_n rfl ?_
                                            refine js_iload_n rfl ?_
                                            refine js_ior ?_
                                            cases hf
                                            exact js_iret rfl rfl
                                          · rcases jif_d hf with ⟨hk, hf⟩ | ⟨hk59, hf⟩
                                            · refine js_tabIn (v := (59 : Int32)) (off := 176) (tgt := 177) hk rfl rfl rfl rfl ?_
                                              refine jR_in rfl ⟨rfl, rfl, rfl⟩ rfl ?_
                                              refine js_iload_n rfl ?_
                                              refine js_iload_n rfl ?_
                                              refine js_ior ?_
                                              cases hf
                                              exact js_iret rfl rfl
                                            · rcases jif_d hf with ⟨hk, hf⟩ | ⟨hk60, hf⟩
                                              · refine js_tabIn (v := (60 : Int32)) (off := 139) (tgt := 140) hk rfl rfl rfl rfl ?_
                                                refine jR_in rfl ⟨rfl, rfl, rfl⟩ rfl ?_
                                                refine js_iload_n rfl ?_
                                                refine js_iload_n rfl ?_
                                                refine js_icmp (tgt := 149) rfl rfl (fun h => ?_) (fun h => ?_)
                                                · have hf := jif_t hf h
                                                  refine jR_in rfl ⟨rfl, rfl, rfl⟩ rfl ?_
                                                  refine js_iconst (v := (0 : Int32)) rfl ?_
                                                  cases hf
                                                  exact js_iret rfl rfl
                                                · have hf := jif_f hf h
                                                  refine js_iconst (v := (1 : Int32)) rfl ?_
                                                  refine js_goto (tgt := 150) rfl rfl ?_
                                                  refine jR_in rfl ⟨rfl, rfl, rfl⟩ rfl ?_
                                                  cases hf
                                                  exact js_iret rfl rfl
                                              · rcases jif_d hf with ⟨hk, hf⟩ | ⟨hk61, hf⟩
                                                · refine js_tabIn (v := (61 : Int32)) (off := 150) (tgt := 151) hk rfl rfl rfl rfl ?_
                                                  refine jR_in rfl ⟨rfl, rfl, rfl⟩ rfl ?_
                                                  refine js_iload_n rfl ?_
                                                  refine js_iload_n rfl ?_
                                                  refine js_icmp (tgt := 160) rfl rfl (fun h => ?_) (fun h => ?_)
                                                  · have hf := jif_t hf h
                                                    refine jR_in rfl ⟨rfl, rfl, rfl⟩ rfl ?_
                                                    refine js_iconst (v := (0 : Int32)) rfl ?_
                                                    cases hf
                                                    exact js_iret rfl rfl
                                                  · have hf := jif_f hf h
                                                    refine js_iconst (v := (1 : Int32)) rfl ?_
                                                    refine js_goto (tgt := 161) rfl rfl ?_
                                                    refine jR_in rfl ⟨rfl, rfl, rfl⟩ rfl ?_
                                                    cases hf
                                                    exact js_iret rfl rfl
                                                · rcases jif_d hf with ⟨hk, hf⟩ | ⟨hk62, hf⟩
                                                  · refine js_tabIn (v := (62 : Int32)) (off := 161) (tgt := 162) hk rfl rfl rfl rfl ?_
                                                    refine jR_in rfl ⟨rfl, rfl, rfl⟩ rfl ?_
                                                    refine js_iload_n rfl ?_
                                                    refine js_iload_n rfl ?_
                                                    refine js_icmp (tgt := 171) rfl rfl (fun h => ?_) (fun h => ?_)
                                                    · have hf := jif_t hf h
                                                      refine jR_in rfl ⟨rfl, rfl, rfl⟩ rfl ?_
                                                      refine js_iconst (v := (0 : Int32)) rfl ?_
                                                      cases hf
                                                      exact js_iret rfl rfl
                                                    · have hf := jif_f hf h
                                                      refine js_iconst (v := (1 : Int32)) rfl ?_
                                                      refine js_goto (tgt := 172) rfl rfl ?_
                                                      refine jR_in rfl ⟨rfl, rfl, rfl⟩ rfl ?_
                                                      cases hf
                                                      exact js_iret rfl rfl
                                                  · refine js_tabOut (tgt := 177) (jsw_2 hk38 hk39 hk40 hk41 hk42 hk43 hk44 hk45 hk46 hk47 hk48 hk49 hk50 hk51 hk52 hk53 hk54 hk55 hk56 hk57 hk58 hk59 hk60 hk61 hk62) rfl rfl ?_
                                                    refine jR_in rfl ⟨rfl, rfl, rfl⟩ rfl ?_
                                                    refine js_iload_n rfl ?_
                                                    refine js_iload_n rfl ?_
                                                    refine js_ior ?_
                                                    cases hf
                                                    exact js_iret rfl rfl
/-! SwallowsAir$Law.usual(I)I -/
def f_L_usual (a1 : Int32) (M : jp_M) : Int32 :=
  if a1 = (0 : Int32) then (
  (((800 : Int32) - ((60 : Int32) * (M 12 1))) - ((100 : Int32) * (M 12 6)))) else if a1 = (1 : Int32) then (
  ((M 12 2) + (M 12 1))) else (
  ((5 : Int32) * (M 12 2)))
theorem t_L_usual {Ln : Nat} {xs : Nat → Int32} {sv : jp_V} {a1 : Int32} {w : Nat} {M : jp_M} {res : Int32} (hf : f_L_usual a1 M = res) : jE (jZ (jK Ln xs sv)) 0 38 [(.inr (some 7)), (.inl a1)] (jSH w) M (some (.inl res), jSH w, M) := by
  unfold f_L_usual at hf
  refine jE_in (L0 := [some (.inr (some 7)), some (.inl a1), some (.inl (M 12 1)), some (.inl (M 12 2))]) rfl (by decide) rfl (fun d hd => ?_)
  refine jR_in rfl ⟨rfl, rfl, rfl⟩ rfl ?_
  refine js_aload_n rfl ?_
  refine js_getr rfl rfl rfl ?_
  refine js_iconst (v := (1 : Int32)) rfl ?_
  refine js_iald rfl (by decide) ?_
  refine js_istore_n rfl rfl ?_
  refine js_aload_n rfl ?_
  refine js_getr rfl rfl rfl ?_
  refine js_iconst (v := (2 : Int32)) rfl ?_
  refine js_iald rfl (by decide) ?_
  refine js_istore_n rfl rfl ?_
  refine js_iload_n rfl ?_
  rcases jif_d hf with ⟨hk, hf⟩ | ⟨hk0, hf⟩
  · refine js_look (off := 25) (tgt := 40) rfl (by rw [hk]; rfl) rfl rfl ?_
    refine jR_in rfl ⟨rfl, rfl, rfl⟩ rfl ?_
    refine js_sipush (v := (800 : Int32)) rfl ?_
    refine js_bipush (v := (60 : Int32)) rfl ?_
    refine js_iload_n rfl ?_
    refine js_imul ?_
    refine js_isub ?_
    refine js_bipush (v := (100 : Int32)) rfl ?_
    refine js_aload_n rfl ?_
    refine js_getr rfl rfl rfl ?_
    refine js_bipush (v := (6 : Int32)) rfl ?_
    refine js_iald rfl (by decide) ?_
    refine js_imul ?_
    refine js_isub ?_
    subst hf
    exact js_iret rfl rfl
  · rcases jif_d hf with ⟨hk, hf⟩ | ⟨hk1, hf⟩
    · refine js_look (off := 45) (tgt := 60) rfl (by rw [hk]; rfl) rfl rfl ?_
      refine jR_in rfl ⟨rfl, rfl, rfl⟩ rfl ?_
      refine js_iload_n rfl ?_
      refine js_iload_n rfl ?_
      refine js_iadd ?_
      subst hf
      exact js_iret rfl rfl
    · refine js_look (off := 49) (tgt := 64) rfl (jsw_1 hk0 hk1) rfl rfl ?_
      refine jR_in rfl ⟨rfl, rfl, rfl⟩ rfl ?_
      refine js_iconst (v := (5 : Int32)) rfl ?_
      refine js_iload_n rfl ?_
      refine js_imul ?_
      subst hf
      exact js_iret rfl rfl
/-! SwallowsAir$World.span(II)I -/
def f_W_span (a0 : Int32) (a1 : Int32) : Int32 :=
  (((1 : Int32) <<< ((a1 + (1 : Int32)) &&& 31)) - ((1 : Int32) <<< (a0 &&& 31)))
theorem t_W_span {Ln : Nat} {xs : Nat → Int32} {sv : jp_V} {a0 : Int32} {a1 : Int32} {w : Nat} {M : jp_M} {res : Int32} (hf : f_W_span a0 a1 = res) : jE (jZ (jK Ln xs sv)) 0 103 [(.inl a0), (.inl a1)] (jSH w) M (some (.inl res), jSH w, M) := by
  unfold f_W_span at hf
  refine jE_in (L0 := [some (.inl a0), some (.inl a1)]) rfl (by decide) rfl (fun d hd => ?_)
  refine jR_in rfl ⟨rfl, rfl, rfl⟩ rfl ?_
  refine js_iconst (v := (1 : Int32)) rfl ?_
  refine js_iload_n rfl ?_
  refine js_iconst (v := (1 : Int32)) rfl ?_
  refine js_iadd ?_
  refine js_ishl ?_
  refine js_iconst (v := (1 : Int32)) rfl ?_
  refine js_iload_n rfl ?_
  refine js_ishl ?_
  refine js_isub ?_
  subst hf
  exact js_iret rfl rfl
/-! SwallowsAir$World.usedAbove(I)I -/
def f_W_usedAbove_49 (c4 : Int32 → Int32 → Int32 → jp_M → Option (Int32)) (l1 : Int32) (l2 : Int32) (l3 : Int32) (M : jp_M) : Option (Int32) :=
  c4 l1 l2 (l3 + (8 : Int32)) M
theorem t_W_usedAbove_49 {Ln : Nat} {xs : Nat → Int32} {sv : jp_V} {d : Nat} (hd : 1 ≤ d) {c4 : Int32 → Int32 → Int32 → jp_M → Option (Int32)} (hc4 : ∀ (l1 : Int32) (l2 : Int32) (l3 : Int32) (w : Nat) (M : jp_M) (res : Int32), c4 l1 l2 l3 M = some res → jR (jZ (jK Ln xs sv)) d 102 4 ([some (.inr (some 2)), some (.inl l1), some (.inl l2), some (.inl l3)], [], jSH w, M) (some (.inl res), jSH w, M)) (l1 : Int32) (l2 : Int32) (l3 : Int32) (w : Nat) (M : jp_M) {res : Int32} (hf : f_W_usedAbove_49 c4 l1 l2 l3 M = some res) : jR (jZ (jK Ln xs sv)) d 102 49 ([some (.inr (some 2)), some (.inl l1), some (.inl l2), some (.inl l3)], [], jSH w, M) (some (.inl res), jSH w, M) := by
  unfold f_W_usedAbove_49 at hf
  refine jR_in rfl ⟨rfl, rfl, rfl⟩ rfl ?_
  refine js_iinc (v := (8 : Int32)) rfl rfl rfl rfl ?_
  refine js_goto (tgt := 4) rfl rfl ?_
  exact hc4 _ _ _ _ _ _ hf
def f_W_usedAbove_4  : Nat → Int32 → Int32 → Int32 → jp_M → Option (Int32)
  | 0, _, _, _, _ => none
  | n + 1, l1, l2, l3, M =>
    if jp_c .ge l3 ((8 : Int32) * (M 2 6)) = true then (
    some l2) else (
    jg (jp_in (l3 + (3 : Int32)) 128) (
    if jp_c .ne (M 5 (Int32.toNatClampNeg (l3 + (3 : Int32)))) l1 = true then (
    f_W_usedAbove_49 (f_W_usedAbove_4 n ) l1 l2 l3 M) else (
    jg (jp_in (l3 + (4 : Int32)) 128) (
    jg (jp_in (l3 + (5 : Int32)) 128) (
    f_W_usedAbove_49 (f_W_usedAbove_4 n ) l1 (l2 ||| (f_W_span (M 5 (Int32.toNatClampNeg (l3 + (4 : Int32)))) (M 5 (Int32.toNatClampNeg (l3 + (5 : Int32)))))) l3 M)))))
theorem t_W_usedAbove_4 {Ln : Nat} {xs : Nat → Int32} {sv : jp_V} {d : Nat} (hd : 1 ≤ d)  : ∀ (n : Nat) (l1 : Int32) (l2 : Int32) (l3 : Int32) (w : Nat) (M : jp_M) {res : Int32}, f_W_usedAbove_4 n  l1 l2 l3 M = some res → jR (jZ (jK Ln xs sv)) d 102 4 ([some (.inr (some 2)), some (.inl l1), some (.inl l2), some (.inl l3)], [], jSH w, M) (some (.inl res), jSH w, M) := by
  intro n
  induction n with
  | zero =>
    intro l1 l2 l3 w M res hf
    cases hf
  | succ n ih =>
    intro l1 l2 l3 w M res hf
    rw [f_W_usedAbove_4] at hf
    refine jR_in rfl ⟨rfl, rfl, rfl⟩ rfl ?_
    refine js_iload_n rfl ?_
    refine js_bipush (v := (8 : Int32)) rfl ?_
    refine js_aload_n rfl ?_
    refine js_geti rfl rfl rfl ?_
    refine js_imul ?_
    refine js_icmp (tgt := 55) rfl rfl (fun h => ?_) (fun h => ?_)
    · have hf := jif_t hf h
      refine jR_in rfl ⟨rfl, rfl, rfl⟩ rfl ?_
      refine js_iload_n rfl ?_
      cases hf
      exact js_iret rfl rfl
    · have hf := jif_f hf h
      refine js_aload_n rfl ?_
      refine js_getr rfl rfl rfl ?_
      refine js_iload_n rfl ?_
      refine js_iconst (v := (3 : Int32)) rfl ?_
      refine js_iadd ?_
      obtain ⟨hb1, hf⟩ := jg_some hf
      refine js_iald rfl hb1 ?_
      refine js_iload_n rfl ?_
      refine js_icmp (tgt := 49) rfl rfl (fun h => ?_) (fun h => ?_)
      · have hf := jif_t hf h
        exact t_W_usedAbove_49 hd (fun l1 l2 l3 w M res hf => ih l1 l2 l3 w M hf) _ _ _ _ _ hf
      · have hf := jif_f hf h
        refine js_iload_n rfl ?_
        refine js_aload_n rfl ?_
        refine js_getr rfl rfl rfl ?_
        refine js_iload_n rfl ?_
        refine js_iconst (v := (4 : Int32)) rfl ?_
        refine js_iadd ?_
        obtain ⟨hb2, hf⟩ := jg_some hf
        refine js_iald rfl hb2 ?_
        refine js_aload_n rfl ?_
        refine js_getr rfl rfl rfl ?_
        refine js_iload_n rfl ?_
        refine js_iconst (v := (5 : Int32)) rfl ?_
        refine js_iadd ?_
        obtain ⟨hb3, hf⟩ := jg_some hf
        refine js_iald rfl hb3 ?_
        refine js_c2i rfl rfl ⟨rfl, rfl⟩ rfl rfl (t_W_span rfl) (by omega) ?_
        refine js_ior ?_
        refine js_istore_n rfl rfl ?_
        exact jS_out rfl ⟨rfl, rfl, rfl⟩ rfl (t_W_usedAbove_49 hd (fun l1 l2 l3 w M res hf => ih l1 l2 l3 w M hf) _ _ _ _ _ hf)
def f_W_usedAbove (a1 : Int32) (M : jp_M) : Option (Int32) :=
  f_W_usedAbove_4 jFu a1 (0 : Int32) (0 : Int32) M
theorem t_W_usedAbove {Ln : Nat} {xs : Nat → Int32} {sv : jp_V} {a1 : Int32} {w : Nat} {M : jp_M} {res : Int32} (hf : f_W_usedAbove a1 M = some res) : jE (jZ (jK Ln xs sv)) 1 102 [(.inr (some 2)), (.inl a1)] (jSH w) M (some (.inl res), jSH w, M) := by
  unfold f_W_usedAbove at hf
  refine jE_in (L0 := [some (.inr (some 2)), some (.inl a1), some (.inl (0 : Int32)), some (.inl (0 : Int32))]) rfl (by decide) rfl (fun d hd => ?_)
  refine jR_in rfl ⟨rfl, rfl, rfl⟩ rfl ?_
  refine js_iconst (v := (0 : Int32)) rfl ?_
  refine js_istore_n rfl rfl ?_
  refine js_iconst (v := (0 : Int32)) rfl ?_
  refine js_istore_n rfl rfl ?_
  exact jS_out rfl ⟨rfl, rfl, rfl⟩ rfl (t_W_usedAbove_4 hd jFu _ _ _ _ _ hf)
/-! java/lang/String.coder()B -/
def f_JS_coder  : Int32 :=
  if jp_c .eq (1 : Int32) 0 = true then (
  (1 : Int32)) else (
  (0 : Int32))
theorem t_JS_coder {Ln : Nat} {xs : Nat → Int32} {sv : jp_V} {w : Nat} {M : jp_M} {res : Int32} (hf : f_JS_coder  = res) : jE (jZ (jK Ln xs sv)) 0 307 [(.inr (some 1000))] (jSH w) M (some (.inl res), jSH w, M) := by
  unfold f_JS_coder at hf
  refine jE_in (L0 := [some (.inr (some 1000))]) rfl (by decide) rfl (fun d hd => ?_)
  refine jR_in rfl ⟨rfl, rfl, rfl⟩ rfl ?_
  refine js_gets rfl ?_
  refine js_ifc (tgt := 13) rfl rfl (fun h => ?_) (fun h => ?_)
  · have hf := jif_t hf h
    refine jR_in rfl ⟨rfl, rfl, rfl⟩ rfl ?_
    refine js_iconst (v := (1 : Int32)) rfl ?_
    subst hf
    exact js_iret rfl rfl
  · have hf := jif_f hf h
    refine js_aload_n rfl ?_
    refine js_getK rfl rfl ?_
    refine js_goto (tgt := 14) rfl rfl ?_
    refine jR_in rfl ⟨rfl, rfl, rfl⟩ rfl ?_
    subst hf
    exact js_iret rfl rfl
/-! java/lang/String.length()I -/
def f_JS_length  : Int32 :=
  ((85 : Int32) >>> ((f_JS_coder) &&& 31))
theorem t_JS_length {Ln : Nat} {xs : Nat → Int32} {sv : jp_V} {w : Nat} {M : jp_M} {res : Int32} (hf : f_JS_length  = res) : jE (jZ (jK Ln xs sv)) 1 303 [(.inr (some 1000))] (jSH w) M (some (.inl res), jSH w, M) := by
  unfold f_JS_length at hf
  refine jE_in (L0 := [some (.inr (some 1000))]) rfl (by decide) rfl (fun d hd => ?_)
  refine jR_in rfl ⟨rfl, rfl, rfl⟩ rfl ?_
  refine js_aload_n rfl ?_
  refine js_getK rfl rfl ?_
  refine js_alenK (v := (85 : Int32)) rfl rfl rfl ?_
  refine js_aload_n rfl ?_
  refine js_c1i rfl rfl ⟨rfl, rfl⟩ rfl rfl (t_JS_coder rfl) (by omega) ?_
  refine js_ishr ?_
  subst hf
  exact js_iret rfl rfl
/-! java/lang/String.isLatin1()Z -/
def f_JS_isLatin1  : Int32 :=
  if jp_c .eq (1 : Int32) 0 = true then (
  (0 : Int32)) else (
  if jp_c .ne (0 : Int32) 0 = true then (
  (0 : Int32)) else (
  (1 : Int32)))
theorem t_JS_isLatin1 {Ln : Nat} {xs : Nat → Int32} {sv : jp_V} {w : Nat} {M : jp_M} {res : Int32} (hf : f_JS_isLatin1  = res) : jE (jZ (jK Ln xs sv)) 0 308 [(.inr (some 1000))] (jSH w) M (some (.inl res), jSH w, M) := by
  unfold f_JS_isLatin1 at hf
  refine jE_in (L0 := [some (.inr (some 1000))]) rfl (by decide) rfl (fun d hd => ?_)
  refine jR_in rfl ⟨rfl, rfl, rfl⟩ rfl ?_
  refine js_gets rfl ?_
  refine js_ifc (tgt := 17) rfl rfl (fun h => ?_) (fun h => ?_)
  · have hf := jif_t hf h
    refine jR_in rfl ⟨rfl, rfl, rfl⟩ rfl ?_
    refine js_iconst (v := (0 : Int32)) rfl ?_
    subst hf
    exact js_iret rfl rfl
  · have hf := jif_f hf h
    refine js_aload_n rfl ?_
    refine js_getK rfl rfl ?_
    refine js_ifc (tgt := 17) rfl rfl (fun h => ?_) (fun h => ?_)
    · have hf := jif_t hf h
      refine jR_in rfl ⟨rfl, rfl, rfl⟩ rfl ?_
      refine js_iconst (v := (0 : Int32)) rfl ?_
      subst hf
      exact js_iret rfl rfl
    · have hf := jif_f hf h
      refine js_iconst (v := (1 : Int32)) rfl ?_
      refine js_goto (tgt := 18) rfl rfl ?_
      refine jR_in rfl ⟨rfl, rfl, rfl⟩ rfl ?_
      subst hf
      exact js_iret rfl rfl
theorem b_JS_isLatin1  {res : Int32} (hf : f_JS_isLatin1  = res) : res = 0 ∨ res = 1 := by
  unfold f_JS_isLatin1 at hf
  rcases jif_d hf with ⟨h, hf⟩ | ⟨h, hf⟩
  · subst hf
    exact Or.inl rfl
  · rcases jif_d hf with ⟨h, hf⟩ | ⟨h, hf⟩
    · subst hf
      exact Or.inl rfl
    · subst hf
      exact Or.inr rfl
/-! jdk/internal/util/Preconditions.checkIndex(IILjava/util/function/BiFunction;)I -/
def f_JP_checkIndex_9  (l0 : Int32) (l1 : Int32) : Int32 :=
  none
theorem t_JP_checkIndex_9 {Ln : Nat} {xs : Nat → Int32} {sv : jp_V} {d : Nat} (hd : 0 ≤ d)  (l0 : Int32) (l1 : Int32) (w : Nat) (M : jp_M) {res : Int32} (hf : f_JP_checkIndex_9  l0 l1 = res) : jR (jZ (jK Ln xs sv)) d 314 9 ([some (.inl l0), some (.inl l1), some sv], [], jSH w, M) (some (.inl res), jSH w, M) := by
  unfold f_JP_checkIndex_9 at hf
  refine jR_in rfl ⟨rfl, rfl, rfl⟩ rfl ?_
  refine js_aload_n rfl ?_
  refine js_iload_n rfl ?_
  refine js_iload_n rfl ?_
  cases hf
def f_JP_checkIndex (a0 : Int32) (a1 : Int32) : Int32 :=
  if jp_c .lt a0 0 = true then (
  f_JP_checkIndex_9 a0 a1) else (
  if jp_c .lt a0 a1 = true then (
  a0) else (
  f_JP_checkIndex_9 a0 a1))
theorem t_JP_checkIndex {Ln : Nat} {xs : Nat → Int32} {sv : jp_V} {a0 : Int32} {a1 : Int32} {w : Nat} {M : jp_M} {res : Int32} (hf : f_JP_checkIndex a0 a1 = res) : jE (jZ (jK Ln xs sv)) 0 314 [(.inl a0), (.inl a1), sv] (jSH w) M (some (.inl res), jSH w, M) := by
  unfold f_JP_checkIndex at hf
  refine jE_in (L0 := [some (.inl a0), some (.inl a1), some sv]) rfl (by decide) rfl (fun d hd => ?_)
  refine jR_in rfl ⟨rfl, rfl, rfl⟩ rfl ?_
  refine js_iload_n rfl ?_
  refine js_ifc (tgt := 9) rfl rfl (fun h => ?_) (fun h => ?_)
  · have hf := jif_t hf h
    exact t_JP_checkIndex_9 hd _ _ _ _ hf
  · have hf := jif_f hf h
    refine js_iload_n rfl ?_
    refine js_iload_n rfl ?_
    refine js_icmp (tgt := 16) rfl rfl (fun h => ?_) (fun h => ?_)
    · have hf := jif_t hf h
      refine jR_in rfl ⟨rfl, rfl, rfl⟩ rfl ?_
      refine js_iload_n rfl ?_
      subst hf
      exact js_iret rfl rfl
    · have hf := jif_f hf h
      exact jS_out rfl ⟨rfl, rfl, rfl⟩ rfl (t_JP_checkIndex_9 hd _ _ _ _ hf)
/-! java/lang/String.checkIndex(II)V -/
def f_JS_checkIndex (a0 : Int32) (a1 : Int32) : Unit :=
  ()
theorem t_JS_checkIndex {Ln : Nat} {xs : Nat → Int32} {sv : jp_V} {a0 : Int32} {a1 : Int32} {w : Nat} {M : jp_M} {res : Unit} (hf : f_JS_checkIndex a0 a1 = res) : jE (jZ (jK Ln xs sv)) 1 309 [(.inl a0), (.inl a1)] (jSH w) M (none, jSH w, M) := by
  unfold f_JS_checkIndex at hf
  refine jE_in (L0 := [some (.inl a0), some (.inl a1)]) rfl (by decide) rfl (fun d hd => ?_)
  refine jR_in rfl ⟨rfl, rfl, rfl⟩ rfl ?_
  refine js_iload_n rfl ?_
  refine js_iload_n rfl ?_
  refine js_gets rfl ?_
  refine js_c3i rfl rfl ⟨rfl, rfl⟩ rfl rfl (t_JP_checkIndex rfl) (by omega) ?_
  refine js_pop ?_
  skip
  exact js_ret rfl rfl
/-! java/lang/StringLatin1.charAt([BI)C -/
def f_JL_charAt (a1 : Int32) : Option (Int32) :=
  jg (jp_in a1 85) (
  jg (jp_rok 3 ((Int32.toUInt32 ((jcon 2002 (Int32.toNatClampNeg a1)) &&& (255 : Int32)) % 65536).toInt32) = true) (
  some ((Int32.toUInt32 ((jcon 2002 (Int32.toNatClampNeg a1)) &&& (255 : Int32)) % 65536).toInt32)))
theorem t_JL_charAt {Ln : Nat} {xs : Nat → Int32} {sv : jp_V} {a1 : Int32} {w : Nat} {M : jp_M} {res : Int32} (hf : f_JL_charAt a1 = some res) : jE (jZ (jK Ln xs sv)) 2 310 [(.inr (some 2002)), (.inl a1)] (jSH w) M (some (.inl res), jSH w, M) := by
  unfold f_JL_charAt at hf
  refine jE_in (L0 := [some (.inr (some 2002)), some (.inl a1)]) rfl (by decide) rfl (fun d hd => ?_)
  refine jR_in rfl ⟨rfl, rfl, rfl⟩ rfl ?_
  refine js_iload_n rfl ?_
  refine js_aload_n rfl ?_
  refine js_alenK (v := (85 : Int32)) rfl rfl rfl ?_
  refine js_c2v rfl rfl ⟨rfl, rfl⟩ rfl rfl (t_JS_checkIndex rfl) (by omega) ?_
  refine js_aload_n rfl ?_
  refine js_iload_n rfl ?_
  obtain ⟨hb2, hf⟩ := jg_some hf
  refine js_baldK rfl rfl hb2 ?_
  refine js_sipush (v := (255 : Int32)) rfl ?_
  refine js_iand ?_
  refine js_i2c ?_
  obtain ⟨hb3, hf⟩ := jg_some hf
  cases hf
  exact js_iret hb3 rfl
/-! java/lang/String.charAt(I)C -/
def f_JS_charAt (a1 : Int32) : Option (Int32) :=
  if jp_c .eq (f_JS_isLatin1) 0 = true then (
  none) else (
  (f_JL_charAt a1).bind fun q2 => (
  jg (jp_rok 3 q2 = true) (
  some q2)))
theorem t_JS_charAt {Ln : Nat} {xs : Nat → Int32} {sv : jp_V} {a1 : Int32} {w : Nat} {M : jp_M} {res : Int32} (hf : f_JS_charAt a1 = some res) : jE (jZ (jK Ln xs sv)) 3 304 [(.inr (some 1000)), (.inl a1)] (jSH w) M (some (.inl res), jSH w, M) := by
  unfold f_JS_charAt at hf
  refine jE_in (L0 := [some (.inr (some 1000)), some (.inl a1)]) rfl (by decide) rfl (fun d hd => ?_)
  refine jR_in rfl ⟨rfl, rfl, rfl⟩ rfl ?_
  refine js_aload_n rfl ?_
  refine js_c1i rfl rfl ⟨rfl, rfl⟩ rfl rfl (t_JS_isLatin1 rfl) (by omega) ?_
  refine js_ifc (tgt := 16) rfl rfl (fun h => ?_) (fun h => ?_)
  · have hf := jif_t hf h
    refine jR_in rfl ⟨rfl, rfl, rfl⟩ rfl ?_
    refine js_aload_n rfl ?_
    refine js_getK rfl rfl ?_
    refine js_iload_n rfl ?_
    cases hf
  · have hf := jif_f hf h
    refine js_aload_n rfl ?_
    refine js_getK rfl rfl ?_
    refine js_iload_n rfl ?_
    obtain ⟨q2, hc_2, hf⟩ := jbind hf
    refine js_c2i rfl rfl ⟨rfl, rfl⟩ rfl rfl (t_JL_charAt hc_2) (by omega) ?_
    obtain ⟨hb3, hf⟩ := jg_some hf
    cases hf
    exact js_iret hb3 rfl
/-! SwallowsAir$Reader.wordNumber()I -/
def f_R_wordNumber_101 (c9 : Int32 → Int32 → Int32 → Int32 → jp_M → Option (Int32)) (l1 : Int32) (l2 : Int32) (l3 : Int32) (l4 : Int32) (M : jp_M) : Option (Int32) :=
  c9 l1 l2 l3 (l4 + (1 : Int32)) M
theorem t_R_wordNumber_101 {Ln : Nat} {xs : Nat → Int32} {sv : jp_V} {d : Nat} (hd : 4 ≤ d) {c9 : Int32 → Int32 → Int32 → Int32 → jp_M → Option (Int32)} (hc9 : ∀ (l1 : Int32) (l2 : Int32) (l3 : Int32) (l4 : Int32) (o5 : Option jp_V) (M : jp_M) (res : Int32), c9 l1 l2 l3 l4 M = some res → jR (jZ (jK Ln xs sv)) d 71 12 ([some (.inr (some 68)), some (.inl l1), some (.inl l2), some (.inl l3), some (.inl l4), o5], [], jSH 1000, M) (some (.inl res), jSH 1000, M)) (l1 : Int32) (l2 : Int32) (l3 : Int32) (l4 : Int32) (o5 : Option jp_V) (M : jp_M) {res : Int32} (hf : f_R_wordNumber_101 c9 l1 l2 l3 l4 M = some res) : jR (jZ (jK Ln xs sv)) d 71 101 ([some (.inr (some 68)), some (.inl l1), some (.inl l2), some (.inl l3), some (.inl l4), o5], [], jSH 1000, M) (some (.inl res), jSH 1000, M) := by
  unfold f_R_wordNumber_101 at hf
  refine jR_in rfl ⟨rfl, rfl, rfl⟩ rfl ?_
  refine js_iinc (v := (1 : Int32)) rfl rfl rfl rfl ?_
  refine js_goto (tgt := 12) rfl rfl ?_
  exact hc9 _ _ _ _ _ _ _ hf
def f_R_wordNumber_70 (c9 : Int32 → Int32 → Int32 → Int32 → jp_M → Option (Int32)) (l1 : Int32) (l2 : Int32) (l4 : Int32) (s0 : Int32) (M : jp_M) : Option (Int32) :=
  f_R_wordNumber_101 c9 l1 (l2 + (1 : Int32)) s0 l4 M
theorem t_R_wordNumber_70 {Ln : Nat} {xs : Nat → Int32} {sv : jp_V} {d : Nat} (hd : 4 ≤ d) {c9 : Int32 → Int32 → Int32 → Int32 → jp_M → Option (Int32)} (hc9 : ∀ (l1 : Int32) (l2 : Int32) (l3 : Int32) (l4 : Int32) (o5 : Option jp_V) (M : jp_M) (res : Int32), c9 l1 l2 l3 l4 M = some res → jR (jZ (jK Ln xs sv)) d 71 12 ([some (.inr (some 68)), some (.inl l1), some (.inl l2), some (.inl l3), some (.inl l4), o5], [], jSH 1000, M) (some (.inl res), jSH 1000, M)) (l1 : Int32) (l2 : Int32) (l4 : Int32) (s0 : Int32) (o3 : Option jp_V) (o5 : Option jp_V) (M : jp_M) {res : Int32} (hf : f_R_wordNumber_70 c9 l1 l2 l4 s0 M = some res) : jR (jZ (jK Ln xs sv)) d 71 70 ([some (.inr (some 68)), some (.inl l1), some (.inl l2), o3, some (.inl l4), o5], [.inl s0], jSH 1000, M) (some (.inl res), jSH 1000, M) := by
  unfold f_R_wordNumber_70 at hf
  refine jR_in rfl ⟨rfl, rfl, rfl⟩ rfl ?_
  refine js_istore_n rfl rfl ?_
  refine js_iinc (v := (1 : Int32)) rfl rfl rfl rfl ?_
  refine js_goto (tgt := 101) rfl rfl ?_
  exact t_R_wordNumber_101 hd hc9 _ _ _ _ _ _ hf
def f_R_wordNumber_69 (c9 : Int32 → Int32 → Int32 → Int32 → jp_M → Option (Int32)) (l1 : Int32) (l2 : Int32) (l4 : Int32) (M : jp_M) : Option (Int32) :=
  f_R_wordNumber_70 c9 l1 l2 l4 (0 : Int32) M
theorem t_R_wordNumber_69 {Ln : Nat} {xs : Nat → Int32} {sv : jp_V} {d : Nat} (hd : 4 ≤ d) {c9 : Int32 → Int32 → Int32 → Int32 → jp_M → Option (Int32)} (hc9 : ∀ (l1 : Int32) (l2 : Int32) (l3 : Int32) (l4 : Int32) (o5 : Option jp_V) (M : jp_M) (res : Int32), c9 l1 l2 l3 l4 M = some res → jR (jZ (jK Ln xs sv)) d 71 12 ([some (.inr (some 68)), some (.inl l1), some (.inl l2), some (.inl l3), some (.inl l4), o5], [], jSH 1000, M) (some (.inl res), jSH 1000, M)) (l1 : Int32) (l2 : Int32) (l4 : Int32) (o3 : Option jp_V) (o5 : Option jp_V) (M : jp_M) {res : Int32} (hf : f_R_wordNumber_69 c9 l1 l2 l4 M = some res) : jR (jZ (jK Ln xs sv)) d 71 69 ([some (.inr (some 68)), some (.inl l1), some (.inl l2), o3, some (.inl l4), o5], [], jSH 1000, M) (some (.inl res), jSH 1000, M) := by
  unfold f_R_wordNumber_69 at hf
  refine jR_in rfl ⟨rfl, rfl, rfl⟩ rfl ?_
  refine js_iconst (v := (0 : Int32)) rfl ?_
  exact jS_out rfl ⟨rfl, rfl, rfl⟩ rfl (t_R_wordNumber_70 hd hc9 _ _ _ _ _ _ _ hf)
def f_R_wordNumber_91 (c9 : Int32 → Int32 → Int32 → Int32 → jp_M → Option (Int32)) (l1 : Int32) (l4 : Int32) (M : jp_M) : Option (Int32) :=
  f_R_wordNumber_101 c9 (l1 + (1 : Int32)) (M 68 3) (1 : Int32) l4 M
theorem t_R_wordNumber_91 {Ln : Nat} {xs : Nat → Int32} {sv : jp_V} {d : Nat} (hd : 4 ≤ d) {c9 : Int32 → Int32 → Int32 → Int32 → jp_M → Option (Int32)} (hc9 : ∀ (l1 : Int32) (l2 : Int32) (l3 : Int32) (l4 : Int32) (o5 : Option jp_V) (M : jp_M) (res : Int32), c9 l1 l2 l3 l4 M = some res → jR (jZ (jK Ln xs sv)) d 71 12 ([some (.inr (some 68)), some (.inl l1), some (.inl l2), some (.inl l3), some (.inl l4), o5], [], jSH 1000, M) (some (.inl res), jSH 1000, M)) (l1 : Int32) (l4 : Int32) (o2 : Option jp_V) (o3 : Option jp_V) (o5 : Option jp_V) (M : jp_M) {res : Int32} (hf : f_R_wordNumber_91 c9 l1 l4 M = some res) : jR (jZ (jK Ln xs sv)) d 71 91 ([some (.inr (some 68)), some (.inl l1), o2, o3, some (.inl l4), o5], [], jSH 1000, M) (some (.inl res), jSH 1000, M) := by
  unfold f_R_wordNumber_91 at hf
  refine jR_in rfl ⟨rfl, rfl, rfl⟩ rfl ?_
  refine js_iinc (v := (1 : Int32)) rfl rfl rfl rfl ?_
  refine js_aload_n rfl ?_
  refine js_geti rfl rfl rfl ?_
  refine js_istore_n rfl rfl ?_
  refine js_iconst (v := (1 : Int32)) rfl ?_
  refine js_istore_n rfl rfl ?_
  exact jS_out rfl ⟨rfl, rfl, rfl⟩ rfl (t_R_wordNumber_101 hd hc9 _ _ _ _ _ _ hf)
def f_R_wordNumber_12  : Nat → Int32 → Int32 → Int32 → Int32 → jp_M → Option (Int32)
  | 0, _, _, _, _, _ => none
  | n + 1, l1, l2, l3, l4, M =>
    if jp_c .ge l4 (f_JS_length) = true then (
    some (-1 : Int32)) else (
    (f_JS_charAt l4).bind fun q2 => (
    if jp_c .eq q2 (32 : Int32) = true then (
    if jp_c .eq l3 0 = true then (
    f_R_wordNumber_91 (f_R_wordNumber_12 n ) l1 l4 M) else (
    if jp_c .ne l2 (M 68 4) = true then (
    f_R_wordNumber_91 (f_R_wordNumber_12 n ) l1 l4 M) else (
    some l1))) else (
    if jp_c .eq l3 0 = true then (
    f_R_wordNumber_69 (f_R_wordNumber_12 n ) l1 l2 l4 M) else (
    if jp_c .ge l2 (M 68 4) = true then (
    f_R_wordNumber_69 (f_R_wordNumber_12 n ) l1 l2 l4 M) else (
    jg (jp_in l2 400) (
    if jp_c .ne (Int32.toInt8 (M 67 (Int32.toNatClampNeg l2))).toInt32 q2 = true then (
    f_R_wordNumber_69 (f_R_wordNumber_12 n ) l1 l2 l4 M) else (
    f_R_wordNumber_70 (f_R_wordNumber_12 n ) l1 l2 l4 (1 : Int32) M)))))))
theorem t_R_wordNumber_12 {Ln : Nat} {xs : Nat → Int32} {sv : jp_V} {d : Nat} (hd : 4 ≤ d)  : ∀ (n : Nat) (l1 : Int32) (l2 : Int32) (l3 : Int32) (l4 : Int32) (o5 : Option jp_V) (M : jp_M) {res : Int32}, f_R_wordNumber_12 n  l1 l2 l3 l4 M = some res → jR (jZ (jK Ln xs sv)) d 71 12 ([some (.inr (some 68)), some (.inl l1), some (.inl l2), some (.inl l3), some (.inl l4), o5], [], jSH 1000, M) (some (.inl res), jSH 1000, M) := by
  intro n
  induction n with
  | zero =>
    intro l1 l2 l3 l4 o5 M res hf
    cases hf
  | succ n ih =>
    intro l1 l2 l3 l4 o5 M res hf
    rw [f_R_wordNumber_12] at hf
    refine jR_in rfl ⟨rfl, rfl, rfl⟩ rfl ?_
    refine js_iload rfl ?_
    refine js_aload_n rfl ?_
    refine js_getr rfl rfl rfl ?_
    refine js_c1i rfl rfl ⟨rfl, rfl⟩ rfl rfl (t_JS_length rfl) (by omega) ?_
    refine js_icmp (tgt := 107) rfl rfl (fun h => ?_) (fun h => ?_)
    · have hf := jif_t hf h
      refine jR_in rfl ⟨rfl, rfl, rfl⟩ rfl ?_
      refine js_iconst (v := (-1 : Int32)) rfl ?_
      cases hf
      exact js_iret rfl rfl
    · have hf := jif_f hf h
      refine js_aload_n rfl ?_
      refine js_getr rfl rfl rfl ?_
      refine js_iload rfl ?_
      obtain ⟨q2, hc_2, hf⟩ := jbind hf
      refine js_c2i rfl rfl ⟨rfl, rfl⟩ rfl rfl (t_JS_charAt hc_2) (by omega) ?_
      refine js_istore rfl rfl ?_
      refine js_iload rfl ?_
      refine js_bipush (v := (32 : Int32)) rfl ?_
      refine js_icmp (tgt := 77) rfl rfl (fun h => ?_) (fun h => ?_)
      · have hf := jif_t hf h
        refine jR_in rfl ⟨rfl, rfl, rfl⟩ rfl ?_
        refine js_iload_n rfl ?_
        refine js_ifc (tgt := 91) rfl rfl (fun h => ?_) (fun h => ?_)
        · have hf := jif_t hf h
          exact t_R_wordNumber_91 hd (fun l1 l2 l3 l4 o5 M res hf => ih l1 l2 l3 l4 o5 M hf) _ _ _ _ _ _ hf
        · have hf := jif_f hf h
          refine js_iload_n rfl ?_
          refine js_aload_n rfl ?_
          refine js_geti rfl rfl rfl ?_
          refine js_icmp (tgt := 91) rfl rfl (fun h => ?_) (fun h => ?_)
          · have hf := jif_t hf h
            exact t_R_wordNumber_91 hd (fun l1 l2 l3 l4 o5 M res hf => ih l1 l2 l3 l4 o5 M hf) _ _ _ _ _ _ hf
          · have hf := jif_f hf h
            refine js_iload_n rfl ?_
            cases hf
            exact js_iret rfl rfl
      · have hf := jif_f hf h
        refine js_iload_n rfl ?_
        refine js_ifc (tgt := 69) rfl rfl (fun h => ?_) (fun h => ?_)
        · have hf := jif_t hf h
          exact t_R_wordNumber_69 hd (fun l1 l2 l3 l4 o5 M res hf => ih l1 l2 l3 l4 o5 M hf) _ _ _ _ _ _ hf
        · have hf := jif_f hf h
          refine js_iload_n rfl ?_
          refine js_aload_n rfl ?_
          refine js_geti rfl rfl rfl ?_
          refine js_icmp (tgt := 69) rfl rfl (fun h => ?_) (fun h => ?_)
          · have hf := jif_t hf h
            exact t_R_wordNumber_69 hd (fun l1 l2 l3 l4 o5 M res hf => ih l1 l2 l3 l4 o5 M hf) _ _ _ _ _ _ hf
          · have hf := jif_f hf h
            refine js_aload_n rfl ?_
            refine js_getr rfl rfl rfl ?_
            refine js_iload_n rfl ?_
            obtain ⟨hb3, hf⟩ := jg_some hf
            refine js_bald rfl hb3 ?_
            refine js_iload rfl ?_
            refine js_icmp (tgt := 69) rfl rfl (fun h => ?_) (fun h => ?_)
            · have hf := jif_t hf h
              exact t_R_wordNumber_69 hd (fun l1 l2 l3 l4 o5 M res hf => ih l1 l2 l3 l4 o5 M hf) _ _ _ _ _ _ hf
            · have hf := jif_f hf h
              refine js_iconst (v := (1 : Int32)) rfl ?_
              refine js_goto (tgt := 70) rfl rfl ?_
              exact t_R_wordNumber_70 hd (fun l1 l2 l3 l4 o5 M res hf => ih l1 l2 l3 l4 o5 M hf) _ _ _ _ _ _ _ hf
def f_R_wordNumber (M : jp_M) : Option (Int32) :=
  f_R_wordNumber_12 jFu (0 : Int32) (M 68 3) (1 : Int32) (0 : Int32) M
theorem t_R_wordNumber {Ln : Nat} {xs : Nat → Int32} {sv : jp_V} {M : jp_M} {res : Int32} (hf : f_R_wordNumber M = some res) : jE (jZ (jK Ln xs sv)) 4 71 [(.inr (some 68))] (jSH 1000) M (some (.inl res), jSH 1000, M) := by
  unfold f_R_wordNumber at hf
  refine jE_in (L0 := [some (.inr (some 68)), some (.inl (0 : Int32)), some (.inl (M 68 3)), some (.inl (1 : Int32)), some (.inl (0 : Int32)), none]) rfl (by decide) rfl (fun d hd => ?_)
  refine jR_in rfl ⟨rfl, rfl, rfl⟩ rfl ?_
  refine js_iconst (v := (0 : Int32)) rfl ?_
  refine js_istore_n rfl rfl ?_
  refine js_aload_n rfl ?_
  refine js_geti rfl rfl rfl ?_
  refine js_istore_n rfl rfl ?_
  refine js_iconst (v := (1 : Int32)) rfl ?_
  refine js_istore_n rfl rfl ?_
  refine js_iconst (v := (0 : Int32)) rfl ?_
  refine js_istore rfl rfl ?_
  exact jS_out rfl ⟨rfl, rfl, rfl⟩ rfl (t_R_wordNumber_12 hd jFu _ _ _ _ _ _ hf)
